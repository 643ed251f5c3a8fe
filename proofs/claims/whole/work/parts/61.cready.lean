/-! the class: ready, where, in time (printed by wip/whole/m61.py) -/
abbrev dnV (q : Nat) (f : Nat → Int32) : Prop := ndK q ≤ f 3 ∧ f 7 = 0
def raF (y cc cf cr : Nat → Int32) (L q : Nat) (dn : Int32) : Nat → Nat → (Nat → Int32) → Int32
  | 0, _, _ => dn
  | r + 1, k, f => if ¬ f 7 = 0 ∨ ndK q ≤ f 3 then dn else if dnV q (rsV y cc cf cr L q (nI k) f) then nI (k + 1) else raF y cc cf cr L q dn r (k + 1) (rsV y cc cf cr L q (nI k) f)
def dn0 (q : Nat) (f : Nat → Int32) : Int32 := if dnV q f then 0 else -1000000
theorem c_doneT {d : Nat} {h : Hp} {Q : Option AV → Hp → Prop} {b m L e q j : Nat} {f : Nat → Int32} (g : GI h b m L e) (hb : b = 17 ∨ b = 31) (hj : j < 6) (k : Q (some (vI (bI (dnV (kq h (b + 8 + j)) (hi h (b + 8 + j)))))) (tH h q f)) : Spec (d + 1) 49 [vR (some (b + 8 + j))] (tH h q f) Q := by
  have g2 := g.t (q := q) (f := f) hb
  refine t_isDone (q := kq h (b + 8 + j)) g2.1 (shT hb hj) (by omega) g2.2.2.2.2.1 (by rw [tH_r (by omega)]; exact (g.2.2.2.2.2 j hj).1) (g.2.2.2.2.2 j hj).2 ?_
  rw [tH_o (by omega)]
  exact k
theorem c_readyAt {d : Nat} {h : Hp} {Q : Option AV → Hp → Prop} {b m L e q j w : Nat} {pla : Int32} {f : Nat → Int32} (g : GI h b m L e) (hb : b = 17 ∨ b = 31) (hj : j < 6) (hbz : hi h (b + 8 + j) 7 = 0 ∨ hi h (b + 8 + j) 7 = 1) (hw1 : w ≤ 60) (kk : ∀ f3, Q (some (vI (raF (hi h b) (hi h (b + 1)) (hi h (b + 2)) (hi h (b + 3)) L (kq h (b + 8 + j)) (dn0 (kq h (b + 8 + j)) (hi h (b + 8 + j))) w 0 (upd (becV f (hi h (b + 8 + j))) 2 pla)))) (tH h (kq h (b + 8 + j)) f3)) : Spec (d + 4) 117 [vR (some 0), vR (some (b + 8 + j)), vI pla, vI (nI w)] (tH h q f) Q := by
  obtain ⟨gN, gC, g5, gc, gK, gT⟩ := g.t (q := q) (f := f) hb
  obtain ⟨hc1, hc2, hc3, hc4, hc5, hc6⟩ := id g.2.2.2.1
  refine spec_intro (by decide +kernel) rfl (Nat.le_of_ble_eq_true rfl) ?_
  refine r_aload_n (pc' := 1) d117_0 rfl rfl rfl ?_
  refine r_getS (pc' := 4) d117_1 rfl o117 sf11_43_11 sh0 (pl gN rfl) (rfc0_4 gC) ?_
  refine r_aload_n (pc' := 5) d117_4 rfl rfl rfl ?_
  refine r_call (pc' := 8) [vR (some 16), vR (some (b + 8 + j))] [] d117_5 rfl o117 st11_303_8 (rcv1 sh16 (pl gN rfl)) rfl (by decide) ⟨rfl, rfl⟩ (Nat.le_of_ble_eq_true rfl) rfl (t_becomeT g hb hj hbz ?_)
  obtain ⟨gN, gC, g5, gc, gK, gT⟩ := g.t (q := kq h (b + 8 + j)) (f := becV f (hi h (b + 8 + j))) hb
  refine r_aload_n (pc' := 9) d117_8 rfl rfl rfl ?_
  refine r_getS (pc' := 12) d117_9 rfl o117 sf11_43_11 sh0 (pl gN rfl) (rfc0_4 gC) ?_
  refine r_iload_n (pc' := 13) d117_12 rfl rfl rfl ?_
  refine r_putI (pc' := 16) d117_13 rfl o117 sp11_195_8 sh16 (fun w => absurd w (by decide)) (Or.inl rfl) (pl gN rfl) ?_
  refine r_iconst (v := 0) (pc' := 17) d117_16 rfl (by decide) ?_
  refine r_istore (pc' := 19) (ls' := [(4, vI _), (0, vR (some 0)), (1, vR (some (b + 8 + j))), (2, vI _), (3, vI _)]) d117_17 rfl (by decide) rfl ?_
  refine wp_pick (ls' := [(0, vR (some 0)), (1, vR (some (b + 8 + j))), (2, vI _), (3, vI _), (4, vI _)]) [1, 2, 3, 4, 0] rfl ?_
  have hq6 := (g.2.2.2.2.2 j hj).2
  rw [tH_i]
  have loop : ∀ (r k : Nat) (f2 : Nat → Int32), k + r = w → (∀ f3, Q (some (vI (raF (hi h b) (hi h (b + 1)) (hi h (b + 2)) (hi h (b + 3)) L (kq h (b + 8 + j)) (dn0 (kq h (b + 8 + j)) (hi h (b + 8 + j))) r k f2))) (tH h (kq h (b + 8 + j)) f3)) → wp (d + 4) 117 Q 0 0 19 [(0, vR (some 0)), (1, vR (some (b + 8 + j))), (2, vI pla), (3, vI (nI w)), (4, vI (nI k))] [] (tH h (kq h (b + 8 + j)) f2) := by
    intro r
    induction r with
    | zero =>
      intro k f2 hk kq0
      obtain ⟨gN, gC, g5, gc, gK, gT⟩ := g.t (q := kq h (b + 8 + j)) (f := f2) hb
      obtain rfl : k = w := by omega
      refine r_iload (pc' := 21) d117_19 rfl rfl ?_
      refine r_iload_n (pc' := 22) d117_21 rfl rfl rfl ?_
      refine r_icmp_ge 79 (pc' := 25) d117_22 rfl rfl (fun c22 => ?_) (fun c22 => absurd (nI_le (Nat.le_refl _) (by omega)) c22)
      refine r_aload_n (pc' := 80) d117_79 rfl rfl rfl ?_
      refine r_call (pc' := 83) [vR (some (b + 8 + j))] [] d117_80 rfl o117 st11_214_8 (rcv1 (shT hb (by omega)) (plo gN (by omega))) rfl (by decide) ⟨rfl, rfl⟩ (Nat.le_of_ble_eq_true rfl) rfl (c_doneT g hb hj ?_)
      refine r_if_eqB 90 (pc' := 86) d117_83 rfl rfl (fun c83 => ?_) (fun c83 => ?_)
      · refine r_ldc (pc' := 92) d117_90 rfl o117 kc11_243 ?_
        exact r_iretI d117_92 rfl (qv (by show dn0 _ _ = _; unfold dn0; first | exact if_pos c83 | exact if_neg c83) (kq0 f2))
      · refine r_iconst (v := 0) (pc' := 87) d117_86 rfl (by decide) ?_
        refine r_goto 92 d117_87 rfl ?_
        exact r_iretI d117_92 rfl (qv (by show dn0 _ _ = _; unfold dn0; first | exact if_pos c83 | exact if_neg c83) (kq0 f2))
    | succ r ih =>
      intro k f2 hk kq0
      obtain ⟨gN, gC, g5, gc, gK, gT⟩ := g.t (q := kq h (b + 8 + j)) (f := f2) hb
      refine r_iload (pc' := 21) d117_19 rfl rfl ?_
      refine r_iload_n (pc' := 22) d117_21 rfl rfl rfl ?_
      refine r_icmp_ge 79 (pc' := 25) d117_22 rfl rfl (fun c22 => absurd c22 (nI_ge (by omega) (by omega))) (fun c22 => ?_)
      refine r_aload_n (pc' := 26) d117_25 rfl rfl rfl ?_
      refine r_getS (pc' := 29) d117_26 rfl o117 sf11_43_11 sh0 (pl gN rfl) (rfc0_4 gC) ?_
      refine r_getI (pc' := 32) d117_29 rfl o117 sf11_250_8 sh16 (pl gN rfl) ?_
      refine r_if_ne 79 (pc' := 35) d117_32 rfl rfl (fun c32 => ?_) (fun c32 => ?_)
      · refine r_aload_n (pc' := 80) d117_79 rfl rfl rfl ?_
        refine r_call (pc' := 83) [vR (some (b + 8 + j))] [] d117_80 rfl o117 st11_214_8 (rcv1 (shT hb (by omega)) (plo gN (by omega))) rfl (by decide) ⟨rfl, rfl⟩ (Nat.le_of_ble_eq_true rfl) rfl (c_doneT g hb hj ?_)
        refine r_if_eqB 90 (pc' := 86) d117_83 rfl rfl (fun c83 => ?_) (fun c83 => ?_)
        · refine r_ldc (pc' := 92) d117_90 rfl o117 kc11_243 ?_
          exact r_iretI d117_92 rfl (qv (by show (if _ then _ else _) = _; rw [if_pos (Or.inl (by rw [tH_16] at c32; exact c32))]; unfold dn0; first | exact if_pos c83 | exact if_neg c83) (kq0 f2))
        · refine r_iconst (v := 0) (pc' := 87) d117_86 rfl (by decide) ?_
          refine r_goto 92 d117_87 rfl ?_
          exact r_iretI d117_92 rfl (qv (by show (if _ then _ else _) = _; rw [if_pos (Or.inl (by rw [tH_16] at c32; exact c32))]; unfold dn0; first | exact if_pos c83 | exact if_neg c83) (kq0 f2))
      · refine r_aload_n (pc' := 36) d117_35 rfl rfl rfl ?_
        refine r_getS (pc' := 39) d117_36 rfl o117 sf11_43_11 sh0 (pl gN rfl) (rfc0_4 gC) ?_
        refine r_call (pc' := 42) [vR (some 16)] [] d117_39 rfl o117 st11_257_8 (rcv1 sh16 (pl gN rfl)) rfl (by decide) ⟨rfl, rfl⟩ (Nat.le_of_ble_eq_true rfl) rfl (t_isThrough gN sh16 (by decide) gK tH_k hq6 ?_)
        refine r_if_neB 79 (pc' := 45) d117_42 rfl rfl (fun c42 => ?_) (fun c42 => ?_)
        · refine r_aload_n (pc' := 80) d117_79 rfl rfl rfl ?_
          refine r_call (pc' := 83) [vR (some (b + 8 + j))] [] d117_80 rfl o117 st11_214_8 (rcv1 (shT hb (by omega)) (plo gN (by omega))) rfl (by decide) ⟨rfl, rfl⟩ (Nat.le_of_ble_eq_true rfl) rfl (c_doneT g hb hj ?_)
          refine r_if_eqB 90 (pc' := 86) d117_83 rfl rfl (fun c83 => ?_) (fun c83 => ?_)
          · refine r_ldc (pc' := 92) d117_90 rfl o117 kc11_243 ?_
            exact r_iretI d117_92 rfl (qv (by show (if _ then _ else _) = _; rw [if_pos (Or.inr (by rw [tH_16] at c42; exact c42))]; unfold dn0; first | exact if_pos c83 | exact if_neg c83) (kq0 f2))
          · refine r_iconst (v := 0) (pc' := 87) d117_86 rfl (by decide) ?_
            refine r_goto 92 d117_87 rfl ?_
            exact r_iretI d117_92 rfl (qv (by show (if _ then _ else _) = _; rw [if_pos (Or.inr (by rw [tH_16] at c42; exact c42))]; unfold dn0; first | exact if_pos c83 | exact if_neg c83) (kq0 f2))
        · refine r_aload_n (pc' := 46) d117_45 rfl rfl rfl ?_
          refine r_getS (pc' := 49) d117_46 rfl o117 sf11_52_11 sh0 (pl gN rfl) g5 ?_
          refine r_aload_n (pc' := 50) d117_49 rfl rfl rfl ?_
          refine r_getS (pc' := 53) d117_50 rfl o117 sf11_43_11 sh0 (pl gN rfl) (rfc0_4 gC) ?_
          refine r_iload (pc' := 55) d117_53 rfl rfl ?_
          refine r_call (pc' := 58) [vR (some b), vR (some 16), vI _] [] d117_55 rfl o117 st11_307_10 (rcv1 (shY hb) (plo gN (by omega))) rfl (by decide) ⟨rfl, rfl⟩ (Nat.le_of_ble_eq_true rfl) rfl (y_roastT g hb hq6 ?_)
          obtain ⟨gN, gC, g5, gc, gK, gT⟩ := g.t (q := (kq h (b + 8 + j))) (f := rsV (hi h b) (hi h (b + 1)) (hi h (b + 2)) (hi h (b + 3)) L (kq h (b + 8 + j)) (nI k) f2) hb
          refine r_aload_n (pc' := 59) d117_58 rfl rfl rfl ?_
          refine r_getS (pc' := 62) d117_59 rfl o117 sf11_43_11 sh0 (pl gN rfl) (rfc0_4 gC) ?_
          refine r_call (pc' := 65) [vR (some 16)] [] d117_62 rfl o117 st11_214_8 (rcv1 sh16 (pl gN rfl)) rfl (by decide) ⟨rfl, rfl⟩ (Nat.le_of_ble_eq_true rfl) rfl (t_isDone gN sh16 (by decide) gK tH_k hq6 ?_)
          refine r_if_eqB 73 (pc' := 68) d117_65 rfl rfl (fun c65 => ?_) (fun c65 => ?_)
          · refine r_iinc (v := _ + 1) (pc' := 76) (ls' := [(4, vI _), (0, vR (some 0)), (1, vR (some (b + 8 + j))), (2, vI _), (3, vI _)]) d117_73 rfl rfl rfl (by decide) rfl ?_
            refine r_goto 19 d117_76 rfl ?_
            refine wp_pick (ls' := [(0, vR (some 0)), (1, vR (some (b + 8 + j))), (2, vI _), (3, vI _), (4, vI _)]) [1, 2, 3, 4, 0] rfl ?_
            rw [nI_1]
            refine ih (k + 1) _ (by omega) (fun f3 => qv ?_ (kq0 f3))
            show (if _ then _ else _) = _
            rw [if_neg (fun z => z.elim (fun y => y (by rw [tH_16] at c32; exact c32)) (fun y => c42 (by rw [tH_16]; exact y))), if_neg (by rw [tH_16] at c65; exact c65)]
          · refine r_iload (pc' := 70) d117_68 rfl rfl ?_
            refine r_iconst (v := 1) (pc' := 71) d117_70 rfl (by decide) ?_
            refine r_iadd (pc' := 72) d117_71 rfl ?_
            exact r_iretI d117_72 rfl (qv (by show (if _ then _ else _) = _; rw [if_neg (fun z => z.elim (fun y => y (by rw [tH_16] at c32; exact c32)) (fun y => c42 (by rw [tH_16]; exact y))), if_pos (by rw [tH_16] at c65; exact c65)]; exact (nI_1 k).symm) (kq0 _))
  exact loop w 0 _ (by omega) (fun f3 => kk f3)
theorem rsV_ext {y cc cf cr : Nat → Int32} {L q : Nat} {n : Int32} {f g : Nat → Int32} (h : ∀ i, 2 ≤ i → i ≤ 7 → f i = g i) : ∀ i, 2 ≤ i → i ≤ 7 → rsV y cc cf cr L q n f i = rsV y cc cf cr L q n g i := by
  have h2 := h 2 (by decide) (by decide); have h3 := h 3 (by decide) (by decide); have h4 := h 4 (by decide) (by decide); have h5 := h 5 (by decide) (by decide); have h6 := h 6 (by decide) (by decide); have h7 := h 7 (by decide) (by decide)
  have eH : ∀ fi wi, heatV q f fi wi = heatV q g fi wi := fun fi wi => by unfold heatV; rw [h4]
  have e1 : ∀ fi wi i, 2 ≤ i → i ≤ 7 → ro1 q fi wi f i = ro1 q fi wi g i := fun fi wi i hi0 hi7 => by unfold ro1 upd; rw [h4, eH, h i hi0 hi7]
  have e2 : ∀ fi wi i, 2 ≤ i → i ≤ 7 → ro2 (ro1 q fi wi f) i = ro2 (ro1 q fi wi g) i := fun fi wi i hi0 hi7 => by unfold ro2 upd; rw [e1 fi wi 5 (by decide) (by decide), e1 fi wi i hi0 hi7]
  have e3 : ∀ fi wi i, 2 ≤ i → i ≤ 7 → ro3 q (ro2 (ro1 q fi wi f)) i = ro3 q (ro2 (ro1 q fi wi g)) i := fun fi wi i hi0 hi7 => by unfold ro3 upd; rw [e2 fi wi 3 (by decide) (by decide), e2 fi wi 4 (by decide) (by decide), e2 fi wi 5 (by decide) (by decide), e2 fi wi i hi0 hi7]
  have e4 : ∀ fi wi i, 2 ≤ i → i ≤ 7 → roastV q fi wi f i = roastV q fi wi g i := fun fi wi i hi0 hi7 => by unfold roastV ro4 upd; rw [e3 fi wi i hi0 hi7]; unfold buV; rw [e3 fi wi 7 (by decide) (by decide), e3 fi wi 4 (by decide) (by decide), e3 fi wi 5 (by decide) (by decide)]
  intro i hi0 hi7
  unfold rsV
  rw [h2]
  by_cases c1 : inC (g 2)
  · rw [if_pos c1, if_pos c1]; exact e4 _ _ i hi0 hi7
  · rw [if_neg c1, if_neg c1]
    by_cases c2 : g 2 = 13
    · rw [if_pos c2, if_pos c2]; exact h i hi0 hi7
    · rw [if_neg c2, if_neg c2]
      unfold restV upd
      skip
      rw [h4, h5, h i hi0 hi7]
theorem raF_ext {y cc cf cr : Nat → Int32} {L q : Nat} {dn : Int32} : ∀ (r k : Nat) (f g : Nat → Int32), (∀ i, 2 ≤ i → i ≤ 7 → f i = g i) → raF y cc cf cr L q dn r k f = raF y cc cf cr L q dn r k g := by
  intro r
  induction r with
  | zero => intro k f g _; rfl
  | succ r ih =>
    intro k f g h
    unfold raF
    have e := rsV_ext (y := y) (cc := cc) (cf := cf) (cr := cr) (L := L) (q := q) (n := nI k) h
    unfold dnV
    rw [h 7 (by decide) (by decide), h 3 (by decide) (by decide), e 3 (by decide) (by decide), e 7 (by decide) (by decide), ih (k + 1) _ _ e]
theorem bec2 (f g : Nat → Int32) (i : Nat) (hi0 : 2 ≤ i) (h7 : i ≤ 7) : becV f g i = g i := by
  rcases (show i = 2 ∨ i = 3 ∨ i = 4 ∨ i = 5 ∨ i = 6 ∨ i = 7 by omega) with rfl | rfl | rfl | rfl | rfl | rfl <;> rfl
def raI (h : Hp) (b L j : Nat) (pla : Int32) (w : Nat) : Int32 := raF (hi h b) (hi h (b + 1)) (hi h (b + 2)) (hi h (b + 3)) L (kq h (b + 8 + j)) (dn0 (kq h (b + 8 + j)) (hi h (b + 8 + j))) w 0 (upd (hi h (b + 8 + j)) 2 pla)
theorem c_readyT {d : Nat} {h : Hp} {Q : Option AV → Hp → Prop} {b m L e q j w : Nat} {pla : Int32} {f : Nat → Int32} (g : GI h b m L e) (hb : b = 17 ∨ b = 31) (hj : j < 6) (hbz : hi h (b + 8 + j) 7 = 0 ∨ hi h (b + 8 + j) 7 = 1) (hw1 : w ≤ 60) (kk : ∀ f3, Q (some (vI (raI h b L j pla w))) (tH h (kq h (b + 8 + j)) f3)) : Spec (d + 4) 117 [vR (some 0), vR (some (b + 8 + j)), vI pla, vI (nI w)] (tH h q f) Q :=
  c_readyAt g hb hj hbz hw1 (fun f3 => qv (raF_ext _ _ _ _ (fun i h2 h7 => by
    unfold upd
    by_cases z : i = 2
    · rw [if_pos z, if_pos z]
    · rw [if_neg z, if_neg z, bec2 _ _ i h2 h7])) (kk f3))
theorem c_ready0 {d : Nat} {h : Hp} {Q : Option AV → Hp → Prop} {b m L e j w : Nat} {pla : Int32} (g : GI h b m L e) (hb : b = 17 ∨ b = 31) (t16 : T16 h) (hj : j < 6) (hbz : hi h (b + 8 + j) 7 = 0 ∨ hi h (b + 8 + j) 7 = 1) (hw1 : w ≤ 60) (kk : ∀ f3, Q (some (vI (raI h b L j pla w))) (tH h (kq h (b + 8 + j)) f3)) : Spec (d + 4) 117 [vR (some 0), vR (some (b + 8 + j)), vI pla, vI (nI w)] h Q := by
  have z := c_readyT (d := d) (Q := Q) (q := kq h 16) (f := hi h 16) g hb hj hbz hw1 kk
  rw [← tH_self t16] at z
  exact z
theorem C_ready {d : Nat} {h : Hp} {Q : Option AV → Hp → Prop} {b m L e : Nat} {t : Int32} (g : GI h b m L e) (hb : b = 17 ∨ b = 31) (t16 : T16 h) (hbz : ∀ j, j < m → hi h (b + 8 + j) 7 = 0 ∨ hi h (b + 8 + j) 7 = 1) (kB : ¬ inR t m → Q (some (vI (-1000001))) h) (kS : ∀ j : Nat, j < m → t = nI j → hi h (b + 8 + j) 2 = 13 → Q (some (vI (-1000002))) h)
    (kW : ∀ j : Nat, j < m → t = nI j → ¬ hi h (b + 8 + j) 2 = 13 → ∀ f3, Q (some (vI (raI h b L j (hi h (b + 8 + j) 2) 60))) (tH h (kq h (b + 8 + j)) f3)) : Spec (d + 5) 114 [vR (some 0), vI t] h Q := by
  obtain ⟨hN, hC, h5, hc, hK, hT⟩ := id g
  obtain ⟨hc1, hc2, hc3, hc4, hc5, hc6⟩ := id hc
  refine spec_intro (by decide +kernel) rfl (Nat.le_of_ble_eq_true rfl) ?_
  refine r_aload_n (pc' := 1) d114_0 rfl rfl rfl ?_
  refine r_getS (pc' := 4) d114_1 rfl o114 sf11_52_11 sh0 (pl hN rfl) h5 ?_
  refine r_iload_n (pc' := 5) d114_4 rfl rfl rfl ?_
  refine r_call (pc' := 8) [vR (some b), vI _] [] d114_5 rfl o114 st11_177_10 (rcv1 (shY hb) (plo hN (by omega))) rfl (by decide) ⟨rfl, rfl⟩ (Nat.le_of_ble_eq_true rfl) rfl (y_thingAt hN hC hb hc (fun hbad => ?_) (fun j hj0 hj => ?_))
  · refine r_astore_nN (pc' := 9) (ls' := [(2, vR none), (0, vR (some 0)), (1, vI _)]) d114_8 rfl rfl (by decide) rfl ?_
    refine r_aload_nN (pc' := 10) d114_9 rfl rfl rfl ?_
    refine r_nonN 16 (pc' := 13) d114_10 rfl rfl ?_
    refine r_ldc (pc' := 15) d114_13 rfl o114 kc11_100 ?_
    exact r_iretI d114_15 rfl (kB hbad)
  · refine r_astore_n (pc' := 9) (ls' := [(2, vR (some (b + 8 + j))), (0, vR (some 0)), (1, vI _)]) d114_8 rfl rfl (by decide) rfl ?_
    refine r_aload_n (pc' := 10) d114_9 rfl rfl rfl ?_
    refine r_nonS 16 (pc' := 13) d114_10 rfl rfl ?_
    refine r_aload_n (pc' := 17) d114_16 rfl rfl rfl ?_
    refine r_call (pc' := 20) [vR (some (b + 8 + j))] [] d114_17 rfl o114 st11_181_8 (rcv1 (shT hb (by omega)) (plo hN (by omega))) rfl (by decide) ⟨rfl, rfl⟩ (Nat.le_of_ble_eq_true rfl) rfl (t_isServed hN (shT hb (by omega)) (by omega) ?_)
    refine r_if_eqB 26 (pc' := 23) d114_20 rfl rfl (fun c20 => ?_) (fun c20 => ?_)
    · refine r_aload_n (pc' := 27) d114_26 rfl rfl rfl ?_
      refine r_aload_n (pc' := 28) d114_27 rfl rfl rfl ?_
      refine r_aload_n (pc' := 29) d114_28 rfl rfl rfl ?_
      refine r_getI (pc' := 32) d114_29 rfl o114 sf11_195_8 (shT hb (by omega)) (plo hN (by omega)) ?_
      refine r_bipush (v := 60) (pc' := 34) d114_32 rfl (by decide) ?_
      refine r_call (pc' := 37) [vR (some 0), vR (some (b + 8 + j)), vI _, vI _] [] d114_34 rfl o114 st11_310_11 (rcv1 sh0 (pl hN rfl)) rfl (by decide) ⟨rfl, rfl⟩ (Nat.le_of_ble_eq_true rfl) rfl (c_ready0 (w := 60) g hb t16 (by omega) (hbz j hj0) (by decide) (fun f3 => ?_))
      exact r_iretI d114_37 rfl (kW j hj0 hj c20 f3)
    · refine r_ldc (pc' := 25) d114_23 rfl o114 kc11_167 ?_
      exact r_iretI d114_25 rfl (kS j hj0 hj c20)
theorem raF_rg {y cc cf cr : Nat → Int32} {L q : Nat} {dn : Int32} : ∀ (r k : Nat) (f : Nat → Int32), raF y cc cf cr L q dn r k f = dn ∨ ∃ i, k < i ∧ i ≤ k + r ∧ raF y cc cf cr L q dn r k f = nI i := by
  intro r
  induction r with
  | zero => intro k f; exact Or.inl rfl
  | succ r ih =>
    intro k f
    unfold raF
    split
    · exact Or.inl rfl
    · split
      · exact Or.inr ⟨k + 1, by omega, by omega, rfl⟩
      · rcases ih (k + 1) (rsV y cc cf cr L q (nI k) f) with e | ⟨i, h1, h2, e⟩
        · exact Or.inl e
        · exact Or.inr ⟨i, by omega, by omega, e⟩
theorem raI_rg (h : Hp) (b L j : Nat) (pla : Int32) (w : Nat) : raI h b L j pla w = -1000000 ∨ ∃ i, i ≤ w ∧ raI h b L j pla w = nI i := by
  unfold raI
  rcases raF_rg (y := hi h b) (cc := hi h (b + 1)) (cf := hi h (b + 2)) (cr := hi h (b + 3)) (L := L) (q := kq h (b + 8 + j)) (dn := dn0 (kq h (b + 8 + j)) (hi h (b + 8 + j))) w 0 (upd (hi h (b + 8 + j)) 2 pla) with e | ⟨i, h1, h2, e⟩
  · rw [e]
    unfold dn0
    split
    · exact Or.inr ⟨0, Nat.zero_le _, rfl⟩
    · exact Or.inl rfl
  · exact Or.inr ⟨i, by omega, e⟩
/-- the best cell, and one more than the minutes it may yet take -/
def wcP (h : Hp) (b m L j : Nat) : Nat → Int32 × Nat
  | 0 => (-1000000, 61)
  | k + 1 => if (wcP h b m L j k).2 = 0 then wcP h b m L j k else if opC (plF h b) m j (nI k) then (if raI h b L j (nI k) ((wcP h b m L j k).2 - 1) = -1000000 then wcP h b m L j k else (nI k, (raI h b L j (nI k) ((wcP h b m L j k).2 - 1)).toNatClampNeg)) else wcP h b m L j k
theorem wcP_le (h : Hp) (b m L j : Nat) : ∀ k, (wcP h b m L j k).2 ≤ 61 := by
  intro k
  induction k with
  | zero => exact Nat.le_refl _
  | succ k ih =>
    unfold wcP
    split
    · exact ih
    · split
      · split
        · exact ih
        · next hz =>
          rcases raI_rg h b L j (nI k) ((wcP h b m L j k).2 - 1) with e | ⟨i, h1, e⟩
          · exact absurd e hz
          · show (raI h b L j (nI k) ((wcP h b m L j k).2 - 1)).toNatClampNeg ≤ 61
            rw [e, nI_clamp (by omega)]; omega
      · exact ih
theorem wcP_0 (h : Hp) (b m L j k : Nat) (hz : (wcP h b m L j k).2 = 0) : ∀ r, wcP h b m L j (k + r) = wcP h b m L j k := by
  intro r
  induction r with
  | zero => rfl
  | succ r ih => rw [show k + (r + 1) = (k + r) + 1 by omega, wcP, ih, if_pos hz]
theorem y_openT {d : Nat} {h : Hp} {Q : Option AV → Hp → Prop} {b m L e q j : Nat} {f : Nat → Int32} {cell : Int32} (g : GI h b m L e) (hb : b = 17 ∨ b = 31) (hj : j < 6) (k : Q (some (vI (bI (opC (plF h b) m j cell)))) (tH h q f)) : Spec (d + 2) 68 [vR (some b), vR (some (b + 8 + j)), vI cell] (tH h q f) Q := by
  have g2 := g.t (q := q) (f := f) hb
  refine y_isOpenTo g2.1 g2.2.1 hb g2.2.2.2.1 hj (qv ?_ k)
  have e : plF (tH h q f) b = plF h b ∨ True := Or.inr trivial
  have e2 : ∀ m, lyF (plF (tH h q f) b) cell m = lyF (plF h b) cell m ∨ 6 < m := by
    intro m
    induction m with
    | zero => exact Or.inl rfl
    | succ m ih =>
      rcases Nat.lt_or_ge 6 (m + 1) with z | z
      · exact Or.inr z
      · rcases ih with y | y
        · refine Or.inl ?_
          unfold lyF
          rw [y]
          show (match lyF (plF h b) cell m with | some i => some i | none => if hi (tH h q f) (b + 8 + m) 2 = cell then some m else none) = _
          rw [tH_o (by omega)]; rfl
        · omega
  have e3 := (e2 m).resolve_right (by have := g.2.2.2.1.2.1; omega)
  show bI (opC (plF h b) m j cell) = bI (opC (plF (tH h q f) b) m j cell)
  unfold opC
  simp only [e3]
theorem C_where {d : Nat} {h : Hp} {Q : Option AV → Hp → Prop} {b m L e : Nat} {t : Int32} (g : GI h b m L e) (hb : b = 17 ∨ b = 31) (t16 : T16 h) (hbz : ∀ j, j < m → hi h (b + 8 + j) 7 = 0 ∨ hi h (b + 8 + j) 7 = 1) (kB : ¬ inR t m → Q (some (vI (-1000001))) h) (kS : ∀ j : Nat, j < m → t = nI j → hi h (b + 8 + j) 2 = 13 → Q (some (vI (-1000002))) h)
    (kW : ∀ j : Nat, j < m → t = nI j → ¬ hi h (b + 8 + j) 2 = 13 → ∀ q f, q < 6 → Q (some (vI (wcP h b m L j 12).1)) (tH h q f)) : Spec (d + 5) 115 [vR (some 0), vI t] h Q := by
  obtain ⟨hN, hC, h5, hc, hK, hT⟩ := id g
  obtain ⟨hc1, hc2, hc3, hc4, hc5, hc6⟩ := id hc
  refine spec_intro (by decide +kernel) rfl (Nat.le_of_ble_eq_true rfl) ?_
  refine r_aload_n (pc' := 1) d115_0 rfl rfl rfl ?_
  refine r_getS (pc' := 4) d115_1 rfl o115 sf11_52_11 sh0 (pl hN rfl) h5 ?_
  refine r_iload_n (pc' := 5) d115_4 rfl rfl rfl ?_
  refine r_call (pc' := 8) [vR (some b), vI _] [] d115_5 rfl o115 st11_177_10 (rcv1 (shY hb) (plo hN (by omega))) rfl (by decide) ⟨rfl, rfl⟩ (Nat.le_of_ble_eq_true rfl) rfl (y_thingAt hN hC hb hc (fun hbad => ?_) (fun j hj0 hj => ?_))
  · refine r_astore_nN (pc' := 9) (ls' := [(2, vR none), (0, vR (some 0)), (1, vI _)]) d115_8 rfl rfl (by decide) rfl ?_
    refine r_aload_nN (pc' := 10) d115_9 rfl rfl rfl ?_
    refine r_nonN 16 (pc' := 13) d115_10 rfl rfl ?_
    refine r_ldc (pc' := 15) d115_13 rfl o115 kc11_100 ?_
    exact r_iretI d115_15 rfl (kB hbad)
  · refine r_astore_n (pc' := 9) (ls' := [(2, vR (some (b + 8 + j))), (0, vR (some 0)), (1, vI _)]) d115_8 rfl rfl (by decide) rfl ?_
    refine r_aload_n (pc' := 10) d115_9 rfl rfl rfl ?_
    refine r_nonS 16 (pc' := 13) d115_10 rfl rfl ?_
    refine r_aload_n (pc' := 17) d115_16 rfl rfl rfl ?_
    refine r_call (pc' := 20) [vR (some (b + 8 + j))] [] d115_17 rfl o115 st11_181_8 (rcv1 (shT hb (by omega)) (plo hN (by omega))) rfl (by decide) ⟨rfl, rfl⟩ (Nat.le_of_ble_eq_true rfl) rfl (t_isServed hN (shT hb (by omega)) (by omega) ?_)
    refine r_if_eqB 26 (pc' := 23) d115_20 rfl rfl (fun c20 => ?_) (fun c20 => ?_)
    · refine r_ldc (pc' := 28) d115_26 rfl o115 kc11_243 ?_
      refine r_istore_n (pc' := 29) (ls' := [(3, vI _), (2, vR (some (b + 8 + j))), (0, vR (some 0)), (1, vI _)]) d115_28 rfl rfl (by decide) rfl ?_
      refine r_bipush (v := 60) (pc' := 31) d115_29 rfl (by decide) ?_
      refine r_istore (pc' := 33) (ls' := [(4, vI _), (3, vI _), (2, vR (some (b + 8 + j))), (0, vR (some 0)), (1, vI _)]) d115_31 rfl (by decide) rfl ?_
      refine r_iconst (v := 0) (pc' := 34) d115_33 rfl (by decide) ?_
      refine r_istore (pc' := 36) (ls' := [(5, vI _), (4, vI _), (3, vI _), (2, vR (some (b + 8 + j))), (0, vR (some 0)), (1, vI _)]) d115_34 rfl (by decide) rfl ?_
      refine wp_pick (ls' := [(0, vR (some 0)), (1, vI _), (2, vR (some (b + 8 + j))), (3, vI _), (4, vI _), (5, vI _)]) [4, 5, 3, 2, 1, 0] rfl ?_
      have hlw := wcP_le h b m L j
      have loop : ∀ (r k q : Nat) (f : Nat → Int32), k + r = 12 → q < 6 → wp (d + 5) 115 Q 0 0 36 [(0, vR (some 0)), (1, vI t), (2, vR (some (b + 8 + j))), (3, vI (wcP h b m L j k).1), (4, vI (nI (wcP h b m L j k).2 - 1)), (5, vI (nI k))] [] (tH h q f) := by
        intro r
        induction r with
        | zero =>
          intro k q f hk hqq
          obtain ⟨gN, gC, g5, gc, gK, gT⟩ := g.t (q := q) (f := f) hb
          obtain rfl : k = 12 := by omega
          refine r_iload (pc' := 38) d115_36 rfl rfl ?_
          refine r_bipush (v := 12) (pc' := 40) d115_38 rfl (by decide) ?_
          refine r_icmp_ge 99 (pc' := 43) d115_40 rfl rfl (fun c40 => ?_) (fun c40 => absurd (by decide) c40)
          refine r_iload_n (pc' := 100) d115_99 rfl rfl rfl ?_
          exact r_iretI d115_100 rfl (kW j hj0 hj c20 q f hqq)
        | succ r ih =>
          intro k q f hk hqq
          obtain ⟨gN, gC, g5, gc, gK, gT⟩ := g.t (q := q) (f := f) hb
          have hlk := hlw k
          refine r_iload (pc' := 38) d115_36 rfl rfl ?_
          refine r_bipush (v := 12) (pc' := 40) d115_38 rfl (by decide) ?_
          refine r_icmp_ge 99 (pc' := 43) d115_40 rfl rfl (fun c40 => absurd c40 (nI_ge (a := k) (b := 12) (by omega) (by decide))) (fun c40 => ?_)
          refine r_iload (pc' := 45) d115_43 rfl rfl ?_
          refine r_if_lt 99 (pc' := 48) d115_45 rfl rfl (fun c45 => ?_) (fun c45 => ?_)
          · have hz : (wcP h b m L j k).2 = 0 := by
              rcases h9 : (wcP h b m L j k).2 with _ | w0
              · rfl
              · rw [h9, nI_pred] at c45; exact absurd c45 (nI_pos (by omega))
            refine r_iload_n (pc' := 100) d115_99 rfl rfl rfl ?_
            exact r_iretI d115_100 rfl (qv (by rw [show (12 : Nat) = k + (r + 1) by omega, wcP_0 h b m L j k hz]) (kW j hj0 hj c20 q f hqq))
          · obtain ⟨w0, hw0⟩ : ∃ w0, (wcP h b m L j k).2 = w0 + 1 := by
              rcases h9 : (wcP h b m L j k).2 with _ | w0
              · rw [h9] at c45; exact absurd (by decide) c45
              · exact ⟨w0, rfl⟩
            refine r_aload_n (pc' := 49) d115_48 rfl rfl rfl ?_
            refine r_getS (pc' := 52) d115_49 rfl o115 sf11_52_11 sh0 (pl gN rfl) g5 ?_
            refine r_aload_n (pc' := 53) d115_52 rfl rfl rfl ?_
            refine r_iload (pc' := 55) d115_53 rfl rfl ?_
            refine r_call (pc' := 58) [vR (some b), vR (some (b + 8 + j)), vI _] [] d115_55 rfl o115 st11_191_10 (rcv1 (shY hb) (plo gN (by omega))) rfl (by decide) ⟨rfl, rfl⟩ (Nat.le_of_ble_eq_true rfl) rfl (y_openT g hb (by omega) ?_)
            refine r_if_eqB 73 (pc' := 61) d115_58 rfl rfl (fun c58 => ?_) (fun c58 => ?_)
            · refine r_ldc (pc' := 75) d115_73 rfl o115 kc11_243 ?_
              refine r_istore (pc' := 77) (ls' := [(6, vI _), (0, vR (some 0)), (1, vI _), (2, vR (some (b + 8 + j))), (3, vI _), (4, vI _), (5, vI _)]) d115_75 rfl (by decide) rfl ?_
              refine r_iload (pc' := 79) d115_77 rfl rfl ?_
              refine r_ldc (pc' := 81) d115_79 rfl o115 kc11_243 ?_
              refine r_icmp_eq 93 (pc' := 84) d115_81 rfl rfl (fun c81 => ?_) (fun c81 => absurd rfl c81)
              refine r_iinc (v := _ + 1) (pc' := 96) (ls' := [(5, vI _), (6, vI _), (0, vR (some 0)), (1, vI _), (2, vR (some (b + 8 + j))), (3, vI _), (4, vI _)]) d115_93 rfl rfl rfl (by decide) rfl ?_
              refine r_goto 36 d115_96 rfl ?_
              refine wp_pick (ls' := [(0, vR (some 0)), (1, vI _), (2, vR (some (b + 8 + j))), (3, vI _), (4, vI _), (5, vI _)]) [2, 3, 4, 5, 6, 0] rfl ?_
              rw [nI_1]
              have z := ih (k + 1) q f (by omega) hqq
              rw [wcP, if_neg (by omega), if_neg c58] at z
              exact z
            · refine r_aload_n (pc' := 62) d115_61 rfl rfl rfl ?_
              refine r_aload_n (pc' := 63) d115_62 rfl rfl rfl ?_
              refine r_iload (pc' := 65) d115_63 rfl rfl ?_
              refine r_iload (pc' := 67) d115_65 rfl rfl ?_
              rw [show nI (wcP h b m L j k).2 - 1 = nI w0 by rw [hw0, nI_pred]]
              refine r_call (pc' := 70) [vR (some 0), vR (some (b + 8 + j)), vI _, vI _] [] d115_67 rfl o115 st11_310_11 (rcv1 sh0 (pl gN rfl)) rfl (by decide) ⟨rfl, rfl⟩ (Nat.le_of_ble_eq_true rfl) rfl (c_readyT (w := w0) g hb (by omega) (hbz j hj0) (by omega) (fun f3 => ?_))
              refine r_goto 75 d115_70 rfl ?_
              refine r_istore (pc' := 77) (ls' := [(6, vI _), (0, vR (some 0)), (1, vI _), (2, vR (some (b + 8 + j))), (3, vI _), (4, vI _), (5, vI _)]) d115_75 rfl (by decide) rfl ?_
              refine r_iload (pc' := 79) d115_77 rfl rfl ?_
              refine r_ldc (pc' := 81) d115_79 rfl o115 kc11_243 ?_
              refine r_icmp_eq 93 (pc' := 84) d115_81 rfl rfl (fun c81 => ?_) (fun c81 => ?_)
              · refine r_iinc (v := _ + 1) (pc' := 96) (ls' := [(5, vI _), (6, vI _), (0, vR (some 0)), (1, vI _), (2, vR (some (b + 8 + j))), (3, vI _), (4, vI _)]) d115_93 rfl rfl rfl (by decide) rfl ?_
                refine r_goto 36 d115_96 rfl ?_
                refine wp_pick (ls' := [(0, vR (some 0)), (1, vI _), (2, vR (some (b + 8 + j))), (3, vI _), (4, vI _), (5, vI _)]) [2, 3, 4, 5, 6, 0] rfl ?_
                rw [nI_1]
                have z := ih (k + 1) (kq h (b + 8 + j)) f3 (by omega) (g.2.2.2.2.2 j (by omega)).2
                rw [wcP, if_neg (by omega), if_pos c58, if_pos (by rw [hw0]; exact c81)] at z
                rw [hw0, nI_pred] at z
                exact z
              · refine r_iload (pc' := 86) d115_84 rfl rfl ?_
                refine r_istore_n (pc' := 87) (ls' := [(3, vI _), (6, vI _), (0, vR (some 0)), (1, vI _), (2, vR (some (b + 8 + j))), (4, vI _), (5, vI _)]) d115_86 rfl rfl (by decide) rfl ?_
                refine r_iload (pc' := 89) d115_87 rfl rfl ?_
                refine r_iconst (v := 1) (pc' := 90) d115_89 rfl (by decide) ?_
                refine r_isub (pc' := 91) d115_90 rfl ?_
                refine r_istore (pc' := 93) (ls' := [(4, vI _), (3, vI _), (6, vI _), (0, vR (some 0)), (1, vI _), (2, vR (some (b + 8 + j))), (5, vI _)]) d115_91 rfl (by decide) rfl ?_
                refine r_iinc (v := _ + 1) (pc' := 96) (ls' := [(5, vI _), (4, vI _), (3, vI _), (6, vI _), (0, vR (some 0)), (1, vI _), (2, vR (some (b + 8 + j)))]) d115_93 rfl rfl rfl (by decide) rfl ?_
                refine r_goto 36 d115_96 rfl ?_
                refine wp_pick (ls' := [(0, vR (some 0)), (1, vI _), (2, vR (some (b + 8 + j))), (3, vI _), (4, vI _), (5, vI _)]) [4, 5, 6, 2, 1, 0] rfl ?_
                rw [nI_1]
                have z := ih (k + 1) (kq h (b + 8 + j)) f3 (by omega) (g.2.2.2.2.2 j (by omega)).2
                rw [wcP, if_neg (by omega), if_pos c58, if_neg (by rw [hw0]; exact c81)] at z
                dsimp only at z
                rw [show nI ((raI h b L j (nI k) ((wcP h b m L j k).2 - 1)).toNatClampNeg) = raI h b L j (nI k) w0 by rw [hw0]; rcases raI_rg h b L j (nI k) w0 with e9 | ⟨i, h1, e9⟩; (exact absurd e9 c81); (show nI (raI h b L j (nI k) w0).toNatClampNeg = _; rw [e9, nI_clamp (by omega)])] at z
                exact z
      have z := loop 12 0 (kq h 16) (hi h 16) rfl t16.2
      rw [show nI (wcP h b m L j 0).2 - 1 = 60 from (by decide : nI 61 - 1 = 60)] at z
      rw [← tH_self t16] at z
      exact z
    · refine r_ldc (pc' := 25) d115_23 rfl o115 kc11_167 ?_
      exact r_iretI d115_25 rfl (kS j hj0 hj c20)
def itC (h : Hp) (b m L j w : Nat) : Nat → Int32
  | 0 => 0
  | k + 1 => if opC (plF h b) m j (nI k) ∧ ¬ raI h b L j (nI k) w = -1000000 then itC h b m L j w k ||| ((1 : Int32) <<< (nI k &&& 31)) else itC h b m L j w k
theorem C_inTime {d : Nat} {h : Hp} {Q : Option AV → Hp → Prop} {b m L e : Nat} {t u : Int32} (g : GI h b m L e) (hb : b = 17 ∨ b = 31) (t16 : T16 h) (hbz : ∀ j, j < m → hi h (b + 8 + j) 7 = 0 ∨ hi h (b + 8 + j) 7 = 1) (kB : (¬ inR t m ∨ ¬ (0 ≤ u ∧ u ≤ 60)) → Q (some (vI (-1000001))) h) (kS : ∀ j : Nat, j < m → t = nI j → (0 ≤ u ∧ u ≤ 60) → hi h (b + 8 + j) 2 = 13 → Q (some (vI (-1000002))) h)
    (kW : ∀ j : Nat, j < m → t = nI j → ∀ w : Nat, w ≤ 60 → u = nI w → ¬ hi h (b + 8 + j) 2 = 13 → ∀ q f, q < 6 → Q (some (vI (itC h b m L j w 12))) (tH h q f)) : Spec (d + 5) 116 [vR (some 0), vI t, vI u] h Q := by
  obtain ⟨hN, hC, h5, hc, hK, hT⟩ := id g
  obtain ⟨hc1, hc2, hc3, hc4, hc5, hc6⟩ := id hc
  refine spec_intro (by decide +kernel) rfl (Nat.le_of_ble_eq_true rfl) ?_
  refine r_aload_n (pc' := 1) d116_0 rfl rfl rfl ?_
  refine r_getS (pc' := 4) d116_1 rfl o116 sf11_52_11 sh0 (pl hN rfl) h5 ?_
  refine r_iload_n (pc' := 5) d116_4 rfl rfl rfl ?_
  refine r_call (pc' := 8) [vR (some b), vI _] [] d116_5 rfl o116 st11_177_10 (rcv1 (shY hb) (plo hN (by omega))) rfl (by decide) ⟨rfl, rfl⟩ (Nat.le_of_ble_eq_true rfl) rfl (y_thingAt hN hC hb hc (fun hbad => ?_) (fun j hj0 hj => ?_))
  · refine r_astore_nN (pc' := 9) (ls' := [(3, vR none), (0, vR (some 0)), (1, vI _), (2, vI _)]) d116_8 rfl rfl (by decide) rfl ?_
    refine r_aload_nN (pc' := 10) d116_9 rfl rfl rfl ?_
    refine r_nulN 21 (pc' := 13) d116_10 rfl rfl ?_
    refine r_ldc (pc' := 23) d116_21 rfl o116 kc11_100 ?_
    exact r_iretI d116_23 rfl (kB (by first | exact Or.inl hbad | exact Or.inr c18))
  · refine r_astore_n (pc' := 9) (ls' := [(3, vR (some (b + 8 + j))), (0, vR (some 0)), (1, vI _), (2, vI _)]) d116_8 rfl rfl (by decide) rfl ?_
    refine r_aload_n (pc' := 10) d116_9 rfl rfl rfl ?_
    refine r_nulS 21 (pc' := 13) d116_10 rfl rfl ?_
    refine r_iload_n (pc' := 14) d116_13 rfl rfl rfl ?_
    refine r_iconst (v := 0) (pc' := 15) d116_14 rfl (by decide) ?_
    refine r_call (pc' := 18) [vI _, vI _] [] d116_15 rfl o116 st11_278 rcv0 rfl (by decide) ⟨rfl, rfl⟩ (Nat.le_of_ble_eq_true rfl) rfl (c_isAhead ?_)
    refine r_if_neB 24 (pc' := 21) d116_18 rfl rfl (fun c18 => ?_) (fun c18 => ?_)
    · refine r_aload_n (pc' := 25) d116_24 rfl rfl rfl ?_
      refine r_call (pc' := 28) [vR (some (b + 8 + j))] [] d116_25 rfl o116 st11_181_8 (rcv1 (shT hb (by omega)) (plo hN (by omega))) rfl (by decide) ⟨rfl, rfl⟩ (Nat.le_of_ble_eq_true rfl) rfl (t_isServed hN (shT hb (by omega)) (by omega) ?_)
      refine r_if_eqB 34 (pc' := 31) d116_28 rfl rfl (fun c28 => ?_) (fun c28 => ?_)
      · obtain ⟨w, hw60, rfl⟩ := nat2 (n := 60) c18 (by decide)
        refine r_iconst (v := 0) (pc' := 35) d116_34 rfl (by decide) ?_
        refine r_istore (pc' := 37) (ls' := [(4, vI _), (3, vR (some (b + 8 + j))), (0, vR (some 0)), (1, vI _), (2, vI _)]) d116_35 rfl (by decide) rfl ?_
        refine r_iconst (v := 0) (pc' := 38) d116_37 rfl (by decide) ?_
        refine r_istore (pc' := 40) (ls' := [(5, vI _), (4, vI _), (3, vR (some (b + 8 + j))), (0, vR (some 0)), (1, vI _), (2, vI _)]) d116_38 rfl (by decide) rfl ?_
        refine wp_pick (ls' := [(0, vR (some 0)), (1, vI _), (2, vI _), (3, vR (some (b + 8 + j))), (4, vI _), (5, vI _)]) [3, 4, 5, 2, 1, 0] rfl ?_
        have loop : ∀ (r k q : Nat) (f : Nat → Int32), k + r = 12 → q < 6 → wp (d + 5) 116 Q 0 0 40 [(0, vR (some 0)), (1, vI t), (2, vI (nI w)), (3, vR (some (b + 8 + j))), (4, vI (itC h b m L j w k)), (5, vI (nI k))] [] (tH h q f) := by
          intro r
          induction r with
          | zero =>
            intro k q f hk hqq
            obtain ⟨gN, gC, g5, gc, gK, gT⟩ := g.t (q := q) (f := f) hb
            obtain rfl : k = 12 := by omega
            refine r_iload (pc' := 42) d116_40 rfl rfl ?_
            refine r_bipush (v := 12) (pc' := 44) d116_42 rfl (by decide) ?_
            refine r_icmp_ge 88 (pc' := 47) d116_44 rfl rfl (fun c44 => ?_) (fun c44 => absurd (by decide) c44)
            refine r_iload (pc' := 90) d116_88 rfl rfl ?_
            exact r_iretI d116_90 rfl (kW j hj0 hj w hw60 rfl c28 q f hqq)
          | succ r ih =>
            intro k q f hk hqq
            obtain ⟨gN, gC, g5, gc, gK, gT⟩ := g.t (q := q) (f := f) hb
            refine r_iload (pc' := 42) d116_40 rfl rfl ?_
            refine r_bipush (v := 12) (pc' := 44) d116_42 rfl (by decide) ?_
            refine r_icmp_ge 88 (pc' := 47) d116_44 rfl rfl (fun c44 => absurd c44 (nI_ge (a := k) (b := 12) (by omega) (by decide))) (fun c44 => ?_)
            refine r_aload_n (pc' := 48) d116_47 rfl rfl rfl ?_
            refine r_getS (pc' := 51) d116_48 rfl o116 sf11_52_11 sh0 (pl gN rfl) g5 ?_
            refine r_aload_n (pc' := 52) d116_51 rfl rfl rfl ?_
            refine r_iload (pc' := 54) d116_52 rfl rfl ?_
            refine r_call (pc' := 57) [vR (some b), vR (some (b + 8 + j)), vI _] [] d116_54 rfl o116 st11_191_10 (rcv1 (shY hb) (plo gN (by omega))) rfl (by decide) ⟨rfl, rfl⟩ (Nat.le_of_ble_eq_true rfl) rfl (y_openT g hb (by omega) ?_)
            refine r_if_eqB 82 (pc' := 60) d116_57 rfl rfl (fun c57 => ?_) (fun c57 => ?_)
            · refine r_iinc (v := _ + 1) (pc' := 85) (ls' := [(5, vI _), (0, vR (some 0)), (1, vI _), (2, vI _), (3, vR (some (b + 8 + j))), (4, vI _)]) d116_82 rfl rfl rfl (by decide) rfl ?_
              refine r_goto 40 d116_85 rfl ?_
              refine wp_pick (ls' := [(0, vR (some 0)), (1, vI _), (2, vI _), (3, vR (some (b + 8 + j))), (4, vI _), (5, vI _)]) [1, 2, 3, 4, 5, 0] rfl ?_
              rw [nI_1]
              have z := ih (k + 1) q f (by omega) hqq
              rw [itC, if_neg (fun y => c57 y.1)] at z
              exact z
            · refine r_aload_n (pc' := 61) d116_60 rfl rfl rfl ?_
              refine r_aload_n (pc' := 62) d116_61 rfl rfl rfl ?_
              refine r_iload (pc' := 64) d116_62 rfl rfl ?_
              refine r_iload_n (pc' := 65) d116_64 rfl rfl rfl ?_
              refine r_call (pc' := 68) [vR (some 0), vR (some (b + 8 + j)), vI _, vI _] [] d116_65 rfl o116 st11_310_11 (rcv1 sh0 (pl gN rfl)) rfl (by decide) ⟨rfl, rfl⟩ (Nat.le_of_ble_eq_true rfl) rfl (c_readyT (w := w) g hb (by omega) (hbz j hj0) (by omega) (fun f3 => ?_))
              refine r_ldc (pc' := 70) d116_68 rfl o116 kc11_243 ?_
              refine r_icmp_eq 82 (pc' := 73) d116_70 rfl rfl (fun c70 => ?_) (fun c70 => ?_)
              · refine r_iinc (v := _ + 1) (pc' := 85) (ls' := [(5, vI _), (0, vR (some 0)), (1, vI _), (2, vI _), (3, vR (some (b + 8 + j))), (4, vI _)]) d116_82 rfl rfl rfl (by decide) rfl ?_
                refine r_goto 40 d116_85 rfl ?_
                refine wp_pick (ls' := [(0, vR (some 0)), (1, vI _), (2, vI _), (3, vR (some (b + 8 + j))), (4, vI _), (5, vI _)]) [1, 2, 3, 4, 5, 0] rfl ?_
                rw [nI_1]
                have z := ih (k + 1) (kq h (b + 8 + j)) f3 (by omega) (g.2.2.2.2.2 j (by omega)).2
                rw [itC, if_neg (fun y => y.2 c70)] at z
                exact z
              · refine r_iload (pc' := 75) d116_73 rfl rfl ?_
                refine r_iconst (v := 1) (pc' := 76) d116_75 rfl (by decide) ?_
                refine r_iload (pc' := 78) d116_76 rfl rfl ?_
                refine r_ishl (pc' := 79) d116_78 rfl ?_
                refine r_ior (pc' := 80) d116_79 rfl ?_
                refine r_istore (pc' := 82) (ls' := [(4, vI _), (0, vR (some 0)), (1, vI _), (2, vI _), (3, vR (some (b + 8 + j))), (5, vI _)]) d116_80 rfl (by decide) rfl ?_
                refine r_iinc (v := _ + 1) (pc' := 85) (ls' := [(5, vI _), (4, vI _), (0, vR (some 0)), (1, vI _), (2, vI _), (3, vR (some (b + 8 + j)))]) d116_82 rfl rfl rfl (by decide) rfl ?_
                refine r_goto 40 d116_85 rfl ?_
                refine wp_pick (ls' := [(0, vR (some 0)), (1, vI _), (2, vI _), (3, vR (some (b + 8 + j))), (4, vI _), (5, vI _)]) [2, 3, 4, 5, 1, 0] rfl ?_
                rw [nI_1]
                have z := ih (k + 1) (kq h (b + 8 + j)) f3 (by omega) (g.2.2.2.2.2 j (by omega)).2
                rw [itC, if_pos ⟨c57, c70⟩] at z
                exact z
        have z := loop 12 0 (kq h 16) (hi h 16) rfl t16.2
        rw [← tH_self t16] at z
        exact z
      · refine r_ldc (pc' := 33) d116_31 rfl o116 kc11_167 ?_
        exact r_iretI d116_33 rfl (kS j hj0 hj c18 c28)
    · refine r_ldc (pc' := 23) d116_21 rfl o116 kc11_100 ?_
      exact r_iretI d116_23 rfl (kB (by first | exact Or.inl hbad | exact Or.inr c18))
