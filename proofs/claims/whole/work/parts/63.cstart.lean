/-! the class: start, fuelFor (printed by wip/whole/m63.py) -/
theorem y_windT {d : Nat} {h : Hp} {Q : Option AV → Hp → Prop} {b m L e q : Nat} {cell : Int32} {f : Nat → Int32} (g : GI h b m L e) (hb : b = 17 ∨ b = 31) (k : Q (some (vI (windV (hi h b) cell))) (tH h q f)) : Spec d 73 [vR (some b), vI cell] (tH h q f) Q := by
  have g2 := g.t (q := q) (f := f) hb
  refine y_windIn g2.1 hb ?_
  rw [tH_o (by omega)]
  exact k
theorem y_sunkT {d : Nat} {h : Hp} {Q : Option AV → Hp → Prop} {b m L e q : Nat} {n : Int32} {f : Nat → Int32} (g : GI h b m L e) (hb : b = 17 ∨ b = 31) (k : Q (some (vI (sunkV (hi h b) n))) (tH h q f)) : Spec d 70 [vR (some b), vI n] (tH h q f) Q := by
  have g2 := g.t (q := q) (f := f) hb
  refine y_sunkBy g2.1 hb ?_
  rw [tH_o (by omega)]
  exact k
theorem t_roastT {d : Nat} {h : Hp} {Q : Option AV → Hp → Prop} {b m L e q : Nat} {fi wi : Int32} {f : Nat → Int32} (g : GI h b m L e) (hb : b = 17 ∨ b = 31) (hq6 : q < 6) (k : Q none (tH h q (roastV q fi wi f))) : Spec (d + 2) 53 [vR (some 16), vI fi, vI wi] (tH h q f) Q := by
  have g2 := g.t (q := q) (f := f) hb
  refine t_roastBy g2.1 sh16 (by decide) g2.2.2.2.2.1 tH_k hq6 ?_
  rw [tH_16, tH_w]
  exact k
theorem t_restT {d : Nat} {h : Hp} {Q : Option AV → Hp → Prop} {b m L e q : Nat} {n : Int32} {f : Nat → Int32} (g : GI h b m L e) (hb : b = 17 ∨ b = 31) (k : Q none (tH h q (restV n f))) : Spec (d + 1) 54 [vR (some 16), vI n] (tH h q f) Q := by
  have g2 := g.t (q := q) (f := f) hb
  refine t_rest g2.1 sh16 (by decide) ?_
  rw [tH_16, tH_w]
  exact k
theorem t_doneT {d : Nat} {h : Hp} {Q : Option AV → Hp → Prop} {b m L e q : Nat} {f : Nat → Int32} (g : GI h b m L e) (hb : b = 17 ∨ b = 31) (hq6 : q < 6) (k : Q (some (vI (bI (dnV q f)))) (tH h q f)) : Spec (d + 1) 49 [vR (some 16)] (tH h q f) Q := by
  have g2 := g.t (q := q) (f := f) hb
  refine t_isDone g2.1 sh16 (by decide) g2.2.2.2.2.1 tH_k hq6 ?_
  rw [tH_16]
  exact k
def rbN (W : Nat → Int32) (wi : Int32) (q : Nat) : Nat → Nat → (Nat → Int32) → Nat → Int32
  | 0, _, f => f
  | r + 1, k, f => if f 7 = 0 then rbN W wi q r (k + 1) (roastV q (W k) wi f) else f
def ex27 (f g : Nat → Int32) : Prop := ∀ i, 2 ≤ i → i ≤ 7 → f i = g i
theorem roast_ex {q : Nat} {fi wi : Int32} {f g : Nat → Int32} (h : ex27 f g) : ex27 (roastV q fi wi f) (roastV q fi wi g) := by
  have h2 := h 2 (by decide) (by decide); have h3 := h 3 (by decide) (by decide); have h4 := h 4 (by decide) (by decide); have h5 := h 5 (by decide) (by decide); have h6 := h 6 (by decide) (by decide); have h7 := h 7 (by decide) (by decide)
  intro i i2 i7
  rcases (show i = 2 ∨ i = 3 ∨ i = 4 ∨ i = 5 ∨ i = 6 ∨ i = 7 by omega) with rfl | rfl | rfl | rfl | rfl | rfl
  · rw [ro_2, ro_2, h2]
  · rw [ro_3, ro_3, h4, h5, h3]
  · rw [ro_4, ro_4, h4]
  · rw [ro_5, ro_5, h5]
  · exact h6
  · rw [ro_7, ro_7, h7, h4, h5]
theorem rest_ex {n : Int32} {f g : Nat → Int32} (h : ex27 f g) : ex27 (restV n f) (restV n g) := by
  have h4 := h 4 (by decide) (by decide); have h5 := h 5 (by decide) (by decide)
  intro i i2 i7
  unfold restV upd
  rw [h4, h5, h i i2 i7]
theorem rbN_ex {W : Nat → Int32} {wi : Int32} {q : Nat} : ∀ (r k : Nat) (f g : Nat → Int32), ex27 f g → ex27 (rbN W wi q r k f) (rbN W wi q r k g) := by
  intro r
  induction r with
  | zero => intro k f g h; exact h
  | succ r ih =>
    intro k f g h
    unfold rbN
    rw [h 7 (by decide) (by decide)]
    split
    · exact ih _ _ _ (roast_ex h)
    · exact h
theorem dn_ex {q : Nat} {f g : Nat → Int32} (h : ex27 f g) : dnV q f ↔ dnV q g := by
  unfold dnV; rw [h 3 (by decide) (by decide), h 7 (by decide) (by decide)]
theorem bI_iff {p q : Prop} [Decidable p] [Decidable q] (h : p ↔ q) : bI p = bI q := by
  unfold bI; by_cases z : q
  · rw [if_pos z, if_pos (h.mpr z)]
  · rw [if_neg z, if_neg (fun y => z (h.mp y))]
theorem c_isDoneStarting0 {d : Nat} {h : Hp} {Q : Option AV → Hp → Prop} {b m L e q j s0 T : Nat} {cell : Int32} {f : Nat → Int32} (g : GI h b m L e) (hb : b = 17 ∨ b = 31) (hj : j < 6) (hbz : hi h (b + 8 + j) 7 = 0 ∨ hi h (b + 8 + j) 7 = 1) (hsT : s0 ≤ T) (hT60 : T ≤ 60) (kk : ∀ f3, Q (some (vI (bI (dnV (kq h (b + 8 + j)) (rbN (hi h 49) (windV (hi h b) cell) (kq h (b + 8 + j)) (T - s0) s0 (restV (nI s0) (becV f (hi h (b + 8 + j))))))))) (tH h (kq h (b + 8 + j)) f3)) : Spec (d + 3) 124 [vR (some 0), vR (some (b + 8 + j)), vI cell, vI (nI s0), vI (nI T)] (tH h q f) Q := by
  obtain ⟨gN, gC, g5, gc, gK, gT⟩ := g.t (q := q) (f := f) hb
  obtain ⟨hc1, hc2, hc3, hc4, hc5, hc6⟩ := id g.2.2.2.1
  refine spec_intro (by decide +kernel) rfl (Nat.le_of_ble_eq_true rfl) ?_
  refine r_aload_n (pc' := 1) d124_0 rfl rfl rfl ?_
  refine r_getS (pc' := 4) d124_1 rfl o124 sf11_43_11 sh0 (pl gN rfl) (rfc0_4 gC) ?_
  refine r_aload_n (pc' := 5) d124_4 rfl rfl rfl ?_
  refine r_call (pc' := 8) [vR (some 16), vR (some (b + 8 + j))] [] d124_5 rfl o124 st11_303_8 (rcv1 sh16 (pl gN rfl)) rfl (by decide) ⟨rfl, rfl⟩ (Nat.le_of_ble_eq_true rfl) rfl (t_becomeT g hb hj hbz ?_)
  obtain ⟨gN, gC, g5, gc, gK, gT⟩ := g.t (q := kq h (b + 8 + j)) (f := becV f (hi h (b + 8 + j))) hb
  refine r_aload_n (pc' := 9) d124_8 rfl rfl rfl ?_
  refine r_getS (pc' := 12) d124_9 rfl o124 sf11_43_11 sh0 (pl gN rfl) (rfc0_4 gC) ?_
  refine r_iload_n (pc' := 13) d124_12 rfl rfl rfl ?_
  refine r_call (pc' := 16) [vR (some 16), vI _] [] d124_13 rfl o124 st11_350_8 (rcv1 sh16 (pl gN rfl)) rfl (by decide) ⟨rfl, rfl⟩ (Nat.le_of_ble_eq_true rfl) rfl (t_restT g hb ?_)
  refine r_iload_n (pc' := 17) d124_16 rfl rfl rfl ?_
  refine r_istore (pc' := 19) (ls' := [(5, vI _), (0, vR (some 0)), (1, vR (some (b + 8 + j))), (2, vI _), (3, vI _), (4, vI _)]) d124_17 rfl (by decide) rfl ?_
  refine wp_pick (ls' := [(0, vR (some 0)), (1, vR (some (b + 8 + j))), (2, vI _), (3, vI _), (4, vI _), (5, vI _)]) [1, 2, 3, 4, 5, 0] rfl ?_
  have hq6 := (g.2.2.2.2.2 j hj).2
  have loop : ∀ (r k : Nat) (f2 : Nat → Int32), k + r = T → (∀ f3, Q (some (vI (bI (dnV (kq h (b + 8 + j)) (rbN (hi h 49) (windV (hi h b) cell) (kq h (b + 8 + j)) r k f2))))) (tH h (kq h (b + 8 + j)) f3)) → wp (d + 3) 124 Q 0 0 19 [(0, vR (some 0)), (1, vR (some (b + 8 + j))), (2, vI cell), (3, vI (nI s0)), (4, vI (nI T)), (5, vI (nI k))] [] (tH h (kq h (b + 8 + j)) f2) := by
    intro r
    induction r with
    | zero =>
      intro k f2 hk kq0
      obtain ⟨gN, gC, g5, gc, gK, gT⟩ := g.t (q := kq h (b + 8 + j)) (f := f2) hb
      obtain rfl : k = T := by omega
      refine r_iload (pc' := 21) d124_19 rfl rfl ?_
      refine r_iload (pc' := 23) d124_21 rfl rfl ?_
      refine r_icmp_ge 74 (pc' := 26) d124_23 rfl rfl (fun c23 => ?_) (fun c23 => absurd (nI_le (Nat.le_refl _) (by omega)) c23)
      refine r_aload_n (pc' := 75) d124_74 rfl rfl rfl ?_
      refine r_getS (pc' := 78) d124_75 rfl o124 sf11_43_11 sh0 (pl gN rfl) (rfc0_4 gC) ?_
      refine r_call (pc' := 81) [vR (some 16)] [] d124_78 rfl o124 st11_214_8 (rcv1 sh16 (pl gN rfl)) rfl (by decide) ⟨rfl, rfl⟩ (Nat.le_of_ble_eq_true rfl) rfl (t_doneT g hb hq6 ?_)
      exact r_iretB d124_81 rfl (kq0 _)
    | succ r ih =>
      intro k f2 hk kq0
      obtain ⟨gN, gC, g5, gc, gK, gT⟩ := g.t (q := kq h (b + 8 + j)) (f := f2) hb
      unfold rbN at kq0
      refine r_iload (pc' := 21) d124_19 rfl rfl ?_
      refine r_iload (pc' := 23) d124_21 rfl rfl ?_
      refine r_icmp_ge 74 (pc' := 26) d124_23 rfl rfl (fun c23 => absurd c23 (nI_ge (by omega) (by omega))) (fun c23 => ?_)
      refine r_iload (pc' := 28) d124_26 rfl rfl ?_
      refine r_aload_n (pc' := 29) d124_28 rfl rfl rfl ?_
      refine r_getS (pc' := 32) d124_29 rfl o124 sf11_73_11 sh0 (pl gN rfl) (rfc0_14 gC) ?_
      refine r_alen (pc' := 33) d124_32 rfl sh49 (by decide) (pl gN rfl) ?_
      refine r_icmp_ge 74 (pc' := 36) d124_33 rfl rfl (fun c33 => absurd c33 (nI_ge (a := k) (b := 60) (by omega) (by decide))) (fun c33 => ?_)
      refine r_aload_n (pc' := 37) d124_36 rfl rfl rfl ?_
      refine r_getS (pc' := 40) d124_37 rfl o124 sf11_43_11 sh0 (pl gN rfl) (rfc0_4 gC) ?_
      refine r_getI (pc' := 43) d124_40 rfl o124 sf11_250_8 sh16 (pl gN rfl) ?_
      refine r_if_ne 74 (pc' := 46) d124_43 rfl rfl (fun c43 => ?_) (fun c43 => ?_)
      · refine r_aload_n (pc' := 75) d124_74 rfl rfl rfl ?_
        refine r_getS (pc' := 78) d124_75 rfl o124 sf11_43_11 sh0 (pl gN rfl) (rfc0_4 gC) ?_
        refine r_call (pc' := 81) [vR (some 16)] [] d124_78 rfl o124 st11_214_8 (rcv1 sh16 (pl gN rfl)) rfl (by decide) ⟨rfl, rfl⟩ (Nat.le_of_ble_eq_true rfl) rfl (t_doneT g hb hq6 ?_)
        exact r_iretB d124_81 rfl (by rw [tH_16] at c43; rw [if_neg c43] at kq0; exact kq0 _)
      · refine r_aload_n (pc' := 47) d124_46 rfl rfl rfl ?_
        refine r_getS (pc' := 50) d124_47 rfl o124 sf11_43_11 sh0 (pl gN rfl) (rfc0_4 gC) ?_
        refine r_aload_n (pc' := 51) d124_50 rfl rfl rfl ?_
        refine r_getS (pc' := 54) d124_51 rfl o124 sf11_73_11 sh0 (pl gN rfl) (rfc0_14 gC) ?_
        refine r_iload (pc' := 56) d124_54 rfl rfl ?_
        refine r_ialdN (pc' := 57) (j := k) d124_56 rfl sh49 (pl gN rfl) rfl (by omega) (by decide) ?_
        refine r_aload_n (pc' := 58) d124_57 rfl rfl rfl ?_
        refine r_getS (pc' := 61) d124_58 rfl o124 sf11_52_11 sh0 (pl gN rfl) g5 ?_
        refine r_iload_n (pc' := 62) d124_61 rfl rfl rfl ?_
        refine r_call (pc' := 65) [vR (some b), vI _] [vI _, vR (some 16)] d124_62 rfl o124 st11_297_10 (rcv1 (shY hb) (plo gN (by omega))) rfl (by decide) ⟨rfl, rfl⟩ (Nat.le_of_ble_eq_true rfl) rfl (y_windT g hb ?_)
        refine r_call (pc' := 68) [vR (some 16), vI _, vI _] [] d124_65 rfl o124 st11_343_8 (rcv1 sh16 (pl gN rfl)) rfl (by decide) ⟨rfl, rfl⟩ (Nat.le_of_ble_eq_true rfl) rfl (t_roastT g hb hq6 ?_)
        refine r_iinc (v := _ + 1) (pc' := 71) (ls' := [(5, vI _), (0, vR (some 0)), (1, vR (some (b + 8 + j))), (2, vI _), (3, vI _), (4, vI _)]) d124_68 rfl rfl rfl (by decide) rfl ?_
        refine r_goto 19 d124_71 rfl ?_
        refine wp_pick (ls' := [(0, vR (some 0)), (1, vR (some (b + 8 + j))), (2, vI _), (3, vI _), (4, vI _), (5, vI _)]) [1, 2, 3, 4, 5, 0] rfl ?_
        rw [nI_1, tH_o (x := 49) (by decide)]
        rw [tH_16] at c43
        rw [if_pos c43] at kq0
        exact ih (k + 1) _ (by omega) kq0
  exact loop (T - s0) s0 _ (by omega) kk
theorem c_isDoneStarting {d : Nat} {h : Hp} {Q : Option AV → Hp → Prop} {b m L e q j s0 T : Nat} {cell : Int32} {f : Nat → Int32} (g : GI h b m L e) (hb : b = 17 ∨ b = 31) (hj : j < 6) (hbz : hi h (b + 8 + j) 7 = 0 ∨ hi h (b + 8 + j) 7 = 1) (hsT : s0 ≤ T) (hT60 : T ≤ 60) (kk : ∀ f3, Q (some (vI (bI (dnV (kq h (b + 8 + j)) (rbN (hi h 49) (windV (hi h b) cell) (kq h (b + 8 + j)) (T - s0) s0 (restV (nI s0) (hi h (b + 8 + j)))))))) (tH h (kq h (b + 8 + j)) f3)) : Spec (d + 3) 124 [vR (some 0), vR (some (b + 8 + j)), vI cell, vI (nI s0), vI (nI T)] (tH h q f) Q :=
  c_isDoneStarting0 g hb hj hbz hsT hT60 (fun f3 => qv (bI_iff (dn_ex (rbN_ex _ _ _ _ (rest_ex (fun i h2 h7 => (bec2 _ _ i h2 h7).symm))))) (kk f3))
def stC (h : Hp) (b j : Nat) (cell : Int32) (T : Nat) : Nat → Int32
  | 0 => -1000000
  | r + 1 => if dnV (kq h (b + 8 + j)) (rbN (hi h 49) (windV (hi h b) cell) (kq h (b + 8 + j)) (T - r) r (restV (nI r) (hi h (b + 8 + j)))) then nI r else stC h b j cell T r
theorem C_start {d : Nat} {h : Hp} {Q : Option AV → Hp → Prop} {b m L e : Nat} {t cell u : Int32} (g : GI h b m L e) (hb : b = 17 ∨ b = 31) (t16 : T16 h) (hbz : ∀ j, j < m → hi h (b + 8 + j) 7 = 0 ∨ hi h (b + 8 + j) 7 = 1) (kB : (¬ inR t m ∨ ¬ (0 ≤ cell ∧ cell ≤ 11) ∨ ¬ (1 ≤ u ∧ u ≤ 60)) → Q (some (vI (-1000001))) h)
    (kS : ∀ j : Nat, j < m → t = nI j → (0 ≤ cell ∧ cell ≤ 11) → (1 ≤ u ∧ u ≤ 60) → (hi h (b + 8 + j) 2 = 13 ∨ ¬ opC (plF h b) m j cell) → Q (some (vI (-1000002))) h)
    (kW : ∀ j : Nat, j < m → t = nI j → (0 ≤ cell ∧ cell ≤ 11) → ∀ T : Nat, 1 ≤ T → T ≤ 60 → u = nI T → ¬ hi h (b + 8 + j) 2 = 13 → opC (plF h b) m j cell → ∀ q f, q < 6 → Q (some (vI (stC (fwH h b L cell T) b j cell T (T + 1)))) (tH (fwH h b L cell T) q f)) : Spec (d + 4) 123 [vR (some 0), vI t, vI cell, vI u] h Q := by
  obtain ⟨hN, hC, h5, hc, hK, hT⟩ := id g
  obtain ⟨hc1, hc2, hc3, hc4, hc5, hc6⟩ := id hc
  refine spec_intro (by decide +kernel) rfl (Nat.le_of_ble_eq_true rfl) ?_
  refine r_aload_n (pc' := 1) d123_0 rfl rfl rfl ?_
  refine r_getS (pc' := 4) d123_1 rfl o123 sf11_52_11 sh0 (pl hN rfl) h5 ?_
  refine r_iload_n (pc' := 5) d123_4 rfl rfl rfl ?_
  refine r_call (pc' := 8) [vR (some b), vI _] [] d123_5 rfl o123 st11_177_10 (rcv1 (shY hb) (plo hN (by omega))) rfl (by decide) ⟨rfl, rfl⟩ (Nat.le_of_ble_eq_true rfl) rfl (y_thingAt hN hC hb hc (fun hbad => ?_) (fun j hj0 hj => ?_))
  · refine r_astoreN (pc' := 10) (ls' := [(4, vR none), (0, vR (some 0)), (1, vI _), (2, vI _), (3, vI _)]) d123_8 rfl (by decide) rfl ?_
    refine r_aloadN (pc' := 12) d123_10 rfl rfl ?_
    refine r_nulN 30 (pc' := 15) d123_12 rfl rfl ?_
    refine r_ldc (pc' := 32) d123_30 rfl o123 kc11_100 ?_
    exact r_iretI d123_32 rfl (kB (by first | exact Or.inl hbad | exact Or.inr (Or.inl c19) | exact Or.inr (Or.inr c27)))
  · refine r_astore (pc' := 10) (ls' := [(4, vR (some (b + 8 + j))), (0, vR (some 0)), (1, vI _), (2, vI _), (3, vI _)]) d123_8 rfl (by decide) rfl ?_
    refine r_aload (pc' := 12) d123_10 rfl rfl ?_
    refine r_nulS 30 (pc' := 15) d123_12 rfl rfl ?_
    refine r_iload_n (pc' := 16) d123_15 rfl rfl rfl ?_
    refine r_call (pc' := 19) [vI _] [] d123_16 rfl o123 st11_198 rcv0 rfl (by decide) ⟨rfl, rfl⟩ (Nat.le_of_ble_eq_true rfl) rfl (t_isCell ?_)
    refine r_if_eqB 30 (pc' := 22) d123_19 rfl rfl (fun c19 => ?_) (fun c19 => ?_)
    · refine r_ldc (pc' := 32) d123_30 rfl o123 kc11_100 ?_
      exact r_iretI d123_32 rfl (kB (by first | exact Or.inl hbad | exact Or.inr (Or.inl c19) | exact Or.inr (Or.inr c27)))
    · refine r_iload_n (pc' := 23) d123_22 rfl rfl rfl ?_
      refine r_iconst (v := 1) (pc' := 24) d123_23 rfl (by decide) ?_
      refine r_call (pc' := 27) [vI _, vI _] [] d123_24 rfl o123 st11_278 rcv0 rfl (by decide) ⟨rfl, rfl⟩ (Nat.le_of_ble_eq_true rfl) rfl (c_isAhead ?_)
      refine r_if_neB 33 (pc' := 30) d123_27 rfl rfl (fun c27 => ?_) (fun c27 => ?_)
      · refine r_aload (pc' := 35) d123_33 rfl rfl ?_
        refine r_call (pc' := 38) [vR (some (b + 8 + j))] [] d123_35 rfl o123 st11_181_8 (rcv1 (shT hb (by omega)) (plo hN (by omega))) rfl (by decide) ⟨rfl, rfl⟩ (Nat.le_of_ble_eq_true rfl) rfl (t_isServed hN (shT hb (by omega)) (by omega) ?_)
        refine r_if_neB 54 (pc' := 41) d123_38 rfl rfl (fun c38 => ?_) (fun c38 => ?_)
        · refine r_ldc (pc' := 56) d123_54 rfl o123 kc11_167 ?_
          exact r_iretI d123_56 rfl (by first | exact kS j hj0 hj c19 c27 (Or.inl c38) | exact kS j hj0 hj c19 c27 (Or.inr c51))
        · refine r_aload_n (pc' := 42) d123_41 rfl rfl rfl ?_
          refine r_getS (pc' := 45) d123_42 rfl o123 sf11_52_11 sh0 (pl hN rfl) h5 ?_
          refine r_aload (pc' := 47) d123_45 rfl rfl ?_
          refine r_iload_n (pc' := 48) d123_47 rfl rfl rfl ?_
          refine r_call (pc' := 51) [vR (some b), vR (some (b + 8 + j)), vI _] [] d123_48 rfl o123 st11_191_10 (rcv1 (shY hb) (plo hN (by omega))) rfl (by decide) ⟨rfl, rfl⟩ (Nat.le_of_ble_eq_true rfl) rfl (y_isOpenTo hN hC hb hc (by omega) ?_)
          refine r_if_neB 57 (pc' := 54) d123_51 rfl rfl (fun c51 => ?_) (fun c51 => ?_)
          · obtain ⟨T, ⟨hT1, hT60⟩, rfl⟩ := nI_of3 (a := 1) (b := 60) c27 (by decide)
            refine r_aload_n (pc' := 58) d123_57 rfl rfl rfl ?_
            refine r_iload_n (pc' := 59) d123_58 rfl rfl rfl ?_
            refine r_iload_n (pc' := 60) d123_59 rfl rfl rfl ?_
            refine r_call (pc' := 63) [vR (some 0), vI _, vI _] [] d123_60 rfl o123 st11_314_11 (rcv1 sh0 (pl hN rfl)) rfl (by decide) ⟨rfl, rfl⟩ (Nat.le_of_ble_eq_true rfl) rfl (c_foretellWarmth g hb (by omega) ?_)
            refine r_iload_n (pc' := 64) d123_63 rfl rfl rfl ?_
            refine r_istore (pc' := 66) (ls' := [(5, vI _), (4, vR (some (b + 8 + j))), (0, vR (some 0)), (1, vI _), (2, vI _), (3, vI _)]) d123_64 rfl (by decide) rfl ?_
            refine wp_pick (ls' := [(0, vR (some 0)), (1, vI _), (2, vI _), (3, vI _), (4, vR (some (b + 8 + j))), (5, vI _)]) [2, 3, 4, 5, 1, 0] rfl ?_
            have g2 := fwH_gi (cell := cell) (k := T) g hb
            have t2 : T16 (fwH h b L cell T) := t16
            have hb2 : hi (fwH h b L cell T) (b + 8 + j) 7 = 0 ∨ hi (fwH h b L cell T) (b + 8 + j) 7 = 1 := by rw [fwH_o (by omega)]; exact hbz j hj0
            have kE := kW j hj0 hj c19 T hT1 hT60 rfl c38 c51
            generalize hH : (fwH h b L cell T) = H at g2 t2 hb2 kE ⊢
            have hkH : kq H (b + 8 + j) < 6 := (g2.2.2.2.2.2 j (by omega)).2
            have loop : ∀ (r q : Nat) (f : Nat → Int32), r ≤ T + 1 → q < 6 → (∀ q f, q < 6 → Q (some (vI (stC H b j cell T r))) (tH H q f)) → wp (d + 4) 123 Q 0 0 66 [(0, vR (some 0)), (1, vI t), (2, vI cell), (3, vI (nI T)), (4, vR (some (b + 8 + j))), (5, vI (nI r - 1))] [] (tH H q f) := by
              intro r
              induction r with
              | zero =>
                intro q f hr hqq kE
                obtain ⟨gN, gC, g5, gc, gK, gT⟩ := g2.t (q := q) (f := f) hb
                refine r_iload (pc' := 68) d123_66 rfl rfl ?_
                refine r_if_lt 93 (pc' := 71) d123_68 rfl rfl (fun c68 => ?_) (fun c68 => absurd (by decide) c68)
                refine r_ldc (pc' := 95) d123_93 rfl o123 kc11_243 ?_
                exact r_iretI d123_95 rfl (kE q f hqq)
              | succ r ih =>
                intro q f hr hqq kE
                obtain ⟨gN, gC, g5, gc, gK, gT⟩ := g2.t (q := q) (f := f) hb
                rw [nI_pred]
                unfold stC at kE
                refine r_iload (pc' := 68) d123_66 rfl rfl ?_
                refine r_if_lt 93 (pc' := 71) d123_68 rfl rfl (fun c68 => absurd c68 (nI_pos (by omega))) (fun c68 => ?_)
                refine r_aload_n (pc' := 72) d123_71 rfl rfl rfl ?_
                refine r_aload (pc' := 74) d123_72 rfl rfl ?_
                refine r_iload_n (pc' := 75) d123_74 rfl rfl rfl ?_
                refine r_iload (pc' := 77) d123_75 rfl rfl ?_
                refine r_iload_n (pc' := 78) d123_77 rfl rfl rfl ?_
                refine r_call (pc' := 81) [vR (some 0), vR (some (b + 8 + j)), vI _, vI _, vI _] [] d123_78 rfl o123 st11_346_11 (rcv1 sh0 (pl gN rfl)) rfl (by decide) ⟨rfl, rfl⟩ (Nat.le_of_ble_eq_true rfl) rfl (c_isDoneStarting g2 hb (by omega) hb2 (by omega) hT60 (fun f3 => ?_))
                refine r_if_eqB 87 (pc' := 84) d123_81 rfl rfl (fun c81 => ?_) (fun c81 => ?_)
                · refine r_iinc (v := _ + (-1)) (pc' := 90) (ls' := [(5, vI _), (0, vR (some 0)), (1, vI _), (2, vI _), (3, vI _), (4, vR (some (b + 8 + j)))]) d123_87 rfl rfl rfl (by decide) rfl ?_
                  refine r_goto 66 d123_90 rfl ?_
                  refine wp_pick (ls' := [(0, vR (some 0)), (1, vI _), (2, vI _), (3, vI _), (4, vR (some (b + 8 + j))), (5, vI _)]) [1, 2, 3, 4, 5, 0] rfl ?_
                  rw [add_m1]
                  refine ih _ _ (by omega) hkH (fun q5 f5 hq5 => ?_)
                  have z := kE q5 f5 hq5
                  rw [if_neg c81] at z
                  exact z
                · refine r_iload (pc' := 86) d123_84 rfl rfl ?_
                  exact r_iretI d123_86 rfl (by have z := kE _ f3 hkH; rw [if_pos c81] at z; exact z)
            have z := loop (T + 1) (kq H 16) (hi H 16) (Nat.le_refl _) t2.2 kE
            rw [nI_pred, ← tH_self t2] at z
            exact z
          · refine r_ldc (pc' := 56) d123_54 rfl o123 kc11_167 ?_
            exact r_iretI d123_56 rfl (by first | exact kS j hj0 hj c19 c27 (Or.inl c38) | exact kS j hj0 hj c19 c27 (Or.inr c51))
      · refine r_ldc (pc' := 32) d123_30 rfl o123 kc11_100 ?_
        exact r_iretI d123_32 rfl (kB (by first | exact Or.inl hbad | exact Or.inr (Or.inl c19) | exact Or.inr (Or.inr c27)))
def fuA (y : Nat → Int32) (fire : Int32) (k : Nat) : Int32 := if k < 2 then 0 else mx0 (fire - sunkV y (nI k))
def fuW (h : Hp) (b : Nat) (fire : Int32) : Nat → Int32 := fun k => hi h 49 k + fuA (hi h b) fire k
theorem c_isDoneWithCoal0 {d : Nat} {h : Hp} {Q : Option AV → Hp → Prop} {b m L e q j n : Nat} {fire : Int32} {f : Nat → Int32} (g : GI h b m L e) (hb : b = 17 ∨ b = 31) (hj : j < 6) (hbz : hi h (b + 8 + j) 7 = 0 ∨ hi h (b + 8 + j) 7 = 1) (hn60 : n ≤ 60) (kk : ∀ f3, Q (some (vI (bI (dnV (kq h (b + 8 + j)) (rbN (fuW h b fire) (windV (hi h b) (hi h (b + 8 + j) 2)) (kq h (b + 8 + j)) n 0 (becV f (hi h (b + 8 + j)))))))) (tH h (kq h (b + 8 + j)) f3)) : Spec (d + 3) 126 [vR (some 0), vR (some (b + 8 + j)), vI fire, vI (nI n)] (tH h q f) Q := by
  obtain ⟨gN, gC, g5, gc, gK, gT⟩ := g.t (q := q) (f := f) hb
  obtain ⟨hc1, hc2, hc3, hc4, hc5, hc6⟩ := id g.2.2.2.1
  refine spec_intro (by decide +kernel) rfl (Nat.le_of_ble_eq_true rfl) ?_
  refine r_aload_n (pc' := 1) d126_0 rfl rfl rfl ?_
  refine r_getS (pc' := 4) d126_1 rfl o126 sf11_43_11 sh0 (pl gN rfl) (rfc0_4 gC) ?_
  refine r_aload_n (pc' := 5) d126_4 rfl rfl rfl ?_
  refine r_call (pc' := 8) [vR (some 16), vR (some (b + 8 + j))] [] d126_5 rfl o126 st11_303_8 (rcv1 sh16 (pl gN rfl)) rfl (by decide) ⟨rfl, rfl⟩ (Nat.le_of_ble_eq_true rfl) rfl (t_becomeT g hb hj hbz ?_)
  refine r_iconst (v := 0) (pc' := 9) d126_8 rfl (by decide) ?_
  refine r_istore (pc' := 11) (ls' := [(4, vI _), (0, vR (some 0)), (1, vR (some (b + 8 + j))), (2, vI _), (3, vI _)]) d126_9 rfl (by decide) rfl ?_
  refine wp_pick (ls' := [(0, vR (some 0)), (1, vR (some (b + 8 + j))), (2, vI _), (3, vI _), (4, vI _)]) [1, 2, 3, 4, 0] rfl ?_
  have hq6 := (g.2.2.2.2.2 j hj).2
  have loop : ∀ (r k : Nat) (f2 : Nat → Int32), k + r = n → (∀ f3, Q (some (vI (bI (dnV (kq h (b + 8 + j)) (rbN (fuW h b fire) (windV (hi h b) (hi h (b + 8 + j) 2)) (kq h (b + 8 + j)) r k f2))))) (tH h (kq h (b + 8 + j)) f3)) → wp (d + 3) 126 Q 0 0 11 [(0, vR (some 0)), (1, vR (some (b + 8 + j))), (2, vI fire), (3, vI (nI n)), (4, vI (nI k))] [] (tH h (kq h (b + 8 + j)) f2) := by
    intro r
    induction r with
    | zero =>
      intro k f2 hk kq0
      obtain ⟨gN, gC, g5, gc, gK, gT⟩ := g.t (q := kq h (b + 8 + j)) (f := f2) hb
      obtain rfl : k = n := by omega
      refine r_iload (pc' := 13) d126_11 rfl rfl ?_
      refine r_iload_n (pc' := 14) d126_13 rfl rfl rfl ?_
      refine r_icmp_ge 98 (pc' := 17) d126_14 rfl rfl (fun c14 => ?_) (fun c14 => absurd (nI_le (Nat.le_refl _) (by omega)) c14)
      refine r_aload_n (pc' := 99) d126_98 rfl rfl rfl ?_
      refine r_getS (pc' := 102) d126_99 rfl o126 sf11_43_11 sh0 (pl gN rfl) (rfc0_4 gC) ?_
      refine r_call (pc' := 105) [vR (some 16)] [] d126_102 rfl o126 st11_214_8 (rcv1 sh16 (pl gN rfl)) rfl (by decide) ⟨rfl, rfl⟩ (Nat.le_of_ble_eq_true rfl) rfl (t_doneT g hb hq6 ?_)
      exact r_iretB d126_105 rfl (kq0 _)
    | succ r ih =>
      intro k f2 hk kq0
      obtain ⟨gN, gC, g5, gc, gK, gT⟩ := g.t (q := kq h (b + 8 + j)) (f := f2) hb
      unfold rbN at kq0
      refine r_iload (pc' := 13) d126_11 rfl rfl ?_
      refine r_iload_n (pc' := 14) d126_13 rfl rfl rfl ?_
      refine r_icmp_ge 98 (pc' := 17) d126_14 rfl rfl (fun c14 => absurd c14 (nI_ge (by omega) (by omega))) (fun c14 => ?_)
      refine r_iload (pc' := 19) d126_17 rfl rfl ?_
      refine r_aload_n (pc' := 20) d126_19 rfl rfl rfl ?_
      refine r_getS (pc' := 23) d126_20 rfl o126 sf11_73_11 sh0 (pl gN rfl) (rfc0_14 gC) ?_
      refine r_alen (pc' := 24) d126_23 rfl sh49 (by decide) (pl gN rfl) ?_
      refine r_icmp_ge 98 (pc' := 27) d126_24 rfl rfl (fun c24 => absurd c24 (nI_ge (a := k) (b := 60) (by omega) (by decide))) (fun c24 => ?_)
      refine r_aload_n (pc' := 28) d126_27 rfl rfl rfl ?_
      refine r_getS (pc' := 31) d126_28 rfl o126 sf11_43_11 sh0 (pl gN rfl) (rfc0_4 gC) ?_
      refine r_getI (pc' := 34) d126_31 rfl o126 sf11_250_8 sh16 (pl gN rfl) ?_
      refine r_if_ne 98 (pc' := 37) d126_34 rfl rfl (fun c34 => ?_) (fun c34 => ?_)
      · refine r_aload_n (pc' := 99) d126_98 rfl rfl rfl ?_
        refine r_getS (pc' := 102) d126_99 rfl o126 sf11_43_11 sh0 (pl gN rfl) (rfc0_4 gC) ?_
        refine r_call (pc' := 105) [vR (some 16)] [] d126_102 rfl o126 st11_214_8 (rcv1 sh16 (pl gN rfl)) rfl (by decide) ⟨rfl, rfl⟩ (Nat.le_of_ble_eq_true rfl) rfl (t_doneT g hb hq6 ?_)
        exact r_iretB d126_105 rfl (by rw [tH_16] at c34; rw [if_neg c34] at kq0; exact kq0 _)
      · refine r_iload (pc' := 39) d126_37 rfl rfl ?_
        refine r_iconst (v := 2) (pc' := 40) d126_39 rfl (by decide) ?_
        refine r_icmp_ge 47 (pc' := 43) d126_40 rfl rfl (fun c40 => ?_) (fun c40 => ?_)
        · refine r_iconst (v := 0) (pc' := 48) d126_47 rfl (by decide) ?_
          refine r_iload_n (pc' := 49) d126_48 rfl rfl rfl ?_
          refine r_aload_n (pc' := 50) d126_49 rfl rfl rfl ?_
          refine r_getS (pc' := 53) d126_50 rfl o126 sf11_52_11 sh0 (pl gN rfl) g5 ?_
          refine r_iload (pc' := 55) d126_53 rfl rfl ?_
          refine r_call (pc' := 58) [vR (some b), vI _] [vI _, vI _] d126_55 rfl o126 st11_358_10 (rcv1 (shY hb) (plo gN (by omega))) rfl (by decide) ⟨rfl, rfl⟩ (Nat.le_of_ble_eq_true rfl) rfl (y_sunkT g hb ?_)
          refine r_isub (pc' := 59) d126_58 rfl ?_
          refine r_max (pc' := 62) d126_59 rfl o126 st11_361 jm_max2 jm_i jm_max4 (Nat.le_of_ble_eq_true rfl) ?_
          refine r_istore (pc' := 64) (ls' := [(5, vI _), (0, vR (some 0)), (1, vR (some (b + 8 + j))), (2, vI _), (3, vI _), (4, vI _)]) d126_62 rfl (by decide) rfl ?_
          refine r_aload_n (pc' := 65) d126_64 rfl rfl rfl ?_
          refine r_getS (pc' := 68) d126_65 rfl o126 sf11_43_11 sh0 (pl gN rfl) (rfc0_4 gC) ?_
          refine r_aload_n (pc' := 69) d126_68 rfl rfl rfl ?_
          refine r_getS (pc' := 72) d126_69 rfl o126 sf11_73_11 sh0 (pl gN rfl) (rfc0_14 gC) ?_
          refine r_iload (pc' := 74) d126_72 rfl rfl ?_
          refine r_ialdN (pc' := 75) (j := k) d126_74 rfl sh49 (pl gN rfl) rfl (by omega) (by decide) ?_
          refine r_iload (pc' := 77) d126_75 rfl rfl ?_
          refine r_iadd (pc' := 78) d126_77 rfl ?_
          refine r_aload_n (pc' := 79) d126_78 rfl rfl rfl ?_
          refine r_getS (pc' := 82) d126_79 rfl o126 sf11_52_11 sh0 (pl gN rfl) g5 ?_
          refine r_aload_n (pc' := 83) d126_82 rfl rfl rfl ?_
          refine r_getI (pc' := 86) d126_83 rfl o126 sf11_195_8 (shT hb (by omega)) (plo gN (by omega)) ?_
          refine r_call (pc' := 89) [vR (some b), vI _] [vI _, vR (some 16)] d126_86 rfl o126 st11_297_10 (rcv1 (shY hb) (plo gN (by omega))) rfl (by decide) ⟨rfl, rfl⟩ (Nat.le_of_ble_eq_true rfl) rfl (y_windT g hb ?_)
          refine r_call (pc' := 92) [vR (some 16), vI _, vI _] [] d126_89 rfl o126 st11_343_8 (rcv1 sh16 (pl gN rfl)) rfl (by decide) ⟨rfl, rfl⟩ (Nat.le_of_ble_eq_true rfl) rfl (t_roastT g hb hq6 ?_)
          refine r_iinc (v := _ + 1) (pc' := 95) (ls' := [(4, vI _), (5, vI _), (0, vR (some 0)), (1, vR (some (b + 8 + j))), (2, vI _), (3, vI _)]) d126_92 rfl rfl rfl (by decide) rfl ?_
          refine r_goto 11 d126_95 rfl ?_
          refine wp_pick (ls' := [(0, vR (some 0)), (1, vR (some (b + 8 + j))), (2, vI _), (3, vI _), (4, vI _)]) [2, 3, 4, 5, 0] rfl ?_
          rw [nI_1, tH_o (x := 49) (by decide), tH_o (x := b + 8 + j) (by omega)]
          rw [tH_16] at c34
          rw [if_pos c34] at kq0
          refine ih (k + 1) _ (by omega) ?_
          rw [show fuW h b fire k = hi h 49 k + mx0 (fire - sunkV (hi h b) (nI k)) by unfold fuW fuA; rw [if_neg (by have := (nI_leI (a := 2) (b := k) (by decide) (by omega)).mp c40; omega)]] at kq0
          exact kq0
        · refine r_iconst (v := 0) (pc' := 44) d126_43 rfl (by decide) ?_
          refine r_goto 62 d126_44 rfl ?_
          refine r_istore (pc' := 64) (ls' := [(5, vI _), (0, vR (some 0)), (1, vR (some (b + 8 + j))), (2, vI _), (3, vI _), (4, vI _)]) d126_62 rfl (by decide) rfl ?_
          refine r_aload_n (pc' := 65) d126_64 rfl rfl rfl ?_
          refine r_getS (pc' := 68) d126_65 rfl o126 sf11_43_11 sh0 (pl gN rfl) (rfc0_4 gC) ?_
          refine r_aload_n (pc' := 69) d126_68 rfl rfl rfl ?_
          refine r_getS (pc' := 72) d126_69 rfl o126 sf11_73_11 sh0 (pl gN rfl) (rfc0_14 gC) ?_
          refine r_iload (pc' := 74) d126_72 rfl rfl ?_
          refine r_ialdN (pc' := 75) (j := k) d126_74 rfl sh49 (pl gN rfl) rfl (by omega) (by decide) ?_
          refine r_iload (pc' := 77) d126_75 rfl rfl ?_
          refine r_iadd (pc' := 78) d126_77 rfl ?_
          refine r_aload_n (pc' := 79) d126_78 rfl rfl rfl ?_
          refine r_getS (pc' := 82) d126_79 rfl o126 sf11_52_11 sh0 (pl gN rfl) g5 ?_
          refine r_aload_n (pc' := 83) d126_82 rfl rfl rfl ?_
          refine r_getI (pc' := 86) d126_83 rfl o126 sf11_195_8 (shT hb (by omega)) (plo gN (by omega)) ?_
          refine r_call (pc' := 89) [vR (some b), vI _] [vI _, vR (some 16)] d126_86 rfl o126 st11_297_10 (rcv1 (shY hb) (plo gN (by omega))) rfl (by decide) ⟨rfl, rfl⟩ (Nat.le_of_ble_eq_true rfl) rfl (y_windT g hb ?_)
          refine r_call (pc' := 92) [vR (some 16), vI _, vI _] [] d126_89 rfl o126 st11_343_8 (rcv1 sh16 (pl gN rfl)) rfl (by decide) ⟨rfl, rfl⟩ (Nat.le_of_ble_eq_true rfl) rfl (t_roastT g hb hq6 ?_)
          refine r_iinc (v := _ + 1) (pc' := 95) (ls' := [(4, vI _), (5, vI _), (0, vR (some 0)), (1, vR (some (b + 8 + j))), (2, vI _), (3, vI _)]) d126_92 rfl rfl rfl (by decide) rfl ?_
          refine r_goto 11 d126_95 rfl ?_
          refine wp_pick (ls' := [(0, vR (some 0)), (1, vR (some (b + 8 + j))), (2, vI _), (3, vI _), (4, vI _)]) [2, 3, 4, 5, 0] rfl ?_
          rw [nI_1, tH_o (x := 49) (by decide), tH_o (x := b + 8 + j) (by omega)]
          rw [tH_16] at c34
          rw [if_pos c34] at kq0
          refine ih (k + 1) _ (by omega) ?_
          rw [show fuW h b fire k = hi h 49 k + 0 by unfold fuW fuA; rw [if_pos (Nat.lt_of_not_le (fun z => c40 ((nI_leI (a := 2) (b := k) (by decide) (by omega)).mpr z)))]] at kq0
          exact kq0
  exact loop n 0 _ (by omega) kk
theorem c_isDoneWithCoal {d : Nat} {h : Hp} {Q : Option AV → Hp → Prop} {b m L e q j n : Nat} {fire : Int32} {f : Nat → Int32} (g : GI h b m L e) (hb : b = 17 ∨ b = 31) (hj : j < 6) (hbz : hi h (b + 8 + j) 7 = 0 ∨ hi h (b + 8 + j) 7 = 1) (hn60 : n ≤ 60) (kk : ∀ f3, Q (some (vI (bI (dnV (kq h (b + 8 + j)) (rbN (fuW h b fire) (windV (hi h b) (hi h (b + 8 + j) 2)) (kq h (b + 8 + j)) n 0 (hi h (b + 8 + j))))))) (tH h (kq h (b + 8 + j)) f3)) : Spec (d + 3) 126 [vR (some 0), vR (some (b + 8 + j)), vI fire, vI (nI n)] (tH h q f) Q :=
  c_isDoneWithCoal0 g hb hj hbz hn60 (fun f3 => qv (bI_iff (dn_ex (rbN_ex _ _ _ _ (fun i h2 h7 => (bec2 _ _ i h2 h7).symm)))) (kk f3))
def ffC (h : Hp) (b j n : Nat) : Nat → Nat → Int32
  | 0, _ => -1000000
  | r + 1, a => if dnV (kq h (b + 8 + j)) (rbN (fuW h b (nI a)) (windV (hi h b) (hi h (b + 8 + j) 2)) (kq h (b + 8 + j)) n 0 (hi h (b + 8 + j))) then nI a else ffC h b j n r (a + 1)
theorem C_fuelFor {d : Nat} {h : Hp} {Q : Option AV → Hp → Prop} {b m L e : Nat} {t u : Int32} (g : GI h b m L e) (hb : b = 17 ∨ b = 31) (t16 : T16 h) (hbz : ∀ j, j < m → hi h (b + 8 + j) 7 = 0 ∨ hi h (b + 8 + j) 7 = 1) (kB : (¬ inR t m ∨ ¬ (1 ≤ u ∧ u ≤ 60)) → Q (some (vI (-1000001))) h)
    (kS : ∀ j : Nat, j < m → t = nI j → ∀ n : Nat, 1 ≤ n → n ≤ 60 → u = nI n → ¬ inC (hi h (b + 8 + j) 2) → Q (some (vI (-1000002))) h)
    (kF : ∀ j : Nat, j < m → t = nI j → ∀ n : Nat, 1 ≤ n → n ≤ 60 → u = nI n → inC (hi h (b + 8 + j) 2) → L = 8 → Q (some (vI (-1000003))) h)
    (kW : ∀ j : Nat, j < m → t = nI j → ∀ n : Nat, 1 ≤ n → n ≤ 60 → u = nI n → inC (hi h (b + 8 + j) 2) → L < 8 → ∀ q f, q < 6 → Q (some (vI (ffC (fwH h b L (hi h (b + 8 + j) 2) n) b j n 31 0))) (tH (fwH h b L (hi h (b + 8 + j) 2) n) q f)) : Spec (d + 4) 125 [vR (some 0), vI t, vI u] h Q := by
  obtain ⟨hN, hC, h5, hc, hK, hT⟩ := id g
  obtain ⟨hc1, hc2, hc3, hc4, hc5, hc6⟩ := id hc
  refine spec_intro (by decide +kernel) rfl (Nat.le_of_ble_eq_true rfl) ?_
  refine r_aload_n (pc' := 1) d125_0 rfl rfl rfl ?_
  refine r_getS (pc' := 4) d125_1 rfl o125 sf11_52_11 sh0 (pl hN rfl) h5 ?_
  refine r_iload_n (pc' := 5) d125_4 rfl rfl rfl ?_
  refine r_call (pc' := 8) [vR (some b), vI _] [] d125_5 rfl o125 st11_177_10 (rcv1 (shY hb) (plo hN (by omega))) rfl (by decide) ⟨rfl, rfl⟩ (Nat.le_of_ble_eq_true rfl) rfl (y_thingAt hN hC hb hc (fun hbad => ?_) (fun j hj0 hj => ?_))
  · refine r_astore_nN (pc' := 9) (ls' := [(3, vR none), (0, vR (some 0)), (1, vI _), (2, vI _)]) d125_8 rfl rfl (by decide) rfl ?_
    refine r_aload_nN (pc' := 10) d125_9 rfl rfl rfl ?_
    refine r_nulN 21 (pc' := 13) d125_10 rfl rfl ?_
    refine r_ldc (pc' := 23) d125_21 rfl o125 kc11_100 ?_
    exact r_iretI d125_23 rfl (kB (by first | exact Or.inl hbad | exact Or.inr c18))
  · refine r_astore_n (pc' := 9) (ls' := [(3, vR (some (b + 8 + j))), (0, vR (some 0)), (1, vI _), (2, vI _)]) d125_8 rfl rfl (by decide) rfl ?_
    refine r_aload_n (pc' := 10) d125_9 rfl rfl rfl ?_
    refine r_nulS 21 (pc' := 13) d125_10 rfl rfl ?_
    refine r_iload_n (pc' := 14) d125_13 rfl rfl rfl ?_
    refine r_iconst (v := 1) (pc' := 15) d125_14 rfl (by decide) ?_
    refine r_call (pc' := 18) [vI _, vI _] [] d125_15 rfl o125 st11_278 rcv0 rfl (by decide) ⟨rfl, rfl⟩ (Nat.le_of_ble_eq_true rfl) rfl (c_isAhead ?_)
    refine r_if_neB 24 (pc' := 21) d125_18 rfl rfl (fun c18 => ?_) (fun c18 => ?_)
    · obtain ⟨n, ⟨hn1, hn60⟩, rfl⟩ := nI_of3 (a := 1) (b := 60) c18 (by decide)
      refine r_aload_n (pc' := 25) d125_24 rfl rfl rfl ?_
      refine r_getI (pc' := 28) d125_25 rfl o125 sf11_195_8 (shT hb (by omega)) (plo hN (by omega)) ?_
      refine r_call (pc' := 31) [vI _] [] d125_28 rfl o125 st11_198 rcv0 rfl (by decide) ⟨rfl, rfl⟩ (Nat.le_of_ble_eq_true rfl) rfl (t_isCell ?_)
      refine r_if_neB 37 (pc' := 34) d125_31 rfl rfl (fun c31 => ?_) (fun c31 => ?_)
      · refine r_aload_n (pc' := 38) d125_37 rfl rfl rfl ?_
        refine r_getS (pc' := 41) d125_38 rfl o125 sf11_52_11 sh0 (pl hN rfl) h5 ?_
        refine r_getI (pc' := 44) d125_41 rfl o125 sf11_201_10 (shY hb) (plo hN (by omega)) ?_
        refine r_bipush (v := 8) (pc' := 46) d125_44 rfl (by decide) ?_
        refine r_icmp_lt 52 (pc' := 49) d125_46 rfl rfl (fun c46 => ?_) (fun c46 => ?_)
        · have hL8 : L < 8 := by have c46 := c46; rw [hc3] at c46; exact (nI_ltI (a := L) (b := 8) (by omega) (by decide)).mp c46
          refine r_aload_n (pc' := 53) d125_52 rfl rfl rfl ?_
          refine r_aload_n (pc' := 54) d125_53 rfl rfl rfl ?_
          refine r_getI (pc' := 57) d125_54 rfl o125 sf11_195_8 (shT hb (by omega)) (plo hN (by omega)) ?_
          refine r_iload_n (pc' := 58) d125_57 rfl rfl rfl ?_
          refine r_call (pc' := 61) [vR (some 0), vI _, vI _] [] d125_58 rfl o125 st11_314_11 (rcv1 sh0 (pl hN rfl)) rfl (by decide) ⟨rfl, rfl⟩ (Nat.le_of_ble_eq_true rfl) rfl (c_foretellWarmth g hb (by omega) ?_)
          refine r_iconst (v := 0) (pc' := 62) d125_61 rfl (by decide) ?_
          refine r_istore (pc' := 64) (ls' := [(4, vI _), (3, vR (some (b + 8 + j))), (0, vR (some 0)), (1, vI _), (2, vI _)]) d125_62 rfl (by decide) rfl ?_
          refine wp_pick (ls' := [(0, vR (some 0)), (1, vI _), (2, vI _), (3, vR (some (b + 8 + j))), (4, vI _)]) [2, 3, 4, 1, 0] rfl ?_
          have g2 := fwH_gi (cell := hi h (b + 8 + j) 2) (k := n) g hb
          have t2 : T16 (fwH h b L (hi h (b + 8 + j) 2) n) := t16
          have hb2 : hi (fwH h b L (hi h (b + 8 + j) 2) n) (b + 8 + j) 7 = 0 ∨ hi (fwH h b L (hi h (b + 8 + j) 2) n) (b + 8 + j) 7 = 1 := by rw [fwH_o (by omega)]; exact hbz j hj0
          have kE := kW j hj0 hj n hn1 hn60 rfl c31 hL8
          generalize hH : (fwH h b L (hi h (b + 8 + j) 2) n) = H at g2 t2 hb2 kE ⊢
          have hkH : kq H (b + 8 + j) < 6 := (g2.2.2.2.2.2 j (by omega)).2
          have loop : ∀ (r a q : Nat) (f : Nat → Int32), a + r = 31 → q < 6 → (∀ q f, q < 6 → Q (some (vI (ffC H b j n r a))) (tH H q f)) → wp (d + 4) 125 Q 0 0 64 [(0, vR (some 0)), (1, vI t), (2, vI (nI n)), (3, vR (some (b + 8 + j))), (4, vI (nI a))] [] (tH H q f) := by
            intro r
            induction r with
            | zero =>
              intro a q f hr hqq kE
              obtain ⟨gN, gC, g5, gc, gK, gT⟩ := g2.t (q := q) (f := f) hb
              obtain rfl : a = 31 := by omega
              refine r_iload (pc' := 66) d125_64 rfl rfl ?_
              refine r_bipush (v := 30) (pc' := 68) d125_66 rfl (by decide) ?_
              refine r_icmp_gt 91 (pc' := 71) d125_68 rfl rfl (fun c68 => ?_) (fun c68 => absurd (by decide) c68)
              refine r_ldc (pc' := 93) d125_91 rfl o125 kc11_243 ?_
              exact r_iretI d125_93 rfl (kE q f hqq)
            | succ r ih =>
              intro a q f hr hqq kE
              obtain ⟨gN, gC, g5, gc, gK, gT⟩ := g2.t (q := q) (f := f) hb
              unfold ffC at kE
              refine r_iload (pc' := 66) d125_64 rfl rfl ?_
              refine r_bipush (v := 30) (pc' := 68) d125_66 rfl (by decide) ?_
              refine r_icmp_gt 91 (pc' := 71) d125_68 rfl rfl (fun c68 => absurd c68 (nI_nlt (a := 30) (b := a) (by omega) (by omega))) (fun c68 => ?_)
              refine r_aload_n (pc' := 72) d125_71 rfl rfl rfl ?_
              refine r_aload_n (pc' := 73) d125_72 rfl rfl rfl ?_
              refine r_iload (pc' := 75) d125_73 rfl rfl ?_
              refine r_iload_n (pc' := 76) d125_75 rfl rfl rfl ?_
              refine r_call (pc' := 79) [vR (some 0), vR (some (b + 8 + j)), vI _, vI _] [] d125_76 rfl o125 st11_354_11 (rcv1 sh0 (pl gN rfl)) rfl (by decide) ⟨rfl, rfl⟩ (Nat.le_of_ble_eq_true rfl) rfl (c_isDoneWithCoal g2 hb (by omega) hb2 hn60 (fun f3 => ?_))
              refine r_if_eqB 85 (pc' := 82) d125_79 rfl rfl (fun c79 => ?_) (fun c79 => ?_)
              · refine r_iinc (v := _ + 1) (pc' := 88) (ls' := [(4, vI _), (0, vR (some 0)), (1, vI _), (2, vI _), (3, vR (some (b + 8 + j)))]) d125_85 rfl rfl rfl (by decide) rfl ?_
                refine r_goto 64 d125_88 rfl ?_
                refine wp_pick (ls' := [(0, vR (some 0)), (1, vI _), (2, vI _), (3, vR (some (b + 8 + j))), (4, vI _)]) [1, 2, 3, 4, 0] rfl ?_
                rw [nI_1]
                refine ih (a + 1) _ _ (by omega) hkH (fun q5 f5 hq5 => ?_)
                have z := kE q5 f5 hq5
                rw [if_neg c79] at z
                exact z
              · refine r_iload (pc' := 84) d125_82 rfl rfl ?_
                exact r_iretI d125_84 rfl (by have z := kE _ f3 hkH; rw [if_pos c79] at z; exact z)
          have z := loop 31 0 (kq H 16) (hi H 16) rfl t2.2 kE
          rw [← tH_self t2] at z
          exact z
        · refine r_ldc (pc' := 51) d125_49 rfl o125 kc11_145 ?_
          exact r_iretI d125_51 rfl (kF j hj0 hj n hn1 hn60 rfl c31 (by have c46 := c46; rw [hc3] at c46; have h9 : ¬ L < 8 := fun z => c46 ((nI_ltI (a := L) (b := 8) (by omega) (by decide)).mpr z); omega))
      · refine r_ldc (pc' := 36) d125_34 rfl o125 kc11_167 ?_
        exact r_iretI d125_36 rfl (kS j hj0 hj n hn1 hn60 rfl c31)
    · refine r_ldc (pc' := 23) d125_21 rfl o125 kc11_100 ?_
      exact r_iretI d125_23 rfl (kB (by first | exact Or.inl hbad | exact Or.inr c18))
