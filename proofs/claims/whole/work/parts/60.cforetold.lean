/-! the class: foretold (printed by wip/whole/m60.py) -/
def tH (h : Hp) (q : Nat) (f : Nat → Int32) : Hp := setw (setr h 16 1 (some (10 + q))) 16 f
theorem tH_o {h : Hp} {q : Nat} {f : Nat → Int32} {x : Nat} (hx : x ≠ 16) : hi (tH h q f) x = hi h x := hi_setw_ne _ _ _ _ hx
theorem tH_16 {h : Hp} {q : Nat} {f : Nat → Int32} : hi (tH h q f) 16 = f := hi_setw_row _ _ _
theorem tH_r {h : Hp} {q : Nat} {f : Nat → Int32} {x : Nat} (hx : x ≠ 16) : hr (tH h q f) x = hr h x := hr_setr_ne _ _ _ _ _ hx
theorem tH_k {h : Hp} {q : Nat} {f : Nat → Int32} : hr (tH h q f) 16 1 = some (10 + q) := by
  show hr (setr h 16 1 (some (10 + q))) 16 1 = _
  rw [hr_setr_row]; simp [va_up]
theorem tH_w (h : Hp) (q : Nat) (f f' : Nat → Int32) : setw (tH h q f) 16 f' = tH h q f' := setw_w _ _ _ _
theorem tH_i (h : Hp) (q j : Nat) (f : Nat → Int32) (v : Int32) : seti (tH h q f) 16 j v = tH h q (upd f j v) := seti_setw _ _ _ _ _
theorem tH_t (h : Hp) (q q' : Nat) (f f' : Nat → Int32) : tH (tH h q f) q' f' = tH h q' f' := by
  refine hp_ext rfl (fun x y => ?_) (fun x y => ?_)
  · by_cases hx : x = 16
    · subst hx; rw [tH_16, tH_16]
    · rw [tH_o hx, tH_o hx, tH_o hx]
  · by_cases hx : x = 16
    · subst hx
      show hr (setr (setr h 16 1 (some (10 + q))) 16 1 (some (10 + q'))) 16 y = hr (setr h 16 1 (some (10 + q'))) 16 y
      rw [hr_setr, hr_setr, hr_setr]
      by_cases hy : y = 1 <;> simp [hy]
    · rw [tH_r hx, tH_r hx, tH_r hx]
theorem GI.t {h : Hp} {b m L e q : Nat} {f : Nat → Int32} (g : GI h b m L e) (hb : b = 17 ∨ b = 31) : GI (tH h q f) b m L e := by
  obtain ⟨g1, g2, g3, ⟨g4, g5, g6, g7, g8, g9⟩, ga, gb⟩ := g
  refine ⟨g1, g2.of (fun x y h1 h2 => ?_), by rw [tH_r (by omega)]; exact g3, ⟨by rw [tH_o (by omega)]; exact g4, g5, by rw [tH_o (by omega)]; exact g6, g7, by rw [tH_o (by omega)]; exact g8, g9⟩, fun z hz => by rw [tH_o (by omega)]; exact ga z hz, fun i hi0 => ?_⟩
  · show hr (setr h 16 1 (some (10 + q))) x y = hr h x y
    rw [hr_setr, if_neg (by omega)]
  · have e : kq (tH h q f) (b + 8 + i) = kq h (b + 8 + i) := by unfold kq; rw [tH_r (by omega)]
    rw [e, tH_r (by omega)]
    exact gb i hi0
def T16 (h : Hp) : Prop := hr h 16 1 = some (10 + kq h 16) ∧ kq h 16 < 6
theorem tH_self {h : Hp} (t : T16 h) : h = tH h (kq h 16) (hi h 16) := by
  refine hp_ext rfl (fun x y => ?_) (fun x y => ?_)
  · by_cases hx : x = 16
    · subst hx; rw [tH_16]
    · rw [tH_o hx]
  · show hr h x y = hr (setr h 16 1 (some (10 + kq h 16))) x y
    rw [hr_setr]
    split
    · next w => rw [w.1, w.2]; exact t.1
    · rfl
theorem y_roastT {d : Nat} {h : Hp} {Q : Option AV → Hp → Prop} {b m L e q : Nat} {n : Int32} {f : Nat → Int32} (g : GI h b m L e) (hb : b = 17 ∨ b = 31) (hq6 : q < 6) (k : Q none (tH h q (rsV (hi h b) (hi h (b + 1)) (hi h (b + 2)) (hi h (b + 3)) L q n f))) : Spec (d + 3) 74 [vR (some b), vR (some 16), vI n] (tH h q f) Q := by
  have g2 := g.t (q := q) (f := f) hb
  refine y_roast g2.1 g2.2.1 hb g2.2.2.2.1 sh16 (by decide) g2.2.2.2.2.1 tH_k hq6 ?_
  rw [tH_w, tH_16, tH_o (by omega), tH_o (by omega), tH_o (by omega), tH_o (by omega)]
  exact k
theorem t_becomeT {d : Nat} {h : Hp} {Q : Option AV → Hp → Prop} {b m L e q j : Nat} {f : Nat → Int32} (g : GI h b m L e) (hb : b = 17 ∨ b = 31) (hj : j < 6) (hbz : hi h (b + 8 + j) 7 = 0 ∨ hi h (b + 8 + j) 7 = 1) (k : Q none (tH h (kq h (b + 8 + j)) (becV f (hi h (b + 8 + j))))) : Spec d 46 [vR (some 16), vR (some (b + 8 + j))] (tH h q f) Q := by
  have g2 := g.t (q := q) (f := f) hb
  refine t_become (q := kq h (b + 8 + j)) g2.1 sh16 (by decide) (shT hb hj) (by omega) (by omega) (by rw [tH_r (by omega)]; exact (g.2.2.2.2.2 j hj).1) (by rw [tH_o (by omega)]; exact hbz) ?_
  rw [tH_16, tH_o (by omega)]
  exact qh (tH_t h q _ f _).symm k
def trN (y cc cf cr : Nat → Int32) (L q : Nat) (f : Nat → Int32) : Nat → Nat → Int32
  | 0 => f
  | k + 1 => rsV y cc cf cr L q (nI k) (trN y cc cf cr L q f k)
theorem c_isAhead {d : Nat} {h : Hp} {Q : Option AV → Hp → Prop} {n a : Int32} (k : Q (some (vI (bI (a ≤ n ∧ n ≤ 60)))) h) : Spec d 112 [vI n, vI a] h Q := by
  refine spec_intro (by decide +kernel) rfl (Nat.le_of_ble_eq_true rfl) ?_
  refine r_iload_n (pc' := 1) d112_0 rfl rfl rfl ?_
  refine r_iload_n (pc' := 2) d112_1 rfl rfl rfl ?_
  refine r_icmp_lt 15 (pc' := 5) d112_2 rfl rfl (fun c2 => ?_) (fun c2 => ?_)
  · refine r_iconst (v := 0) (pc' := 16) d112_15 rfl (by decide) ?_
    exact r_iretZ0 d112_16 rfl (qv (b0 (by first | exact fun w => absurd w.1 (Int32.not_le.mpr c2) | exact fun w => absurd w.2 (Int32.not_le.mpr c8))) k)
  · refine r_iload_n (pc' := 6) d112_5 rfl rfl rfl ?_
    refine r_bipush (v := 60) (pc' := 8) d112_6 rfl (by decide) ?_
    refine r_icmp_gt 15 (pc' := 11) d112_8 rfl rfl (fun c8 => ?_) (fun c8 => ?_)
    · refine r_iconst (v := 0) (pc' := 16) d112_15 rfl (by decide) ?_
      exact r_iretZ0 d112_16 rfl (qv (b0 (by first | exact fun w => absurd w.1 (Int32.not_le.mpr c2) | exact fun w => absurd w.2 (Int32.not_le.mpr c8))) k)
    · refine r_iconst (v := 1) (pc' := 12) d112_11 rfl (by decide) ?_
      refine r_goto 16 d112_12 rfl ?_
      exact r_iretZ1 d112_16 rfl (qv (b1 ⟨Int32.not_lt.mp c2, Int32.not_lt.mp c8⟩) k)
theorem c_tryAsItLies {d : Nat} {h : Hp} {Q : Option AV → Hp → Prop} {b m L e q j n : Nat} {f : Nat → Int32} (g : GI h b m L e) (hb : b = 17 ∨ b = 31) (hj : j < 6) (hbz : hi h (b + 8 + j) 7 = 0 ∨ hi h (b + 8 + j) 7 = 1) (hn1 : n ≤ 1000) (kk : Q none (tH h (kq h (b + 8 + j)) (trN (hi h b) (hi h (b + 1)) (hi h (b + 2)) (hi h (b + 3)) L (kq h (b + 8 + j)) (becV f (hi h (b + 8 + j))) n))) : Spec (d + 4) 113 [vR (some 0), vR (some (b + 8 + j)), vI (nI n)] (tH h q f) Q := by
  obtain ⟨gN, gC, g5, gc, gK, gT⟩ := g.t (q := q) (f := f) hb
  obtain ⟨hc1, hc2, hc3, hc4, hc5, hc6⟩ := id g.2.2.2.1
  refine spec_intro (by decide +kernel) rfl (Nat.le_of_ble_eq_true rfl) ?_
  refine r_aload_n (pc' := 1) d113_0 rfl rfl rfl ?_
  refine r_getS (pc' := 4) d113_1 rfl o113 sf11_43_11 sh0 (pl gN rfl) (rfc0_4 gC) ?_
  refine r_aload_n (pc' := 5) d113_4 rfl rfl rfl ?_
  refine r_call (pc' := 8) [vR (some 16), vR (some (b + 8 + j))] [] d113_5 rfl o113 st11_303_8 (rcv1 sh16 (pl gN rfl)) rfl (by decide) ⟨rfl, rfl⟩ (Nat.le_of_ble_eq_true rfl) rfl (t_becomeT g hb hj hbz ?_)
  refine r_iconst (v := 0) (pc' := 9) d113_8 rfl (by decide) ?_
  refine r_istore_n (pc' := 10) (ls' := [(3, vI _), (0, vR (some 0)), (1, vR (some (b + 8 + j))), (2, vI _)]) d113_9 rfl rfl (by decide) rfl ?_
  refine wp_pick (ls' := [(0, vR (some 0)), (1, vR (some (b + 8 + j))), (2, vI _), (3, vI _)]) [1, 2, 3, 0] rfl ?_
  have hq6 := (g.2.2.2.2.2 j hj).2
  have loop : ∀ (r k : Nat), k + r = n → wp (d + 4) 113 Q 0 0 10 [(0, vR (some 0)), (1, vR (some (b + 8 + j))), (2, vI (nI n)), (3, vI (nI k))] [] (tH h (kq h (b + 8 + j)) (trN (hi h b) (hi h (b + 1)) (hi h (b + 2)) (hi h (b + 3)) L (kq h (b + 8 + j)) (becV f (hi h (b + 8 + j))) k)) := by
    intro r
    induction r with
    | zero =>
      intro k hk
      obtain ⟨gN, gC, g5, gc, gK, gT⟩ := g.t (q := kq h (b + 8 + j)) (f := (trN (hi h b) (hi h (b + 1)) (hi h (b + 2)) (hi h (b + 3)) L (kq h (b + 8 + j)) (becV f (hi h (b + 8 + j))) k)) hb
      obtain rfl : k = n := by omega
      refine r_iload_n (pc' := 11) d113_10 rfl rfl rfl ?_
      refine r_iload_n (pc' := 12) d113_11 rfl rfl rfl ?_
      refine r_icmp_ge 33 (pc' := 15) d113_12 rfl rfl (fun c12 => ?_) (fun c12 => absurd (nI_le (Nat.le_refl _) (by omega)) c12)
      exact r_ret d113_33 rfl kk
    | succ r ih =>
      intro k hk
      obtain ⟨gN, gC, g5, gc, gK, gT⟩ := g.t (q := kq h (b + 8 + j)) (f := (trN (hi h b) (hi h (b + 1)) (hi h (b + 2)) (hi h (b + 3)) L (kq h (b + 8 + j)) (becV f (hi h (b + 8 + j))) k)) hb
      refine r_iload_n (pc' := 11) d113_10 rfl rfl rfl ?_
      refine r_iload_n (pc' := 12) d113_11 rfl rfl rfl ?_
      refine r_icmp_ge 33 (pc' := 15) d113_12 rfl rfl (fun c12 => absurd c12 (nI_ge (by omega) (by omega))) (fun c12 => ?_)
      refine r_aload_n (pc' := 16) d113_15 rfl rfl rfl ?_
      refine r_getS (pc' := 19) d113_16 rfl o113 sf11_52_11 sh0 (pl gN rfl) g5 ?_
      refine r_aload_n (pc' := 20) d113_19 rfl rfl rfl ?_
      refine r_getS (pc' := 23) d113_20 rfl o113 sf11_43_11 sh0 (pl gN rfl) (rfc0_4 gC) ?_
      refine r_iload_n (pc' := 24) d113_23 rfl rfl rfl ?_
      refine r_call (pc' := 27) [vR (some b), vR (some 16), vI _] [] d113_24 rfl o113 st11_307_10 (rcv1 (shY hb) (plo gN (by omega))) rfl (by decide) ⟨rfl, rfl⟩ (Nat.le_of_ble_eq_true rfl) rfl (y_roastT g hb hq6 ?_)
      refine r_iinc (v := _ + 1) (pc' := 30) (ls' := [(3, vI _), (0, vR (some 0)), (1, vR (some (b + 8 + j))), (2, vI _)]) d113_27 rfl rfl rfl (by decide) rfl ?_
      refine r_goto 10 d113_30 rfl ?_
      refine wp_pick (ls' := [(0, vR (some 0)), (1, vR (some (b + 8 + j))), (2, vI _), (3, vI _)]) [1, 2, 3, 0] rfl ?_
      rw [nI_1]
      exact ih (k + 1) (by omega)
  exact loop n 0 (by omega)
theorem c_tryAs0 {d : Nat} {h : Hp} {Q : Option AV → Hp → Prop} {b m L e j n : Nat} (g : GI h b m L e) (hb : b = 17 ∨ b = 31) (t16 : T16 h) (hj : j < 6) (hbz : hi h (b + 8 + j) 7 = 0 ∨ hi h (b + 8 + j) 7 = 1) (hn1 : n ≤ 1000) (kk : Q none (tH h (kq h (b + 8 + j)) (trN (hi h b) (hi h (b + 1)) (hi h (b + 2)) (hi h (b + 3)) L (kq h (b + 8 + j)) (becV (hi h 16) (hi h (b + 8 + j))) n))) : Spec (d + 4) 113 [vR (some 0), vR (some (b + 8 + j)), vI (nI n)] h Q := by
  have z := c_tryAsItLies (d := d) (Q := Q) (q := kq h 16) (f := hi h 16) g hb hj hbz hn1 kk
  rw [← tH_self t16] at z
  exact z
def ahV (f : Nat → Int32) (w : Nat) : Int32 := if w = 0 then f 3 else if w = 1 then f 4 else if w = 2 then f 5 else (if f 7 = 0 then 0 else 1)
theorem C_ahead {d : Nat} {h : Hp} {Q : Option AV → Hp → Prop} {b m L e : Nat} {t u what : Int32} (g : GI h b m L e) (hb : b = 17 ∨ b = 31) (t16 : T16 h) (hbz : ∀ j, j < m → hi h (b + 8 + j) 7 = 0 ∨ hi h (b + 8 + j) 7 = 1) (kB : (¬ inR t m ∨ ¬ (0 ≤ u ∧ u ≤ 60) ∨ ¬ (0 ≤ what ∧ what ≤ 3)) → Q (some (vI (-1000001))) h)
    (kS : ∀ j : Nat, j < m → t = nI j → (0 ≤ u ∧ u ≤ 60) → (0 ≤ what ∧ what ≤ 3) → hi h (b + 8 + j) 2 = 13 → Q (some (vI (-1000002))) h)
    (kW : ∀ j : Nat, j < m → t = nI j → ∀ n : Nat, n ≤ 60 → u = nI n → ∀ w : Nat, w ≤ 3 → what = nI w → ¬ hi h (b + 8 + j) 2 = 13 → Q (some (vI (ahV (trN (hi h b) (hi h (b + 1)) (hi h (b + 2)) (hi h (b + 3)) L (kq h (b + 8 + j)) (becV (hi h 16) (hi h (b + 8 + j))) n) w))) (tH h (kq h (b + 8 + j)) (trN (hi h b) (hi h (b + 1)) (hi h (b + 2)) (hi h (b + 3)) L (kq h (b + 8 + j)) (becV (hi h 16) (hi h (b + 8 + j))) n))) : Spec (d + 5) 110 [vR (some 0), vI t, vI u, vI what] h Q := by
  obtain ⟨hN, hC, h5, hc, hK, hT⟩ := id g
  obtain ⟨hc1, hc2, hc3, hc4, hc5, hc6⟩ := id hc
  refine spec_intro (by decide +kernel) rfl (Nat.le_of_ble_eq_true rfl) ?_
  refine r_aload_n (pc' := 1) d110_0 rfl rfl rfl ?_
  refine r_getS (pc' := 4) d110_1 rfl o110 sf11_52_11 sh0 (pl hN rfl) h5 ?_
  refine r_iload_n (pc' := 5) d110_4 rfl rfl rfl ?_
  refine r_call (pc' := 8) [vR (some b), vI _] [] d110_5 rfl o110 st11_177_10 (rcv1 (shY hb) (plo hN (by omega))) rfl (by decide) ⟨rfl, rfl⟩ (Nat.le_of_ble_eq_true rfl) rfl (y_thingAt hN hC hb hc (fun hbad => ?_) (fun j hj0 hj => ?_))
  · refine r_astoreN (pc' := 10) (ls' := [(4, vR none), (0, vR (some 0)), (1, vI _), (2, vI _), (3, vI _)]) d110_8 rfl (by decide) rfl ?_
    refine r_aloadN (pc' := 12) d110_10 rfl rfl ?_
    refine r_nulN 32 (pc' := 15) d110_12 rfl rfl ?_
    refine r_ldc (pc' := 34) d110_32 rfl o110 kc11_100 ?_
    exact r_iretI d110_34 rfl (kB (by first | exact Or.inl hbad | exact Or.inr (Or.inl c20) | exact Or.inr (Or.inr (fun w => absurd w.1 (Int32.not_le.mpr c24))) | exact Or.inr (Or.inr (fun w => c29 w.2))))
  · refine r_astore (pc' := 10) (ls' := [(4, vR (some (b + 8 + j))), (0, vR (some 0)), (1, vI _), (2, vI _), (3, vI _)]) d110_8 rfl (by decide) rfl ?_
    refine r_aload (pc' := 12) d110_10 rfl rfl ?_
    refine r_nulS 32 (pc' := 15) d110_12 rfl rfl ?_
    refine r_iload_n (pc' := 16) d110_15 rfl rfl rfl ?_
    refine r_iconst (v := 0) (pc' := 17) d110_16 rfl (by decide) ?_
    refine r_call (pc' := 20) [vI _, vI _] [] d110_17 rfl o110 st11_278 rcv0 rfl (by decide) ⟨rfl, rfl⟩ (Nat.le_of_ble_eq_true rfl) rfl (c_isAhead ?_)
    refine r_if_eqB 32 (pc' := 23) d110_20 rfl rfl (fun c20 => ?_) (fun c20 => ?_)
    · refine r_ldc (pc' := 34) d110_32 rfl o110 kc11_100 ?_
      exact r_iretI d110_34 rfl (kB (by first | exact Or.inl hbad | exact Or.inr (Or.inl c20) | exact Or.inr (Or.inr (fun w => absurd w.1 (Int32.not_le.mpr c24))) | exact Or.inr (Or.inr (fun w => c29 w.2))))
    · refine r_iload_n (pc' := 24) d110_23 rfl rfl rfl ?_
      refine r_if_lt 32 (pc' := 27) d110_24 rfl rfl (fun c24 => ?_) (fun c24 => ?_)
      · refine r_ldc (pc' := 34) d110_32 rfl o110 kc11_100 ?_
        exact r_iretI d110_34 rfl (kB (by first | exact Or.inl hbad | exact Or.inr (Or.inl c20) | exact Or.inr (Or.inr (fun w => absurd w.1 (Int32.not_le.mpr c24))) | exact Or.inr (Or.inr (fun w => c29 w.2))))
      · refine r_iload_n (pc' := 28) d110_27 rfl rfl rfl ?_
        refine r_iconst (v := 3) (pc' := 29) d110_28 rfl (by decide) ?_
        refine r_icmp_le 35 (pc' := 32) d110_29 rfl rfl (fun c29 => ?_) (fun c29 => ?_)
        · refine r_aload (pc' := 37) d110_35 rfl rfl ?_
          refine r_call (pc' := 40) [vR (some (b + 8 + j))] [] d110_37 rfl o110 st11_181_8 (rcv1 (shT hb (by omega)) (plo hN (by omega))) rfl (by decide) ⟨rfl, rfl⟩ (Nat.le_of_ble_eq_true rfl) rfl (t_isServed hN (shT hb (by omega)) (by omega) ?_)
          refine r_if_eqB 46 (pc' := 43) d110_40 rfl rfl (fun c40 => ?_) (fun c40 => ?_)
          · obtain ⟨n, hn60, rfl⟩ := nat2 (n := 60) c20 (by decide)
            obtain ⟨w, hw3, rfl⟩ := nat2 (n := 3) ⟨Int32.not_lt.mp c24, c29⟩ (by decide)
            refine r_aload_n (pc' := 47) d110_46 rfl rfl rfl ?_
            refine r_aload (pc' := 49) d110_47 rfl rfl ?_
            refine r_iload_n (pc' := 50) d110_49 rfl rfl rfl ?_
            refine r_call (pc' := 53) [vR (some 0), vR (some (b + 8 + j)), vI _] [] d110_50 rfl o110 st11_281_11 (rcv1 sh0 (pl hN rfl)) rfl (by decide) ⟨rfl, rfl⟩ (Nat.le_of_ble_eq_true rfl) rfl (c_tryAs0 g hb t16 (by omega) (hbz j hj0) (by omega) ?_)
            have hC2 := (g.t (q := kq h (b + 8 + j)) (f := (trN (hi h b) (hi h (b + 1)) (hi h (b + 2)) (hi h (b + 3)) L (kq h (b + 8 + j)) (becV (hi h 16) (hi h (b + 8 + j))) n)) hb).2.1
            refine r_iload_n (pc' := 54) d110_53 rfl rfl rfl ?_
            rcases (show w = 0 ∨ w = 1 ∨ w = 2 ∨ w = 3 by omega) with rfl | rfl | rfl | rfl
            · refine r_tableIn (off := 26) 80 d110_54 (by decide) (by decide) (by decide) rfl ?_
              refine r_aload_n (pc' := 81) d110_80 rfl rfl rfl ?_
              refine r_getS (pc' := 84) d110_81 rfl o110 sf11_43_11 sh0 (pl hN rfl) (rfc0_4 hC2) ?_
              refine r_getI (pc' := 87) d110_84 rfl o110 sf11_244_8 sh16 (pl hN rfl) ?_
              exact r_iretI d110_87 rfl (kW j hj0 hj n hn60 rfl 0 (by decide) rfl c40)
            · refine r_tableIn (off := 34) 88 d110_54 (by decide) (by decide) (by decide) rfl ?_
              refine r_aload_n (pc' := 89) d110_88 rfl rfl rfl ?_
              refine r_getS (pc' := 92) d110_89 rfl o110 sf11_43_11 sh0 (pl hN rfl) (rfc0_4 hC2) ?_
              refine r_getI (pc' := 95) d110_92 rfl o110 sf11_285_8 sh16 (pl hN rfl) ?_
              exact r_iretI d110_95 rfl (kW j hj0 hj n hn60 rfl 1 (by decide) rfl c40)
            · refine r_tableIn (off := 42) 96 d110_54 (by decide) (by decide) (by decide) rfl ?_
              refine r_aload_n (pc' := 97) d110_96 rfl rfl rfl ?_
              refine r_getS (pc' := 100) d110_97 rfl o110 sf11_43_11 sh0 (pl hN rfl) (rfc0_4 hC2) ?_
              refine r_getI (pc' := 103) d110_100 rfl o110 sf11_288_8 sh16 (pl hN rfl) ?_
              exact r_iretI d110_103 rfl (kW j hj0 hj n hn60 rfl 2 (by decide) rfl c40)
            · refine r_tableOut 104 d110_54 (by decide) rfl ?_
              refine r_aload_n (pc' := 105) d110_104 rfl rfl rfl ?_
              refine r_getS (pc' := 108) d110_105 rfl o110 sf11_43_11 sh0 (pl hN rfl) (rfc0_4 hC2) ?_
              refine r_getI (pc' := 111) d110_108 rfl o110 sf11_250_8 sh16 (pl hN rfl) ?_
              refine r_call (pc' := 114) [vI _] [] d110_111 rfl o110 st11_253 rcv0 rfl (by decide) ⟨rfl, rfl⟩ (Nat.le_of_ble_eq_true rfl) rfl (t_asBit ?_)
              exact r_iretI d110_114 rfl (kW j hj0 hj n hn60 rfl 3 (by decide) rfl c40)
          · refine r_ldc (pc' := 45) d110_43 rfl o110 kc11_167 ?_
            exact r_iretI d110_45 rfl (kS j hj0 hj c20 ⟨Int32.not_lt.mp c24, c29⟩ c40)
        · refine r_ldc (pc' := 34) d110_32 rfl o110 kc11_100 ?_
          exact r_iretI d110_34 rfl (kB (by first | exact Or.inl hbad | exact Or.inr (Or.inl c20) | exact Or.inr (Or.inr (fun w => absurd w.1 (Int32.not_le.mpr c24))) | exact Or.inr (Or.inr (fun w => c29 w.2))))
theorem C_heatAhead {d : Nat} {h : Hp} {Q : Option AV → Hp → Prop} {b m L e : Nat} {cell u : Int32} (g : GI h b m L e) (hb : b = 17 ∨ b = 31) (t16 : T16 h) (hbz : ∀ j, j < m → hi h (b + 8 + j) 7 = 0 ∨ hi h (b + 8 + j) 7 = 1) (kS : hi h 0 7 = 0 → Q (some (vI (-1000002))) h) (kB : ¬ hi h 0 7 = 0 → (¬ (0 ≤ cell ∧ cell ≤ 11) ∨ ¬ (0 ≤ u ∧ u ≤ 60)) → Q (some (vI (-1000001))) h)
    (kN : ¬ hi h 0 7 = 0 → (0 ≤ cell ∧ cell ≤ 11) → ∀ n : Nat, n ≤ 60 → u = nI n → lyF (plF h b) cell m = none → Q (some (vI ((wmV (hi h b) (hi h (b + 1)) (hi h (b + 2)) (hi h (b + 3)) L cell (nI n)) + windV (hi h b) cell))) h)
    (kW : ¬ hi h 0 7 = 0 → (0 ≤ cell ∧ cell ≤ 11) → ∀ n : Nat, n ≤ 60 → u = nI n → ∀ i, i < m → lyF (plF h b) cell m = some i → Q (some (vI (heatV (kq h (b + 8 + i)) (trN (hi h b) (hi h (b + 1)) (hi h (b + 2)) (hi h (b + 3)) L (kq h (b + 8 + i)) (becV (hi h 16) (hi h (b + 8 + i))) n) (wmV (hi h b) (hi h (b + 1)) (hi h (b + 2)) (hi h (b + 3)) L cell (nI n)) (windV (hi h b) cell)))) (tH h (kq h (b + 8 + i)) (trN (hi h b) (hi h (b + 1)) (hi h (b + 2)) (hi h (b + 3)) L (kq h (b + 8 + i)) (becV (hi h 16) (hi h (b + 8 + i))) n))) : Spec (d + 5) 111 [vR (some 0), vI cell, vI u] h Q := by
  obtain ⟨hN, hC, h5, hc, hK, hT⟩ := id g
  obtain ⟨hc1, hc2, hc3, hc4, hc5, hc6⟩ := id hc
  refine spec_intro (by decide +kernel) rfl (Nat.le_of_ble_eq_true rfl) ?_
  refine r_aload_n (pc' := 1) d111_0 rfl rfl rfl ?_
  refine r_getI (pc' := 4) d111_1 rfl o111 sf11_154_11 sh0 (pl hN rfl) ?_
  refine r_if_ne 10 (pc' := 7) d111_4 rfl rfl (fun c4 => ?_) (fun c4 => ?_)
  · refine r_iload_n (pc' := 11) d111_10 rfl rfl rfl ?_
    refine r_call (pc' := 14) [vI _] [] d111_11 rfl o111 st11_198 rcv0 rfl (by decide) ⟨rfl, rfl⟩ (Nat.le_of_ble_eq_true rfl) rfl (t_isCell ?_)
    refine r_if_eqB 25 (pc' := 17) d111_14 rfl rfl (fun c14 => ?_) (fun c14 => ?_)
    · refine r_ldc (pc' := 27) d111_25 rfl o111 kc11_100 ?_
      exact r_iretI d111_27 rfl (kB c4 (by first | exact Or.inl c14 | exact Or.inr c22))
    · refine r_iload_n (pc' := 18) d111_17 rfl rfl rfl ?_
      refine r_iconst (v := 0) (pc' := 19) d111_18 rfl (by decide) ?_
      refine r_call (pc' := 22) [vI _, vI _] [] d111_19 rfl o111 st11_278 rcv0 rfl (by decide) ⟨rfl, rfl⟩ (Nat.le_of_ble_eq_true rfl) rfl (c_isAhead ?_)
      refine r_if_neB 28 (pc' := 25) d111_22 rfl rfl (fun c22 => ?_) (fun c22 => ?_)
      · obtain ⟨n, hn60, rfl⟩ := nat2 (n := 60) c22 (by decide)
        refine r_aload_n (pc' := 29) d111_28 rfl rfl rfl ?_
        refine r_getS (pc' := 32) d111_29 rfl o111 sf11_52_11 sh0 (pl hN rfl) h5 ?_
        refine r_iload_n (pc' := 33) d111_32 rfl rfl rfl ?_
        refine r_iload_n (pc' := 34) d111_33 rfl rfl rfl ?_
        refine r_call (pc' := 37) [vR (some b), vI _, vI _] [] d111_34 rfl o111 st11_291_10 (rcv1 (shY hb) (plo hN (by omega))) rfl (by decide) ⟨rfl, rfl⟩ (Nat.le_of_ble_eq_true rfl) rfl (y_warmthIn hN hC hb hc ?_)
        refine r_istore_n (pc' := 38) (ls' := [(3, vI _), (0, vR (some 0)), (1, vI _), (2, vI _)]) d111_37 rfl rfl (by decide) rfl ?_
        refine r_aload_n (pc' := 39) d111_38 rfl rfl rfl ?_
        refine r_getS (pc' := 42) d111_39 rfl o111 sf11_52_11 sh0 (pl hN rfl) h5 ?_
        refine r_iload_n (pc' := 43) d111_42 rfl rfl rfl ?_
        refine r_call (pc' := 46) [vR (some b), vI _] [] d111_43 rfl o111 st11_294_10 (rcv1 (shY hb) (plo hN (by omega))) rfl (by decide) ⟨rfl, rfl⟩ (Nat.le_of_ble_eq_true rfl) rfl (y_lyingIn hN hC hb hc (fun hz => ?_) (fun i hi0 hi1 hi2 => ?_))
        · refine r_astoreN (pc' := 48) (ls' := [(4, vR none), (3, vI _), (0, vR (some 0)), (1, vI _), (2, vI _)]) d111_46 rfl (by decide) rfl ?_
          refine r_aloadN (pc' := 50) d111_48 rfl rfl ?_
          refine r_nonN 64 (pc' := 53) d111_50 rfl rfl ?_
          refine r_iload_n (pc' := 54) d111_53 rfl rfl rfl ?_
          refine r_aload_n (pc' := 55) d111_54 rfl rfl rfl ?_
          refine r_getS (pc' := 58) d111_55 rfl o111 sf11_52_11 sh0 (pl hN rfl) h5 ?_
          refine r_iload_n (pc' := 59) d111_58 rfl rfl rfl ?_
          refine r_call (pc' := 62) [vR (some b), vI _] [vI _] d111_59 rfl o111 st11_297_10 (rcv1 (shY hb) (plo hN (by omega))) rfl (by decide) ⟨rfl, rfl⟩ (Nat.le_of_ble_eq_true rfl) rfl (y_windIn hN hb ?_)
          refine r_iadd (pc' := 63) d111_62 rfl ?_
          exact r_iretI d111_63 rfl (kN c4 c14 n hn60 rfl (hz c14))
        · refine r_astore (pc' := 48) (ls' := [(4, vR (some (b + 8 + i))), (3, vI _), (0, vR (some 0)), (1, vI _), (2, vI _)]) d111_46 rfl (by decide) rfl ?_
          refine r_aload (pc' := 50) d111_48 rfl rfl ?_
          refine r_nonS 64 (pc' := 53) d111_50 rfl rfl ?_
          refine r_aload_n (pc' := 65) d111_64 rfl rfl rfl ?_
          refine r_aload (pc' := 67) d111_65 rfl rfl ?_
          refine r_iload_n (pc' := 68) d111_67 rfl rfl rfl ?_
          refine r_call (pc' := 71) [vR (some 0), vR (some (b + 8 + i)), vI _] [] d111_68 rfl o111 st11_281_11 (rcv1 sh0 (pl hN rfl)) rfl (by decide) ⟨rfl, rfl⟩ (Nat.le_of_ble_eq_true rfl) rfl (c_tryAs0 g hb t16 (by omega) (hbz i hi0) (by omega) ?_)
          obtain ⟨gN, gC, g5, gc, gK, gT⟩ := g.t (q := kq h (b + 8 + i)) (f := (trN (hi h b) (hi h (b + 1)) (hi h (b + 2)) (hi h (b + 3)) L (kq h (b + 8 + i)) (becV (hi h 16) (hi h (b + 8 + i))) n)) hb
          refine r_aload_n (pc' := 72) d111_71 rfl rfl rfl ?_
          refine r_getS (pc' := 75) d111_72 rfl o111 sf11_43_11 sh0 (pl hN rfl) (rfc0_4 gC) ?_
          refine r_iload_n (pc' := 76) d111_75 rfl rfl rfl ?_
          refine r_aload_n (pc' := 77) d111_76 rfl rfl rfl ?_
          refine r_getS (pc' := 80) d111_77 rfl o111 sf11_52_11 sh0 (pl hN rfl) g5 ?_
          refine r_iload_n (pc' := 81) d111_80 rfl rfl rfl ?_
          refine r_call (pc' := 84) [vR (some b), vI _] [vI _, vR (some 16)] d111_81 rfl o111 st11_297_10 (rcv1 (shY hb) (plo gN (by omega))) rfl (by decide) ⟨rfl, rfl⟩ (Nat.le_of_ble_eq_true rfl) rfl (y_windIn hN hb ?_)
          refine r_call (pc' := 87) [vR (some 16), vI _, vI _] [] d111_84 rfl o111 st11_300_8 (rcv1 sh16 (pl gN rfl)) rfl (by decide) ⟨rfl, rfl⟩ (Nat.le_of_ble_eq_true rfl) rfl (t_heatBy gN sh16 (by decide) gK tH_k (hT i (by omega)).2 ?_)
          exact r_iretI d111_87 rfl (qv (by rw [tH_16, tH_o (by omega)]) (kW c4 c14 n hn60 rfl i hi0 hi2))
      · refine r_ldc (pc' := 27) d111_25 rfl o111 kc11_100 ?_
        exact r_iretI d111_27 rfl (kB c4 (by first | exact Or.inl c14 | exact Or.inr c22))
  · refine r_ldc (pc' := 9) d111_7 rfl o111 kc11_167 ?_
    exact r_iretI d111_9 rfl (kS c4)
theorem C_heat {d : Nat} {h : Hp} {Q : Option AV → Hp → Prop} {b m L e : Nat} {cell : Int32} (g : GI h b m L e) (hb : b = 17 ∨ b = 31) (t16 : T16 h) (hbz : ∀ j, j < m → hi h (b + 8 + j) 7 = 0 ∨ hi h (b + 8 + j) 7 = 1) (kS : hi h 0 7 = 0 → Q (some (vI (-1000002))) h) (kB : ¬ hi h 0 7 = 0 → ¬ (0 ≤ cell ∧ cell ≤ 11) → Q (some (vI (-1000001))) h)
    (kN : ¬ hi h 0 7 = 0 → (0 ≤ cell ∧ cell ≤ 11) → lyF (plF h b) cell m = none → Q (some (vI ((wmV (hi h b) (hi h (b + 1)) (hi h (b + 2)) (hi h (b + 3)) L cell (nI 0)) + windV (hi h b) cell))) h)
    (kW : ¬ hi h 0 7 = 0 → (0 ≤ cell ∧ cell ≤ 11) → ∀ i, i < m → lyF (plF h b) cell m = some i → Q (some (vI (heatV (kq h (b + 8 + i)) (trN (hi h b) (hi h (b + 1)) (hi h (b + 2)) (hi h (b + 3)) L (kq h (b + 8 + i)) (becV (hi h 16) (hi h (b + 8 + i))) 0) (wmV (hi h b) (hi h (b + 1)) (hi h (b + 2)) (hi h (b + 3)) L cell (nI 0)) (windV (hi h b) cell)))) (tH h (kq h (b + 8 + i)) (trN (hi h b) (hi h (b + 1)) (hi h (b + 2)) (hi h (b + 3)) L (kq h (b + 8 + i)) (becV (hi h 16) (hi h (b + 8 + i))) 0))) : Spec (d + 6) 107 [vR (some 0), vI cell] h Q := by
  obtain ⟨hN, hC, h5, hc, hK, hT⟩ := id g
  obtain ⟨hc1, hc2, hc3, hc4, hc5, hc6⟩ := id hc
  refine spec_intro (by decide +kernel) rfl (Nat.le_of_ble_eq_true rfl) ?_
  refine r_aload_n (pc' := 1) d107_0 rfl rfl rfl ?_
  refine r_iload_n (pc' := 2) d107_1 rfl rfl rfl ?_
  refine r_iconst (v := 0) (pc' := 3) d107_2 rfl (by decide) ?_
  refine r_call (pc' := 6) [vR (some 0), vI _, vI _] [] d107_3 rfl o107 st11_275_11 (rcv1 sh0 (pl hN rfl)) rfl (by decide) ⟨rfl, rfl⟩ (Nat.le_of_ble_eq_true rfl) rfl (C_heatAhead g hb t16 hbz (fun c => ?_) (fun c1 c2 => ?_) (fun c1 c2 n hn e z => ?_) (fun c1 c2 n hn e i hi0 z => ?_))
  · exact r_iretI d107_6 rfl (kS c)
  · exact r_iretI d107_6 rfl (kB c1 (c2.elim id (fun z => absurd (by decide) z)))
  · exact r_iretI d107_6 rfl (by obtain rfl : n = 0 := (nI_eq (by omega) (by decide)).mp e.symm; exact kN c1 c2 z)
  · exact r_iretI d107_6 rfl (by obtain rfl : n = 0 := (nI_eq (by omega) (by decide)).mp e.symm; exact kW c1 c2 i hi0 z)
