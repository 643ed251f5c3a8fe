/-! the class: yards, the hottest, minutes, water (printed by wip/whole/m56.py) -/
abbrev hbC (h : Hp) (b k : Nat) (o : Option Nat) : Prop := inC (hi h (b + 8 + k) 2) ∧ hi h (b + 8 + k) 7 = 0 ∧ ∀ i, o = some i → hi h (b + 8 + i) 4 < hi h (b + 8 + k) 4
def hbN (h : Hp) (b k : Nat) (o : Option Nat) : Option Nat := match o with
  | none => if inC (hi h (b + 8 + k) 2) ∧ hi h (b + 8 + k) 7 = 0 then some k else none
  | some i => if inC (hi h (b + 8 + k) 2) ∧ hi h (b + 8 + k) 7 = 0 ∧ hi h (b + 8 + i) 4 < hi h (b + 8 + k) 4 then some k else some i
def hbO (h : Hp) (b : Nat) : Nat → Option Nat
  | 0 => none
  | k + 1 => hbN h b k (hbO h b k)
theorem y_hottestBelow {d : Nat} {h : Hp} {Q : Option AV → Hp → Prop} {b m L e : Nat} (hN : hn h = 65) (hC : RC h) (hb : b = 17 ∨ b = 31) (hc : CntY h b m L e) (kN : hbO h b m = none → Q (some (vR none)) h) (kS : ∀ i : Nat, i < m → hbO h b m = some i → Q (some (vR (some (b + 8 + i)))) h) : Spec (d + 1) 80 [vR (some b)] h Q := by
  obtain ⟨hc1, hc2, hc3, hc4, hc5, hc6⟩ := id hc
  refine spec_intro (by decide +kernel) rfl (Nat.le_of_ble_eq_true rfl) ?_
  refine r_null (pc' := 1) d80_0 rfl ?_
  refine r_astore_nN (pc' := 2) (ls' := [(1, vR none), (0, vR (some b))]) d80_1 rfl rfl (by decide) rfl ?_
  refine r_iconst (v := 0) (pc' := 3) d80_2 rfl (by decide) ?_
  refine r_istore_n (pc' := 4) (ls' := [(2, vI _), (1, vR none), (0, vR (some b))]) d80_3 rfl rfl (by decide) rfl ?_
  refine wp_pick (ls' := [(0, vR (some b)), (1, vR none), (2, vI _)]) [2, 1, 0] rfl ?_
  have loop : ∀ (r k : Nat) (o : Option Nat), k + r = m → hbO h b k = o → (∀ i, o = some i → i < k) → wp (d + 1) 80 Q 0 0 4 [(0, vR (some b)), (1, vR (o.map (fun i => b + 8 + i))), (2, vI (nI k))] [] h := by
    intro r
    induction r with
    | zero =>
      intro k o hk ho hlt
      obtain rfl : k = m := by omega
      cases o with
      | none =>
        refine r_iload_n (pc' := 5) d80_4 rfl rfl rfl ?_
        refine r_aload_n (pc' := 6) d80_5 rfl rfl rfl ?_
        refine r_getI (pc' := 9) d80_6 rfl o80 sf10_50_10 (shY hb) (plo hN (by omega)) ?_
        refine wp_v hc.1 ?_
        refine r_icmp_ge 59 (pc' := 12) d80_9 rfl rfl (fun c9 => ?_) (fun c9 => absurd (nI_le (Nat.le_refl _) (by omega)) c9)
        refine r_aload_nN (pc' := 60) d80_59 rfl rfl rfl ?_
        exact r_aret d80_60 rfl (by first | exact Or.inl ⟨_, rfl⟩ | exact Or.inr ⟨_, rfl⟩) (kN ho)
      | some i =>
        refine r_iload_n (pc' := 5) d80_4 rfl rfl rfl ?_
        refine r_aload_n (pc' := 6) d80_5 rfl rfl rfl ?_
        refine r_getI (pc' := 9) d80_6 rfl o80 sf10_50_10 (shY hb) (plo hN (by omega)) ?_
        refine wp_v hc.1 ?_
        refine r_icmp_ge 59 (pc' := 12) d80_9 rfl rfl (fun c9 => ?_) (fun c9 => absurd (nI_le (Nat.le_refl _) (by omega)) c9)
        refine r_aload_n (pc' := 60) d80_59 rfl rfl rfl ?_
        exact r_aret d80_60 rfl (by first | exact Or.inl ⟨_, rfl⟩ | exact Or.inr ⟨_, rfl⟩) (kS i (hlt i rfl) ho)
    | succ r ih =>
      intro k o hk ho hlt
      have hs : hbO h b (k + 1) = hbN h b k o := by show hbN h b k (hbO h b k) = _; rw [ho]
      cases o with
      | none =>
        refine r_iload_n (pc' := 5) d80_4 rfl rfl rfl ?_
        refine r_aload_n (pc' := 6) d80_5 rfl rfl rfl ?_
        refine r_getI (pc' := 9) d80_6 rfl o80 sf10_50_10 (shY hb) (plo hN (by omega)) ?_
        refine wp_v hc.1 ?_
        refine r_icmp_ge 59 (pc' := 12) d80_9 rfl rfl (fun c9 => absurd c9 (nI_ge (by omega) (by omega))) (fun c9 => ?_)
        refine r_aload_n (pc' := 13) d80_12 rfl rfl rfl ?_
        refine r_getS (pc' := 16) d80_13 rfl o80 sf10_23_10 (shY hb) (plo hN (by omega)) (rY9 hC hb) ?_
        refine r_iload_n (pc' := 17) d80_16 rfl rfl rfl ?_
        refine r_aaldTN (pc' := 18) (j := k) d80_17 rfl (shY4 hb) (plo hN (by omega)) rfl (by omega) (by decide) (rYt hC hb (by omega)) ?_
        refine r_astore_n (pc' := 19) (ls' := [(3, vR (some (b + 8 + k))), (0, vR (some b)), (1, vR none), (2, vI _)]) d80_18 rfl rfl (by decide) rfl ?_
        refine r_aload_n (pc' := 20) d80_19 rfl rfl rfl ?_
        refine r_getI (pc' := 23) d80_20 rfl o80 sf10_65_8 (shT hb (by omega)) (plo hN (by omega)) ?_
        refine r_call (pc' := 26) [vI _] [] d80_23 rfl o80 st10_68 rcv0 rfl (by decide) ⟨rfl, rfl⟩ (Nat.le_of_ble_eq_true rfl) rfl (t_isCell ?_)
        refine r_if_eqB 53 (pc' := 29) d80_26 rfl rfl (fun c26 => ?_) (fun c26 => ?_)
        · refine r_iinc (v := _ + 1) (pc' := 56) (ls' := [(2, vI _), (3, vR (some (b + 8 + k))), (0, vR (some b)), (1, vR none)]) d80_53 rfl rfl rfl (by decide) rfl ?_
          refine r_goto 4 d80_56 rfl ?_
          refine wp_pick (ls' := [(0, vR (some b)), (1, vR none), (2, vI _)]) [2, 3, 0] rfl ?_
          rw [nI_1]
          refine ih (k + 1) none (by omega) (hs.trans (if_neg (by first | exact fun z => c26 z.1 | exact fun z => c33 z.2))) (fun i w => by cases w)
        · refine r_aload_n (pc' := 30) d80_29 rfl rfl rfl ?_
          refine r_getI (pc' := 33) d80_30 rfl o80 sf10_138_8 (shT hb (by omega)) (plo hN (by omega)) ?_
          refine r_if_ne 53 (pc' := 36) d80_33 rfl rfl (fun c33 => ?_) (fun c33 => ?_)
          · refine r_iinc (v := _ + 1) (pc' := 56) (ls' := [(2, vI _), (3, vR (some (b + 8 + k))), (0, vR (some b)), (1, vR none)]) d80_53 rfl rfl rfl (by decide) rfl ?_
            refine r_goto 4 d80_56 rfl ?_
            refine wp_pick (ls' := [(0, vR (some b)), (1, vR none), (2, vI _)]) [2, 3, 0] rfl ?_
            rw [nI_1]
            refine ih (k + 1) none (by omega) (hs.trans (if_neg (by first | exact fun z => c26 z.1 | exact fun z => c33 z.2))) (fun i w => by cases w)
          · refine r_aload_nN (pc' := 37) d80_36 rfl rfl rfl ?_
            refine r_nulN 51 (pc' := 40) d80_37 rfl rfl ?_
            refine r_aload_n (pc' := 52) d80_51 rfl rfl rfl ?_
            refine r_astore_n (pc' := 53) (ls' := [(1, vR (some (b + 8 + k))), (3, vR (some (b + 8 + k))), (0, vR (some b)), (2, vI _)]) d80_52 rfl rfl (by decide) rfl ?_
            refine r_iinc (v := _ + 1) (pc' := 56) (ls' := [(2, vI _), (1, vR (some (b + 8 + k))), (3, vR (some (b + 8 + k))), (0, vR (some b))]) d80_53 rfl rfl rfl (by decide) rfl ?_
            refine r_goto 4 d80_56 rfl ?_
            refine wp_pick (ls' := [(0, vR (some b)), (1, vR (some (b + 8 + k))), (2, vI _)]) [3, 1, 0] rfl ?_
            rw [nI_1]
            refine ih (k + 1) (some k) (by omega) (hs.trans (if_pos ⟨c26, c33⟩)) (fun i w => by cases w; omega)
      | some i =>
        have hik := hlt i rfl
        refine r_iload_n (pc' := 5) d80_4 rfl rfl rfl ?_
        refine r_aload_n (pc' := 6) d80_5 rfl rfl rfl ?_
        refine r_getI (pc' := 9) d80_6 rfl o80 sf10_50_10 (shY hb) (plo hN (by omega)) ?_
        refine wp_v hc.1 ?_
        refine r_icmp_ge 59 (pc' := 12) d80_9 rfl rfl (fun c9 => absurd c9 (nI_ge (by omega) (by omega))) (fun c9 => ?_)
        refine r_aload_n (pc' := 13) d80_12 rfl rfl rfl ?_
        refine r_getS (pc' := 16) d80_13 rfl o80 sf10_23_10 (shY hb) (plo hN (by omega)) (rY9 hC hb) ?_
        refine r_iload_n (pc' := 17) d80_16 rfl rfl rfl ?_
        refine r_aaldTN (pc' := 18) (j := k) d80_17 rfl (shY4 hb) (plo hN (by omega)) rfl (by omega) (by decide) (rYt hC hb (by omega)) ?_
        refine r_astore_n (pc' := 19) (ls' := [(3, vR (some (b + 8 + k))), (0, vR (some b)), (1, vR (some (b + 8 + i))), (2, vI _)]) d80_18 rfl rfl (by decide) rfl ?_
        refine r_aload_n (pc' := 20) d80_19 rfl rfl rfl ?_
        refine r_getI (pc' := 23) d80_20 rfl o80 sf10_65_8 (shT hb (by omega)) (plo hN (by omega)) ?_
        refine r_call (pc' := 26) [vI _] [] d80_23 rfl o80 st10_68 rcv0 rfl (by decide) ⟨rfl, rfl⟩ (Nat.le_of_ble_eq_true rfl) rfl (t_isCell ?_)
        refine r_if_eqB 53 (pc' := 29) d80_26 rfl rfl (fun c26 => ?_) (fun c26 => ?_)
        · refine r_iinc (v := _ + 1) (pc' := 56) (ls' := [(2, vI _), (3, vR (some (b + 8 + k))), (0, vR (some b)), (1, vR (some (b + 8 + i)))]) d80_53 rfl rfl rfl (by decide) rfl ?_
          refine r_goto 4 d80_56 rfl ?_
          refine wp_pick (ls' := [(0, vR (some b)), (1, vR (some (b + 8 + i))), (2, vI _)]) [2, 3, 0] rfl ?_
          rw [nI_1]
          refine ih (k + 1) (some i) (by omega) (hs.trans (if_neg (by first | exact fun z => c26 z.1 | exact fun z => c33 z.2.1 | exact fun z => absurd z.2.2 (Int32.not_lt.mpr c48)))) (fun i w => by cases w; have := hlt i rfl; omega)
        · refine r_aload_n (pc' := 30) d80_29 rfl rfl rfl ?_
          refine r_getI (pc' := 33) d80_30 rfl o80 sf10_138_8 (shT hb (by omega)) (plo hN (by omega)) ?_
          refine r_if_ne 53 (pc' := 36) d80_33 rfl rfl (fun c33 => ?_) (fun c33 => ?_)
          · refine r_iinc (v := _ + 1) (pc' := 56) (ls' := [(2, vI _), (3, vR (some (b + 8 + k))), (0, vR (some b)), (1, vR (some (b + 8 + i)))]) d80_53 rfl rfl rfl (by decide) rfl ?_
            refine r_goto 4 d80_56 rfl ?_
            refine wp_pick (ls' := [(0, vR (some b)), (1, vR (some (b + 8 + i))), (2, vI _)]) [2, 3, 0] rfl ?_
            rw [nI_1]
            refine ih (k + 1) (some i) (by omega) (hs.trans (if_neg (by first | exact fun z => c26 z.1 | exact fun z => c33 z.2.1 | exact fun z => absurd z.2.2 (Int32.not_lt.mpr c48)))) (fun i w => by cases w; have := hlt i rfl; omega)
          · refine r_aload_n (pc' := 37) d80_36 rfl rfl rfl ?_
            refine r_nulS 51 (pc' := 40) d80_37 rfl rfl ?_
            refine r_aload_n (pc' := 41) d80_40 rfl rfl rfl ?_
            refine r_getI (pc' := 44) d80_41 rfl o80 sf10_142_8 (shT hb (by omega)) (plo hN (by omega)) ?_
            refine r_aload_n (pc' := 45) d80_44 rfl rfl rfl ?_
            refine r_getI (pc' := 48) d80_45 rfl o80 sf10_142_8 (shT hb (by omega)) (plo hN (by omega)) ?_
            refine r_icmp_le 53 (pc' := 51) d80_48 rfl rfl (fun c48 => ?_) (fun c48 => ?_)
            · refine r_iinc (v := _ + 1) (pc' := 56) (ls' := [(2, vI _), (3, vR (some (b + 8 + k))), (0, vR (some b)), (1, vR (some (b + 8 + i)))]) d80_53 rfl rfl rfl (by decide) rfl ?_
              refine r_goto 4 d80_56 rfl ?_
              refine wp_pick (ls' := [(0, vR (some b)), (1, vR (some (b + 8 + i))), (2, vI _)]) [2, 3, 0] rfl ?_
              rw [nI_1]
              refine ih (k + 1) (some i) (by omega) (hs.trans (if_neg (by first | exact fun z => c26 z.1 | exact fun z => c33 z.2.1 | exact fun z => absurd z.2.2 (Int32.not_lt.mpr c48)))) (fun i w => by cases w; have := hlt i rfl; omega)
            · refine r_aload_n (pc' := 52) d80_51 rfl rfl rfl ?_
              refine r_astore_n (pc' := 53) (ls' := [(1, vR (some (b + 8 + k))), (3, vR (some (b + 8 + k))), (0, vR (some b)), (2, vI _)]) d80_52 rfl rfl (by decide) rfl ?_
              refine r_iinc (v := _ + 1) (pc' := 56) (ls' := [(2, vI _), (1, vR (some (b + 8 + k))), (3, vR (some (b + 8 + k))), (0, vR (some b))]) d80_53 rfl rfl rfl (by decide) rfl ?_
              refine r_goto 4 d80_56 rfl ?_
              refine wp_pick (ls' := [(0, vR (some b)), (1, vR (some (b + 8 + k))), (2, vI _)]) [3, 1, 0] rfl ?_
              rw [nI_1]
              refine ih (k + 1) (some k) (by omega) (hs.trans (if_pos ⟨c26, c33, Int32.not_le.mp c48⟩)) (fun i w => by cases w; omega)
  exact loop m 0 none (by omega) rfl (fun i w => by cases w)
/-- the first k things of a yard made anew -/
def thW (h : Hp) (b : Nat) (F : Nat → Nat → Int32) (k : Nat) : Hp := (h.1, fun a => if b + 8 ≤ a ∧ a < b + 8 + k then F (a - (b + 8)) else h.2.1 a, h.2.2)
theorem thW_0 (h : Hp) (b : Nat) (F : Nat → Nat → Int32) : thW h b F 0 = h := by
  refine hp_ext rfl (fun x y => ?_) (fun x y => rfl)
  show (if b + 8 ≤ x ∧ x < b + 8 + 0 then F (x - (b + 8)) else h.2.1 x) y = hi h x y
  rw [if_neg (by omega)]; rfl
theorem thW_hi (h : Hp) (b : Nat) (F : Nat → Nat → Int32) (k x : Nat) : hi (thW h b F k) x = if b + 8 ≤ x ∧ x < b + 8 + k then F (x - (b + 8)) else hi h x := rfl
theorem thW_out (h : Hp) (b : Nat) (F : Nat → Nat → Int32) (k x : Nat) (hx : x < b + 8 ∨ b + 8 + k ≤ x) : hi (thW h b F k) x = hi h x := by rw [thW_hi, if_neg (by omega)]
theorem thW_in (h : Hp) (b : Nat) (F : Nat → Nat → Int32) (k i : Nat) (hi0 : i < k) : hi (thW h b F k) (b + 8 + i) = F i := by rw [thW_hi, if_pos (by omega), show b + 8 + i - (b + 8) = i by omega]
theorem thW_s (h : Hp) (b : Nat) (F : Nat → Nat → Int32) (k : Nat) {f : Nat → Int32} (hf : f = F k) : setw (thW h b F k) (b + 8 + k) f = thW h b F (k + 1) := by
  subst hf
  refine hp_ext rfl (fun x y => ?_) (fun x y => rfl)
  rw [hi_setw, thW_hi, thW_hi]
  by_cases hx : x = b + 8 + k
  · subst hx; rw [if_pos rfl, if_pos (by omega), show b + 8 + k - (b + 8) = k by omega]
  · rw [if_neg hx]
    by_cases h2 : b + 8 ≤ x ∧ x < b + 8 + k
    · rw [if_pos h2, if_pos (by omega)]
    · rw [if_neg h2, if_neg (by omega)]
theorem KC.t {h : Hp} {b : Nat} {F : Nat → Nat → Int32} {k : Nat} (hK : KC h) (hb : b = 17 ∨ b = 31) (hk : k ≤ 6) : KC (thW h b F k) := by
  intro q hq
  rw [thW_out h b F k (10 + q) (by omega)]
  exact hK q hq
theorem seti_in (h : Hp) (p q j : Nat) (f g : Nat → Int32) (v : Int32) (hpq : p ≠ q) : seti (setw (setw h p f) q g) p j v = setw (setw h p (upd f j v)) q g := by
  rw [setw_comm _ _ _ _ _ hpq, seti_setw, setw_comm _ _ _ _ _ hpq]
/-- a minute of a yard -/
def psF (h : Hp) (b L i : Nat) : Nat → Int32 := rsV (hi h b) (hi h (b + 1)) (hi h (b + 2)) (hi h (b + 3)) L (kq h (b + 8 + i)) 0 (hi h (b + 8 + i))
def psA (h : Hp) (b m L c : Nat) : Hp := setw (setw (thW h b (psF h b L) m) (b + 3) (mix (fun i => mx0 (hi h (b + 3) i - 1)) (hi h (b + 3)) 0 c)) (b + 2) (mix (fun i => mx0 (hi h (b + 2) i - sunkV (hi h b) 1)) (hi h (b + 2)) 0 c)
def psH (h : Hp) (b m L : Nat) : Hp := seti (psA h b m L L) b 3 (hi h b 3 + 1)
theorem y_passMinute {d : Nat} {h : Hp} {Q : Option AV → Hp → Prop} {b m L e : Nat} (hN : hn h = 65) (hC : RC h) (hb : b = 17 ∨ b = 31) (hc : CntY h b m L e) (hK : KC h) (hT : KT h b) (kk : Q none (psH h b m L)) : Spec (d + 4) 75 [vR (some b)] h Q := by
  obtain ⟨hc1, hc2, hc3, hc4, hc5, hc6⟩ := id hc
  refine spec_intro (by decide +kernel) rfl (Nat.le_of_ble_eq_true rfl) ?_
  refine r_iconst (v := 0) (pc' := 1) d75_0 rfl (by decide) ?_
  refine r_istore_n (pc' := 2) (ls' := [(1, vI _), (0, vR (some b))]) d75_1 rfl rfl (by decide) rfl ?_
  refine wp_pick (ls' := [(0, vR (some b)), (1, vI _)]) [1, 0] rfl ?_
  have loop : ∀ (r k : Nat), k + r = m → wp (d + 4) 75 Q 0 0 2 [(0, vR (some b)), (1, vI (nI k))] [] (thW h b (psF h b L) k) := by
    intro r
    induction r with
    | zero =>
      intro k hk
      obtain rfl : k = m := by omega
      refine r_iload_n (pc' := 3) d75_2 rfl rfl rfl ?_
      refine r_aload_n (pc' := 4) d75_3 rfl rfl rfl ?_
      refine r_getI (pc' := 7) d75_4 rfl o75 sf10_50_10 (shY hb) (plo hN (by omega)) ?_
      refine wp_v (y := nI k) ((congrFun (thW_out h b _ k b (by omega)) 8).trans hc.1) ?_
      refine r_icmp_ge 27 (pc' := 10) d75_7 rfl rfl (fun c7 => ?_) (fun c7 => absurd (nI_le (Nat.le_refl _) (by omega)) c7)
      refine r_aload_n (pc' := 28) d75_27 rfl rfl rfl ?_
      refine r_iconst (v := 1) (pc' := 29) d75_28 rfl (by decide) ?_
      refine r_call (pc' := 32) [vR (some b), vI _] [] d75_29 rfl o75 st10_88_10 (rcv1 (shY hb) (plo hN (by omega))) rfl (by decide) ⟨rfl, rfl⟩ (Nat.le_of_ble_eq_true rfl) rfl (y_sunkBy hN hb ?_)
      refine r_istore_n (pc' := 33) (ls' := [(1, vI _), (0, vR (some b))]) d75_32 rfl rfl (by decide) rfl ?_
      refine r_iconst (v := 0) (pc' := 34) d75_33 rfl (by decide) ?_
      refine r_istore_n (pc' := 35) (ls' := [(2, vI _), (1, vI _), (0, vR (some b))]) d75_34 rfl rfl (by decide) rfl ?_
      refine wp_pick (ls' := [(0, vR (some b)), (1, vI _), (2, vI _)]) [2, 1, 0] rfl ?_
      rw [thW_out h b _ k b (by omega)]
      have loop2 : ∀ (r c : Nat), c + r = L → wp (d + 4) 75 Q 0 0 35 [(0, vR (some b)), (1, vI (sunkV (hi h b) 1)), (2, vI (nI c))] [] (psA h b k L c) := by
        intro r
        induction r with
        | zero =>
          intro c hk2
          obtain rfl : c = L := by omega
          refine r_iload_n (pc' := 36) d75_35 rfl rfl rfl ?_
          refine r_aload_n (pc' := 37) d75_36 rfl rfl rfl ?_
          refine r_getI (pc' := 40) d75_37 rfl o75 sf10_47_10 (shY hb) (plo hN (by omega)) ?_
          refine wp_v (y := nI c) ((show hi (psA h b k c c) b 4 = hi h b 4 from (by unfold psA; rw [hi_setw_ne _ _ _ _ (by omega), hi_setw_ne _ _ _ _ (by omega)]; exact congrFun (thW_out h b _ k b (by omega)) 4)).trans hc.2.2.1) ?_
          refine r_icmp_ge 85 (pc' := 43) d75_40 rfl rfl (fun c40 => ?_) (fun c40 => absurd (nI_le (Nat.le_refl _) (by omega)) c40)
          refine r_aload_n (pc' := 86) d75_85 rfl rfl rfl ?_
          refine r_dupR (pc' := 87) d75_86 rfl ?_
          refine r_getI (pc' := 90) d75_87 rfl o75 sf10_43_10 (shY hb) (plo hN (by omega)) ?_
          refine wp_v (y := hi h b 3) (show hi (psA h b k c c) b 3 = hi h b 3 from (by unfold psA; rw [hi_setw_ne _ _ _ _ (by omega), hi_setw_ne _ _ _ _ (by omega)]; exact congrFun (thW_out h b _ k b (by omega)) 3)) ?_
          refine r_iconst (v := 1) (pc' := 91) d75_90 rfl (by decide) ?_
          refine r_iadd (pc' := 92) d75_91 rfl ?_
          refine r_putI (pc' := 95) d75_92 rfl o75 sp10_43_10 (shY hb) (fun w => absurd w (by decide)) (Or.inl rfl) (plo hN (by omega)) ?_
          exact r_ret d75_95 rfl kk
        | succ r ih2 =>
          intro c hk2
          refine r_iload_n (pc' := 36) d75_35 rfl rfl rfl ?_
          refine r_aload_n (pc' := 37) d75_36 rfl rfl rfl ?_
          refine r_getI (pc' := 40) d75_37 rfl o75 sf10_47_10 (shY hb) (plo hN (by omega)) ?_
          refine wp_v (y := nI L) ((show hi (psA h b k L c) b 4 = hi h b 4 from (by unfold psA; rw [hi_setw_ne _ _ _ _ (by omega), hi_setw_ne _ _ _ _ (by omega)]; exact congrFun (thW_out h b _ k b (by omega)) 4)).trans hc.2.2.1) ?_
          refine r_icmp_ge 85 (pc' := 43) d75_40 rfl rfl (fun c40 => absurd c40 (nI_ge (by omega) (by omega))) (fun c40 => ?_)
          refine r_aload_n (pc' := 44) d75_43 rfl rfl rfl ?_
          refine r_getS (pc' := 47) d75_44 rfl o75 sf10_20_10 (shY hb) (plo hN (by omega)) (rY7 hC hb) ?_
          refine r_iload_n (pc' := 48) d75_47 rfl rfl rfl ?_
          refine r_iconst (v := 0) (pc' := 49) d75_48 rfl (by decide) ?_
          refine r_aload_n (pc' := 50) d75_49 rfl rfl rfl ?_
          refine r_getS (pc' := 53) d75_50 rfl o75 sf10_20_10 (shY hb) (plo hN (by omega)) (rY7 hC hb) ?_
          refine r_iload_n (pc' := 54) d75_53 rfl rfl rfl ?_
          refine r_ialdN (pc' := 55) (j := c) d75_54 rfl (shY3 hb) (plo hN (by omega)) rfl (by omega) (by decide) ?_
          refine r_iconst (v := 1) (pc' := 56) d75_55 rfl (by decide) ?_
          refine r_isub (pc' := 57) d75_56 rfl ?_
          refine r_max (pc' := 60) d75_57 rfl o75 st10_92 jm_max2 jm_i jm_max4 (Nat.le_of_ble_eq_true rfl) ?_
          refine r_iastN (pc' := 61) (j := c) d75_60 rfl (shY3 hb) (plo hN (by omega)) rfl (by omega) (by decide) ?_
          refine r_aload_n (pc' := 62) d75_61 rfl rfl rfl ?_
          refine r_getS (pc' := 65) d75_62 rfl o75 sf10_17_10 (shY hb) (plo hN (by omega)) (rY6 hC hb) ?_
          refine r_iload_n (pc' := 66) d75_65 rfl rfl rfl ?_
          refine r_iconst (v := 0) (pc' := 67) d75_66 rfl (by decide) ?_
          refine r_aload_n (pc' := 68) d75_67 rfl rfl rfl ?_
          refine r_getS (pc' := 71) d75_68 rfl o75 sf10_17_10 (shY hb) (plo hN (by omega)) (rY6 hC hb) ?_
          refine r_iload_n (pc' := 72) d75_71 rfl rfl rfl ?_
          refine r_ialdN (pc' := 73) (j := c) d75_72 rfl (shY2 hb) (plo hN (by omega)) rfl (by omega) (by decide) ?_
          refine r_iload_n (pc' := 74) d75_73 rfl rfl rfl ?_
          refine r_isub (pc' := 75) d75_74 rfl ?_
          refine r_max (pc' := 78) d75_75 rfl o75 st10_92 jm_max2 jm_i jm_max4 (Nat.le_of_ble_eq_true rfl) ?_
          refine r_iastN (pc' := 79) (j := c) d75_78 rfl (shY2 hb) (plo hN (by omega)) rfl (by omega) (by decide) ?_
          refine r_iinc (v := _ + 1) (pc' := 82) (ls' := [(2, vI _), (0, vR (some b)), (1, vI _)]) d75_79 rfl rfl rfl (by decide) rfl ?_
          refine r_goto 35 d75_82 rfl ?_
          refine wp_pick (ls' := [(0, vR (some b)), (1, vI _), (2, vI _)]) [1, 2, 0] rfl ?_
          refine wp_heap (h' := psA h b k L (c + 1)) ?_ ?_
          · unfold psA
            rw [hi_setw_ne _ _ _ _ (show b + 3 ≠ b + 2 by omega), hi_setw_row, mix_out _ _ (show ¬ (0 ≤ c ∧ c < 0 + c) by omega), seti_in _ _ _ _ _ _ _ (show b + 3 ≠ b + 2 by omega), hi_setw_row, mix_out _ _ (show ¬ (0 ≤ c ∧ c < 0 + c) by omega), seti_setw]
            congr 1
            · congr 1
              exact mix0_v (fun i => mx0 (hi h (b + 3) i - 1)) (hi h (b + 3)) c rfl
            · exact mix0_v (fun i => mx0 (hi h (b + 2) i - sunkV (hi h b) 1)) (hi h (b + 2)) c rfl
          rw [nI_1]
          exact ih2 (c + 1) (by omega)
      refine wp_heap (h' := psA h b k L 0) ?_ ?_
      · unfold psA
        rw [mix_0, mix_0, ← thW_out h b (psF h b L) k (b + 3) (by omega), setw_self, ← thW_out h b (psF h b L) k (b + 2) (by omega), setw_self]
      exact loop2 L 0 (by omega)
    | succ r ih =>
      intro k hk
      refine r_iload_n (pc' := 3) d75_2 rfl rfl rfl ?_
      refine r_aload_n (pc' := 4) d75_3 rfl rfl rfl ?_
      refine r_getI (pc' := 7) d75_4 rfl o75 sf10_50_10 (shY hb) (plo hN (by omega)) ?_
      refine wp_v (y := nI m) ((congrFun (thW_out h b _ k b (by omega)) 8).trans hc.1) ?_
      refine r_icmp_ge 27 (pc' := 10) d75_7 rfl rfl (fun c7 => absurd c7 (nI_ge (by omega) (by omega))) (fun c7 => ?_)
      refine r_aload_n (pc' := 11) d75_10 rfl rfl rfl ?_
      refine r_aload_n (pc' := 12) d75_11 rfl rfl rfl ?_
      refine r_getS (pc' := 15) d75_12 rfl o75 sf10_23_10 (shY hb) (plo hN (by omega)) (rY9 hC hb) ?_
      refine r_iload_n (pc' := 16) d75_15 rfl rfl rfl ?_
      refine r_aaldTN (pc' := 17) (j := k) d75_16 rfl (shY4 hb) (plo hN (by omega)) rfl (by omega) (by decide) (rYt hC hb (by omega)) ?_
      refine r_iconst (v := 0) (pc' := 18) d75_17 rfl (by decide) ?_
      refine r_call (pc' := 21) [vR (some b), vR (some (b + 8 + k)), vI _] [] d75_18 rfl o75 st10_126_10 (rcv1 (shY hb) (plo hN (by omega))) rfl (by decide) ⟨rfl, rfl⟩ (Nat.le_of_ble_eq_true rfl) rfl (y_roast hN hC hb (show CntY (thW h b (psF h b L) k) b m L e from ⟨(congrFun (thW_out h b _ k b (by omega)) 8).trans hc.1, hc.2.1, (congrFun (thW_out h b _ k b (by omega)) 4).trans hc.2.2.1, hc.2.2.2.1, (congrFun (thW_out h b _ k b (by omega)) 10).trans hc.2.2.2.2.1, hc.2.2.2.2.2⟩) (shT hb (by omega)) (by omega) (hK.t hb (by omega)) (hT k (by omega)).1 (hT k (by omega)).2 ?_)
      refine r_iinc (v := _ + 1) (pc' := 24) (ls' := [(1, vI _), (0, vR (some b))]) d75_21 rfl rfl rfl (by decide) rfl ?_
      refine r_goto 2 d75_24 rfl ?_
      refine wp_pick (ls' := [(0, vR (some b)), (1, vI _)]) [1, 0] rfl ?_
      refine wp_heap (h' := thW h b (psF h b L) (k + 1)) (thW_s h b _ k (by unfold psF; rw [thW_out h b _ k b (by omega), thW_out h b _ k (b + 1) (by omega), thW_out h b _ k (b + 2) (by omega), thW_out h b _ k (b + 3) (by omega), thW_out h b _ k (b + 8 + k) (by omega)])) ?_
      rw [nI_1]
      exact ih (k + 1) (by omega)
  refine wp_heap (h' := thW h b (psF h b L) 0) (thW_0 h b _).symm ?_
  exact loop m 0 (by omega)
def pwF (h : Hp) (b c : Nat) : Nat → Int32 := mix (fun i => mx0 (hi h (b + 2) i - 3)) (hi h (b + 2)) 0 c
def pwH (h : Hp) (b L : Nat) : Hp := setw h (b + 2) (pwF h b L)
theorem y_pourWater {d : Nat} {h : Hp} {Q : Option AV → Hp → Prop} {b m L e : Nat} (hN : hn h = 65) (hC : RC h) (hb : b = 17 ∨ b = 31) (hc : CntY h b m L e) (kk : Q (some (vI (fiS (hi h (b + 2)) L - fiS (pwF h b L) L))) (pwH h b L)) : Spec (d + 1) 76 [vR (some b)] h Q := by
  obtain ⟨hc1, hc2, hc3, hc4, hc5, hc6⟩ := id hc
  refine spec_intro (by decide +kernel) rfl (Nat.le_of_ble_eq_true rfl) ?_
  refine r_aload_n (pc' := 1) d76_0 rfl rfl rfl ?_
  refine r_call (pc' := 4) [vR (some b)] [] d76_1 rfl o76 st10_130_10 (rcv1 (shY hb) (plo hN (by omega))) rfl (by decide) ⟨rfl, rfl⟩ (Nat.le_of_ble_eq_true rfl) rfl (y_fireOfAll hN hC hb hc ?_)
  refine r_istore_n (pc' := 5) (ls' := [(1, vI _), (0, vR (some b))]) d76_4 rfl rfl (by decide) rfl ?_
  refine r_iconst (v := 0) (pc' := 6) d76_5 rfl (by decide) ?_
  refine r_istore_n (pc' := 7) (ls' := [(2, vI _), (1, vI _), (0, vR (some b))]) d76_6 rfl rfl (by decide) rfl ?_
  refine wp_pick (ls' := [(0, vR (some b)), (1, vI _), (2, vI _)]) [2, 1, 0] rfl ?_
  have loop : ∀ (r c : Nat), c + r = L → wp (d + 1) 76 Q 0 0 7 [(0, vR (some b)), (1, vI (fiS (hi h (b + 2)) L)), (2, vI (nI c))] [] (setw h (b + 2) (pwF h b c)) := by
    intro r
    induction r with
    | zero =>
      intro c hk2
      obtain rfl : c = L := by omega
      refine r_iload_n (pc' := 8) d76_7 rfl rfl rfl ?_
      refine r_aload_n (pc' := 9) d76_8 rfl rfl rfl ?_
      refine r_getI (pc' := 12) d76_9 rfl o76 sf10_47_10 (shY hb) (plo hN (by omega)) ?_
      refine wp_v (y := nI c) ((congrFun (hi_setw_ne h (b + 2) (pwF h b c) b (by omega)) 4).trans hc.2.2.1) ?_
      refine r_icmp_ge 39 (pc' := 15) d76_12 rfl rfl (fun c12 => ?_) (fun c12 => absurd (nI_le (Nat.le_refl _) (by omega)) c12)
      refine r_iload_n (pc' := 40) d76_39 rfl rfl rfl ?_
      refine r_aload_n (pc' := 41) d76_40 rfl rfl rfl ?_
      refine r_call (pc' := 44) [vR (some b)] [vI _] d76_41 rfl o76 st10_130_10 (rcv1 (shY hb) (plo hN (by omega))) rfl (by decide) ⟨rfl, rfl⟩ (Nat.le_of_ble_eq_true rfl) rfl (y_fireOfAll hN hC hb (m := m) (L := c) (e := e) ⟨(congrFun (hi_setw_ne h (b + 2) (pwF h b c) b (by omega)) 8).trans hc.1, hc.2.1, (congrFun (hi_setw_ne h (b + 2) (pwF h b c) b (by omega)) 4).trans hc.2.2.1, hc.2.2.2.1, (congrFun (hi_setw_ne h (b + 2) (pwF h b c) b (by omega)) 10).trans hc.2.2.2.2.1, hc.2.2.2.2.2⟩ ?_)
      refine r_isub (pc' := 45) d76_44 rfl ?_
      exact r_iretI d76_45 rfl (qv (by rw [hi_setw_row]) kk)
    | succ r ih =>
      intro c hk2
      refine r_iload_n (pc' := 8) d76_7 rfl rfl rfl ?_
      refine r_aload_n (pc' := 9) d76_8 rfl rfl rfl ?_
      refine r_getI (pc' := 12) d76_9 rfl o76 sf10_47_10 (shY hb) (plo hN (by omega)) ?_
      refine wp_v (y := nI L) ((congrFun (hi_setw_ne h (b + 2) (pwF h b c) b (by omega)) 4).trans hc.2.2.1) ?_
      refine r_icmp_ge 39 (pc' := 15) d76_12 rfl rfl (fun c12 => absurd c12 (nI_ge (by omega) (by omega))) (fun c12 => ?_)
      refine r_aload_n (pc' := 16) d76_15 rfl rfl rfl ?_
      refine r_getS (pc' := 19) d76_16 rfl o76 sf10_17_10 (shY hb) (plo hN (by omega)) (rY6 hC hb) ?_
      refine r_iload_n (pc' := 20) d76_19 rfl rfl rfl ?_
      refine r_iconst (v := 0) (pc' := 21) d76_20 rfl (by decide) ?_
      refine r_aload_n (pc' := 22) d76_21 rfl rfl rfl ?_
      refine r_getS (pc' := 25) d76_22 rfl o76 sf10_17_10 (shY hb) (plo hN (by omega)) (rY6 hC hb) ?_
      refine r_iload_n (pc' := 26) d76_25 rfl rfl rfl ?_
      refine r_ialdN (pc' := 27) (j := c) d76_26 rfl (shY2 hb) (plo hN (by omega)) rfl (by omega) (by decide) ?_
      refine r_iconst (v := 3) (pc' := 28) d76_27 rfl (by decide) ?_
      refine r_isub (pc' := 29) d76_28 rfl ?_
      refine r_max (pc' := 32) d76_29 rfl o76 st10_92 jm_max2 jm_i jm_max4 (Nat.le_of_ble_eq_true rfl) ?_
      refine r_iastN (pc' := 33) (j := c) d76_32 rfl (shY2 hb) (plo hN (by omega)) rfl (by omega) (by decide) ?_
      refine r_iinc (v := _ + 1) (pc' := 36) (ls' := [(2, vI _), (0, vR (some b)), (1, vI _)]) d76_33 rfl rfl rfl (by decide) rfl ?_
      refine r_goto 7 d76_36 rfl ?_
      refine wp_pick (ls' := [(0, vR (some b)), (1, vI _), (2, vI _)]) [1, 2, 0] rfl ?_
      refine wp_heap (h' := setw h (b + 2) (pwF h b (c + 1))) ?_ ?_
      · unfold pwF
        rw [hi_setw_row, mix_out _ _ (show ¬ (0 ≤ c ∧ c < 0 + c) by omega), seti_setw]
        exact congrArg (setw h (b + 2)) (mix0_v (fun i => mx0 (hi h (b + 2) i - 3)) (hi h (b + 2)) c rfl)
      rw [nI_1]
      exact ih (c + 1) (by omega)
  refine wp_heap (h' := setw h (b + 2) (pwF h b 0)) (by unfold pwF; rw [mix_0, setw_self]) ?_
  exact loop L 0 (by omega)
