/-! the class: yards, what is asked of them (printed by wip/whole/m54.py) -/
theorem shY {b : Nat} (hb : b = 17 ∨ b = 31) : SH b = (0, 10) := by rcases hb with rfl | rfl <;> rfl
theorem shY1 {b : Nat} (hb : b = 17 ∨ b = 31) : SH (b + 1) = (1, 8) := by rcases hb with rfl | rfl <;> rfl
theorem shY2 {b : Nat} (hb : b = 17 ∨ b = 31) : SH (b + 2) = (1, 8) := by rcases hb with rfl | rfl <;> rfl
theorem shY3 {b : Nat} (hb : b = 17 ∨ b = 31) : SH (b + 3) = (1, 8) := by rcases hb with rfl | rfl <;> rfl
theorem shY4 {b : Nat} (hb : b = 17 ∨ b = 31) : SH (b + 4) = (4, 6) := by rcases hb with rfl | rfl <;> rfl
theorem shY5 {b : Nat} (hb : b = 17 ∨ b = 31) : SH (b + 5) = (1, 4) := by rcases hb with rfl | rfl <;> rfl
theorem shY6 {b : Nat} (hb : b = 17 ∨ b = 31) : SH (b + 6) = (1, 4) := by rcases hb with rfl | rfl <;> rfl
theorem shY7 {b : Nat} (hb : b = 17 ∨ b = 31) : SH (b + 7) = (1, 4) := by rcases hb with rfl | rfl <;> rfl
theorem shT {b i : Nat} (hb : b = 17 ∨ b = 31) (hi0 : i < 6) : SH (b + 8 + i) = (0, 8) := by
  rcases hb with rfl | rfl
  · exact q6 (p := fun i => SH (17 + 8 + i) = (0, 8)) rfl rfl rfl rfl rfl rfl hi0
  · exact q6 (p := fun i => SH (31 + 8 + i) = (0, 8)) rfl rfl rfl rfl rfl rfl hi0
theorem rY0 {h : Hp} {b : Nat} (hC : RC h) (hb : b = 17 ∨ b = 31) : hr h b 0 = some 9 := by rcases hb with rfl | rfl; exact rfc17_0 hC; exact rfc31_0 hC
theorem rY5 {h : Hp} {b : Nat} (hC : RC h) (hb : b = 17 ∨ b = 31) : hr h b 5 = some (b + 1) := by rcases hb with rfl | rfl; exact rfc17_5 hC; exact rfc31_5 hC
theorem rY6 {h : Hp} {b : Nat} (hC : RC h) (hb : b = 17 ∨ b = 31) : hr h b 6 = some (b + 2) := by rcases hb with rfl | rfl; exact rfc17_6 hC; exact rfc31_6 hC
theorem rY7 {h : Hp} {b : Nat} (hC : RC h) (hb : b = 17 ∨ b = 31) : hr h b 7 = some (b + 3) := by rcases hb with rfl | rfl; exact rfc17_7 hC; exact rfc31_7 hC
theorem rY9 {h : Hp} {b : Nat} (hC : RC h) (hb : b = 17 ∨ b = 31) : hr h b 9 = some (b + 4) := by rcases hb with rfl | rfl; exact rfc17_9 hC; exact rfc31_9 hC
theorem rY11 {h : Hp} {b : Nat} (hC : RC h) (hb : b = 17 ∨ b = 31) : hr h b 11 = some (b + 5) := by rcases hb with rfl | rfl; exact rfc17_11 hC; exact rfc31_11 hC
theorem rY12 {h : Hp} {b : Nat} (hC : RC h) (hb : b = 17 ∨ b = 31) : hr h b 12 = some (b + 6) := by rcases hb with rfl | rfl; exact rfc17_12 hC; exact rfc31_12 hC
theorem rY13 {h : Hp} {b : Nat} (hC : RC h) (hb : b = 17 ∨ b = 31) : hr h b 13 = some (b + 7) := by rcases hb with rfl | rfl; exact rfc17_13 hC; exact rfc31_13 hC
theorem rYt {h : Hp} {b i : Nat} (hC : RC h) (hb : b = 17 ∨ b = 31) (hi0 : i < 6) : hr h (b + 4) i = some (b + 8 + i) := by rcases hb with rfl | rfl; exact hC.2.2.1 i hi0; exact hC.2.2.2 i hi0
theorem rKs {h : Hp} {i : Nat} (hC : RC h) (hi0 : i < 6) : hr h 9 i = some (10 + i) := hC.2.1 i hi0
def CntY (h : Hp) (b m L e : Nat) : Prop := hi h b 8 = nI m ∧ m ≤ 6 ∧ hi h b 4 = nI L ∧ L ≤ 8 ∧ hi h b 10 = nI e ∧ e ≤ 4
def kq (h : Hp) (o : Nat) : Nat := match hr h o 1 with
  | some p => p - 10
  | none => 0
def KT (h : Hp) (b : Nat) : Prop := ∀ i, i < 6 → hr h (b + 8 + i) 1 = some (10 + kq h (b + 8 + i)) ∧ kq h (b + 8 + i) < 6
theorem inr1 {x : Int32} {m : Nat} (h1 : ¬ x < 0) (h2 : ¬ nI m ≤ x) (hm : m < 1000) : ∃ j : Nat, j < m ∧ x = nI j := by
  rcases pk_ix x (n := m) (by omega) with q | q | q
  · exact absurd q h1
  · exact absurd q h2
  · exact q
theorem inr2 {x : Int32} {m : Nat} (hm : m < 1000) (h : ∃ j : Nat, j < m ∧ x = nI j) : inR x m := by
  obtain ⟨j, hj, rfl⟩ := h
  refine ⟨nI_pos' (by omega), ?_⟩
  show nI j ≤ nI m - nI 1
  rw [pk_sub (by omega)]
  exact nI_le (by omega) (by omega)
theorem inr3 {x : Int32} {m : Nat} (hm : m < 1000) (h : inR x m) : ∃ j : Nat, j < m ∧ x = nI j := by
  obtain ⟨h1, h2⟩ := h
  rcases Nat.eq_zero_or_pos m with rfl | q
  · exact absurd (Int32.le_trans h1 h2) (by decide)
  · have h3 : x ≤ nI (m - 1) := by rw [← pk_sub (by omega)]; exact h2
    obtain ⟨j, hj, e⟩ := nat_of h1 h3 (by omega)
    exact ⟨j, by omega, e⟩
theorem inr4 {x : Int32} {m : Nat} (hm : m < 1000) (h : x < 0 ∨ nI m ≤ x) : ¬ inR x m := fun w => by
  obtain ⟨j, hj, rfl⟩ := inr3 hm w
  rcases h with q | q
  · exact nI_pos (by omega) q
  · exact nI_ge hj (by omega) q
theorem y_thingAt {d : Nat} {h : Hp} {Q : Option AV → Hp → Prop} {b m L e : Nat} {t : Int32} (hN : hn h = 65) (hC : RC h) (hb : b = 17 ∨ b = 31) (hc : CntY h b m L e) (kN : ¬ inR t m → Q (some (vR none)) h) (kS : ∀ j : Nat, j < m → t = nI j → Q (some (vR (some (b + 8 + j)))) h) : Spec d 65 [vR (some b), vI t] h Q := by
  obtain ⟨hc1, hc2, hc3, hc4, hc5, hc6⟩ := id hc
  refine spec_intro (by decide +kernel) rfl (Nat.le_of_ble_eq_true rfl) ?_
  refine r_iload_n (pc' := 1) d65_0 rfl rfl rfl ?_
  refine r_if_lt 21 (pc' := 4) d65_1 rfl rfl (fun c1 => ?_) (fun c1 => ?_)
  · refine r_null (pc' := 22) d65_21 rfl ?_
    exact r_aret d65_22 rfl (by first | exact Or.inl ⟨_, rfl⟩ | exact Or.inr ⟨_, rfl⟩) (kN (inr4 (by omega) (by first | exact Or.inl c1 | exact Or.inr c9)))
  · refine r_iload_n (pc' := 5) d65_4 rfl rfl rfl ?_
    refine r_aload_n (pc' := 6) d65_5 rfl rfl rfl ?_
    refine r_getI (pc' := 9) d65_6 rfl o65 sf10_50_10 (shY hb) (plo hN (by omega)) ?_
    refine wp_v hc.1 ?_
    refine r_icmp_ge 21 (pc' := 12) d65_9 rfl rfl (fun c9 => ?_) (fun c9 => ?_)
    · refine r_null (pc' := 22) d65_21 rfl ?_
      exact r_aret d65_22 rfl (by first | exact Or.inl ⟨_, rfl⟩ | exact Or.inr ⟨_, rfl⟩) (kN (inr4 (by omega) (by first | exact Or.inl c1 | exact Or.inr c9)))
    · obtain ⟨j, hj, rfl⟩ := inr1 c1 c9 (by omega)
      refine r_aload_n (pc' := 13) d65_12 rfl rfl rfl ?_
      refine r_getS (pc' := 16) d65_13 rfl o65 sf10_23_10 (shY hb) (plo hN (by omega)) (rY9 hC hb) ?_
      refine r_iload_n (pc' := 17) d65_16 rfl rfl rfl ?_
      refine r_aaldTN (pc' := 18) (j := j) d65_17 rfl (shY4 hb) (plo hN (by omega)) rfl (by omega) (by decide) (rYt hC hb (by omega)) ?_
      refine r_goto 22 d65_18 rfl ?_
      exact r_aret d65_22 rfl (by first | exact Or.inl ⟨_, rfl⟩ | exact Or.inr ⟨_, rfl⟩) (kS j hj rfl)
theorem y_isEater {d : Nat} {h : Hp} {Q : Option AV → Hp → Prop} {b m L e : Nat} {t : Int32} (hN : hn h = 65) (hC : RC h) (hb : b = 17 ∨ b = 31) (hc : CntY h b m L e) (k : Q (some (vI (bI (inR t e)))) h) : Spec d 66 [vR (some b), vI t] h Q := by
  obtain ⟨hc1, hc2, hc3, hc4, hc5, hc6⟩ := id hc
  refine spec_intro (by decide +kernel) rfl (Nat.le_of_ble_eq_true rfl) ?_
  refine r_iload_n (pc' := 1) d66_0 rfl rfl rfl ?_
  refine r_if_lt 16 (pc' := 4) d66_1 rfl rfl (fun c1 => ?_) (fun c1 => ?_)
  · refine r_iconst (v := 0) (pc' := 17) d66_16 rfl (by decide) ?_
    exact r_iretZ0 d66_17 rfl (qv (b0 (inr4 (by omega) (by first | exact Or.inl c1 | exact Or.inr c9))) k)
  · refine r_iload_n (pc' := 5) d66_4 rfl rfl rfl ?_
    refine r_aload_n (pc' := 6) d66_5 rfl rfl rfl ?_
    refine r_getI (pc' := 9) d66_6 rfl o66 sf10_53_10 (shY hb) (plo hN (by omega)) ?_
    refine wp_v hc.2.2.2.2.1 ?_
    refine r_icmp_ge 16 (pc' := 12) d66_9 rfl rfl (fun c9 => ?_) (fun c9 => ?_)
    · refine r_iconst (v := 0) (pc' := 17) d66_16 rfl (by decide) ?_
      exact r_iretZ0 d66_17 rfl (qv (b0 (inr4 (by omega) (by first | exact Or.inl c1 | exact Or.inr c9))) k)
    · refine r_iconst (v := 1) (pc' := 13) d66_12 rfl (by decide) ?_
      refine r_goto 17 d66_13 rfl ?_
      exact r_iretZ1 d66_17 rfl (qv (b1 (inr2 (by omega) (inr1 c1 c9 (by omega)))) k)
def kO (v : Int32) : Nat := if 0 ≤ v ∧ v ≤ 5 then v.toNatClampNeg else 0
theorem kO_n {j : Nat} (hj : j < 6) : kO (nI j) = j := by
  unfold kO
  rw [if_pos ⟨nI_pos' (by omega), nI_le (a := j) (b := 5) (by omega) (by decide)⟩, nI_clamp (by omega)]
theorem kO_lt (v : Int32) : kO v < 6 := by
  unfold kO
  split
  · next w => obtain ⟨j, hj, rfl⟩ := nat_of (n := 5) w.1 w.2 (by decide); rw [nI_clamp (by omega)]; omega
  · omega
theorem qr {Q : Option AV → Hp → Prop} {x y : Option Nat} {h : Hp} (e : x = y) (k : Q (some (vR x)) h) : Q (some (vR y)) h := e ▸ k
theorem y_kindOf {d : Nat} {h : Hp} {Q : Option AV → Hp → Prop} {b : Nat} {v : Int32} (hN : hn h = 65) (hC : RC h) (hb : b = 17 ∨ b = 31) (k : Q (some (vR (some (10 + kO v)))) h) : Spec d 64 [vR (some b), vI v] h Q := by
  refine spec_intro (by decide +kernel) rfl (Nat.le_of_ble_eq_true rfl) ?_
  refine r_aload_n (pc' := 1) d64_0 rfl rfl rfl ?_
  refine r_getS (pc' := 4) d64_1 rfl o64 sf10_36_10 (shY hb) (plo hN (by omega)) (rY0 hC hb) ?_
  refine r_iload_n (pc' := 5) d64_4 rfl rfl rfl ?_
  refine r_if_lt 21 (pc' := 8) d64_5 rfl rfl (fun c5 => ?_) (fun c5 => ?_)
  · refine r_iconst (v := 0) (pc' := 22) d64_21 rfl (by decide) ?_
    refine r_aaldKN (pc' := 23) (j := 0) d64_22 rfl sh9 (pl hN rfl) rfl (by omega) (by decide) (rKs hC (by omega)) ?_
    exact r_aret d64_23 rfl (by first | exact Or.inl ⟨_, rfl⟩ | exact Or.inr ⟨_, rfl⟩) (qr (congrArg some (by first | rw [kO_n hj] | (rw [show kO v = 0 by unfold kO; exact if_neg (by first | exact fun z => absurd z.1 (Int32.not_le.mpr c5) | exact fun z => inr4 (m := 6) (by decide) (Or.inr c14) ⟨z.1, z.2⟩)]))) k)
  · refine r_iload_n (pc' := 9) d64_8 rfl rfl rfl ?_
    refine r_aload_n (pc' := 10) d64_9 rfl rfl rfl ?_
    refine r_getS (pc' := 13) d64_10 rfl o64 sf10_36_10 (shY hb) (plo hN (by omega)) (rY0 hC hb) ?_
    refine r_alen (pc' := 14) d64_13 rfl sh9 (by decide) (pl hN rfl) ?_
    refine r_icmp_ge 21 (pc' := 17) d64_14 rfl rfl (fun c14 => ?_) (fun c14 => ?_)
    · refine r_iconst (v := 0) (pc' := 22) d64_21 rfl (by decide) ?_
      refine r_aaldKN (pc' := 23) (j := 0) d64_22 rfl sh9 (pl hN rfl) rfl (by omega) (by decide) (rKs hC (by omega)) ?_
      exact r_aret d64_23 rfl (by first | exact Or.inl ⟨_, rfl⟩ | exact Or.inr ⟨_, rfl⟩) (qr (congrArg some (by first | rw [kO_n hj] | (rw [show kO v = 0 by unfold kO; exact if_neg (by first | exact fun z => absurd z.1 (Int32.not_le.mpr c5) | exact fun z => inr4 (m := 6) (by decide) (Or.inr c14) ⟨z.1, z.2⟩)]))) k)
    · obtain ⟨j, hj, rfl⟩ := inr1 (m := 6) c5 c14 (by decide)
      refine r_iload_n (pc' := 18) d64_17 rfl rfl rfl ?_
      refine r_goto 22 d64_18 rfl ?_
      refine r_aaldKN (pc' := 23) (j := j) d64_22 rfl sh9 (pl hN rfl) rfl (by omega) (by decide) (rKs hC (by omega)) ?_
      exact r_aret d64_23 rfl (by first | exact Or.inl ⟨_, rfl⟩ | exact Or.inr ⟨_, rfl⟩) (qr (congrArg some (by first | rw [kO_n hj] | (rw [show kO v = 0 by unfold kO; exact if_neg (by first | exact fun z => absurd z.1 (Int32.not_le.mpr c5) | exact fun z => inr4 (m := 6) (by decide) (Or.inr c14) ⟨z.1, z.2⟩)]))) k)
def lyF (f : Nat → Int32) (cell : Int32) : Nat → Option Nat
  | 0 => none
  | k + 1 => match lyF f cell k with
    | some i => some i
    | none => if f k = cell then some k else none
abbrev plF (h : Hp) (b : Nat) : Nat → Int32 := fun i => hi h (b + 8 + i) 2
abbrev inC (c : Int32) : Prop := 0 ≤ c ∧ c ≤ 11
theorem lyF_mono {f : Nat → Int32} {cell : Int32} {i : Nat} : ∀ (r k : Nat), lyF f cell k = some i → lyF f cell (k + r) = some i := by
  intro r
  induction r with
  | zero => intro k h; exact h
  | succ r ih => intro k h; show lyF f cell (k + r + 1) = some i; unfold lyF; rw [ih k h]
theorem lyF_ok {f : Nat → Int32} {cell : Int32} {i : Nat} : ∀ k, lyF f cell k = some i → i < k ∧ f i = cell := by
  intro k
  induction k with
  | zero => intro h; cases h
  | succ k ih =>
    intro h
    unfold lyF at h
    cases hh : lyF f cell k with
    | some j => rw [hh] at h; cases h; exact ⟨Nat.lt_succ_of_lt (ih hh).1, (ih hh).2⟩
    | none =>
      rw [hh] at h
      dsimp only at h
      split at h
      · next w => have e := Option.some.inj h; rw [← e]; exact ⟨Nat.lt_succ_self k, w⟩
      · cases h
theorem lyF_no {f : Nat → Int32} {cell : Int32} : ∀ k, lyF f cell k = none → ∀ i, i < k → ¬ f i = cell := by
  intro k
  induction k with
  | zero => intro _ i hi0; omega
  | succ k ih =>
    intro h i hi0
    unfold lyF at h
    cases hh : lyF f cell k with
    | some j => rw [hh] at h; cases h
    | none =>
      rw [hh] at h
      dsimp only at h
      split at h
      · cases h
      · next w =>
        rcases Nat.lt_or_ge i k with q | q
        · exact ih hh i q
        · rw [show i = k by omega]; exact w
theorem y_lyingIn {d : Nat} {h : Hp} {Q : Option AV → Hp → Prop} {b m L e : Nat} {cell : Int32} (hN : hn h = 65) (hC : RC h) (hb : b = 17 ∨ b = 31) (hc : CntY h b m L e) (kN : (inC cell → lyF (plF h b) cell m = none) → Q (some (vR none)) h) (kS : ∀ i : Nat, i < m → inC cell → lyF (plF h b) cell m = some i → Q (some (vR (some (b + 8 + i)))) h) : Spec (d + 1) 67 [vR (some b), vI cell] h Q := by
  obtain ⟨hc1, hc2, hc3, hc4, hc5, hc6⟩ := id hc
  refine spec_intro (by decide +kernel) rfl (Nat.le_of_ble_eq_true rfl) ?_
  refine r_iconst (v := 0) (pc' := 1) d67_0 rfl (by decide) ?_
  refine r_istore_n (pc' := 2) (ls' := [(2, vI _), (0, vR (some b)), (1, vI _)]) d67_1 rfl rfl (by decide) rfl ?_
  refine wp_pick (ls' := [(0, vR (some b)), (1, vI _), (2, vI _)]) [1, 2, 0] rfl ?_
  have loop : ∀ (r k : Nat), k + r = m → (inC cell → lyF (plF h b) cell k = none) → wp (d + 1) 67 Q 0 0 2 [(0, vR (some b)), (1, vI cell), (2, vI (nI k))] [] h := by
    intro r
    induction r with
    | zero =>
      intro k hk hl
      obtain rfl : k = m := by omega
      refine r_iload_n (pc' := 3) d67_2 rfl rfl rfl ?_
      refine r_aload_n (pc' := 4) d67_3 rfl rfl rfl ?_
      refine r_getI (pc' := 7) d67_4 rfl o67 sf10_50_10 (shY hb) (plo hN (by omega)) ?_
      refine wp_v hc.1 ?_
      refine r_icmp_ge 43 (pc' := 10) d67_7 rfl rfl (fun c7 => ?_) (fun c7 => absurd (nI_le (Nat.le_refl _) (by omega)) c7)
      refine r_null (pc' := 44) d67_43 rfl ?_
      exact r_aret d67_44 rfl (by first | exact Or.inl ⟨_, rfl⟩ | exact Or.inr ⟨_, rfl⟩) (kN hl)
    | succ r ih =>
      intro k hk hl
      refine r_iload_n (pc' := 3) d67_2 rfl rfl rfl ?_
      refine r_aload_n (pc' := 4) d67_3 rfl rfl rfl ?_
      refine r_getI (pc' := 7) d67_4 rfl o67 sf10_50_10 (shY hb) (plo hN (by omega)) ?_
      refine wp_v hc.1 ?_
      refine r_icmp_ge 43 (pc' := 10) d67_7 rfl rfl (fun c7 => absurd c7 (nI_ge (by omega) (by omega))) (fun c7 => ?_)
      refine r_aload_n (pc' := 11) d67_10 rfl rfl rfl ?_
      refine r_getS (pc' := 14) d67_11 rfl o67 sf10_23_10 (shY hb) (plo hN (by omega)) (rY9 hC hb) ?_
      refine r_iload_n (pc' := 15) d67_14 rfl rfl rfl ?_
      refine r_aaldTN (pc' := 16) (j := k) d67_15 rfl (shY4 hb) (plo hN (by omega)) rfl (by omega) (by decide) (rYt hC hb (by omega)) ?_
      refine r_getI (pc' := 19) d67_16 rfl o67 sf10_65_8 (shT hb (by omega)) (plo hN (by omega)) ?_
      refine r_iload_n (pc' := 20) d67_19 rfl rfl rfl ?_
      refine r_icmp_ne 37 (pc' := 23) d67_20 rfl rfl (fun c20 => ?_) (fun c20 => ?_)
      · refine r_iinc (v := _ + 1) (pc' := 40) (ls' := [(2, vI _), (0, vR (some b)), (1, vI _)]) d67_37 rfl rfl rfl (by decide) rfl ?_
        refine r_goto 2 d67_40 rfl ?_
        refine wp_pick (ls' := [(0, vR (some b)), (1, vI _), (2, vI _)]) [1, 2, 0] rfl ?_
        rw [nI_1]
        refine ih (k + 1) (by omega) (fun hz => ?_)
        unfold lyF; rw [hl hz]; exact if_neg c20
      · refine r_iload_n (pc' := 24) d67_23 rfl rfl rfl ?_
        refine r_call (pc' := 27) [vI _] [] d67_24 rfl o67 st10_68 rcv0 rfl (by decide) ⟨rfl, rfl⟩ (Nat.le_of_ble_eq_true rfl) rfl (t_isCell ?_)
        refine r_if_eqB 37 (pc' := 30) d67_27 rfl rfl (fun c27 => ?_) (fun c27 => ?_)
        · refine r_iinc (v := _ + 1) (pc' := 40) (ls' := [(2, vI _), (0, vR (some b)), (1, vI _)]) d67_37 rfl rfl rfl (by decide) rfl ?_
          refine r_goto 2 d67_40 rfl ?_
          refine wp_pick (ls' := [(0, vR (some b)), (1, vI _), (2, vI _)]) [1, 2, 0] rfl ?_
          rw [nI_1]
          refine ih (k + 1) (by omega) (fun hz => ?_)
          exact absurd hz c27
        · refine r_aload_n (pc' := 31) d67_30 rfl rfl rfl ?_
          refine r_getS (pc' := 34) d67_31 rfl o67 sf10_23_10 (shY hb) (plo hN (by omega)) (rY9 hC hb) ?_
          refine r_iload_n (pc' := 35) d67_34 rfl rfl rfl ?_
          refine r_aaldTN (pc' := 36) (j := k) d67_35 rfl (shY4 hb) (plo hN (by omega)) rfl (by omega) (by decide) (rYt hC hb (by omega)) ?_
          exact r_aret d67_36 rfl (by first | exact Or.inl ⟨_, rfl⟩ | exact Or.inr ⟨_, rfl⟩) (kS k (by omega) c27 (by rw [show m = k + 1 + r by omega]; exact lyF_mono _ _ (by unfold lyF; rw [hl c27]; exact if_pos c20)))
  exact loop m 0 (by omega) (fun _ => rfl)
abbrev opC (f : Nat → Int32) (m j : Nat) (cell : Int32) : Prop := inC cell → lyF f cell m = none ∨ lyF f cell m = some j
theorem y_isOpenTo {d : Nat} {h : Hp} {Q : Option AV → Hp → Prop} {b m L e j : Nat} {cell : Int32} (hN : hn h = 65) (hC : RC h) (hb : b = 17 ∨ b = 31) (hc : CntY h b m L e) (hj : j < 6) (k : Q (some (vI (bI (opC (plF h b) m j cell)))) h) : Spec (d + 2) 68 [vR (some b), vR (some (b + 8 + j)), vI cell] h Q := by
  obtain ⟨hc1, hc2, hc3, hc4, hc5, hc6⟩ := id hc
  refine spec_intro (by decide +kernel) rfl (Nat.le_of_ble_eq_true rfl) ?_
  refine r_aload_n (pc' := 1) d68_0 rfl rfl rfl ?_
  refine r_iload_n (pc' := 2) d68_1 rfl rfl rfl ?_
  refine r_call (pc' := 5) [vR (some b), vI _] [] d68_2 rfl o68 st10_72_10 (rcv1 (shY hb) (plo hN (by omega))) rfl (by decide) ⟨rfl, rfl⟩ (Nat.le_of_ble_eq_true rfl) rfl (y_lyingIn hN hC hb hc (fun hz => ?_) (fun i hi0 hi1 hi2 => ?_))
  · refine r_astore_nN (pc' := 6) (ls' := [(3, vR none), (0, vR (some b)), (1, vR (some (b + 8 + j))), (2, vI _)]) d68_5 rfl rfl (by decide) rfl ?_
    refine r_aload_nN (pc' := 7) d68_6 rfl rfl rfl ?_
    refine r_nulN 15 (pc' := 10) d68_7 rfl rfl ?_
    refine r_iconst (v := 1) (pc' := 16) d68_15 rfl (by decide) ?_
    refine r_goto 20 d68_16 rfl ?_
    exact r_iretZ1 d68_20 rfl (qv (b1 (fun z => Or.inl (hz z))) k)
  · refine r_astore_n (pc' := 6) (ls' := [(3, vR (some (b + 8 + i))), (0, vR (some b)), (1, vR (some (b + 8 + j))), (2, vI _)]) d68_5 rfl rfl (by decide) rfl ?_
    refine r_aload_n (pc' := 7) d68_6 rfl rfl rfl ?_
    refine r_nulS 15 (pc' := 10) d68_7 rfl rfl ?_
    refine r_aload_n (pc' := 11) d68_10 rfl rfl rfl ?_
    refine r_aload_n (pc' := 12) d68_11 rfl rfl rfl ?_
    refine r_acmpne 19 (pc' := 15) d68_12 rfl rfl (fun x w => by cases w; exact plo hN (by omega)) (fun x w => by cases w; exact plo hN (by omega)) (fun c12 => ?_) (fun c12 => ?_)
    · refine r_iconst (v := 0) (pc' := 20) d68_19 rfl (by decide) ?_
      exact r_iretZ0 d68_20 rfl (qv (b0 (fun z => (z hi1).elim (fun y => by rw [hi2] at y; cases y) (fun y => c12 (by rw [hi2] at y; cases y; rfl)))) k)
    · refine r_iconst (v := 1) (pc' := 16) d68_15 rfl (by decide) ?_
      refine r_goto 20 d68_16 rfl ?_
      exact r_iretZ1 d68_20 rfl (qv (b1 (fun _ => Or.inr (by rw [hi2, show i = j by have z := Option.some.inj c12; omega]))) k)
