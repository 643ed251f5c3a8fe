/-! the reference reads a tape: grate, coals, things, eaters (printed by wip/whole/m68.py) -/
theorem PH_59 {h : Hp} {n : Nat} {s : Nat → Int32} {σ : Nat × Nat} {v : Int32} : hi (PH h n s σ v) 59 = s := RH_59
theorem PH_r {h : Hp} {n j : Nat} {s : Nat → Int32} {σ : Nat × Nat} {v x : Int32} : seti (PH h n s σ v) 59 j x = PH h n (upd s j x) σ v := RH_r
def pG (T : Nat → Int32) (n : Nat) (σ : Nat × Nat) : Nat × Nat := pS T n 59 (pN T n 0 9 (pS T n 44 (pN T n 1 30 (pS T n 103 σ))))
def pGs (T : Nat → Int32) (n : Nat) (σ : Nat × Nat) (s : Nat → Int32) : Nat → Int32 := upd (upd s 3 (zV T n (pS T n 103 σ).1)) 4 (zV T n (pS T n 44 (pN T n 1 30 (pS T n 103 σ))).1)
def pL (b : Bool) (σ : Nat × Nat) : Nat × Nat := if b then (σ.1 + 1, 0) else (σ.1, 3)
theorem pL_ok {b : Bool} {T : Nat → Int32} {n : Nat} {c : Int32} {σ : Nat × Nat} (hz : zB T n σ.1 = c) (hc : 0 ≤ c) : okS n (pL b σ) := by
  have := zB_lt hz hc
  unfold pL; split
  · exact ⟨by show σ.1 + 1 ≤ n; omega, by show 0 ≤ 3; omega⟩
  · exact ⟨by show σ.1 ≤ n; omega, by show 3 ≤ 3; omega⟩
theorem pL_1 {T : Nat → Int32} {n : Nat} {c : Int32} {σ : Nat × Nat} (hc : 97 ≤ c ∧ c ≤ 122) (hG : σ.2 = 0) (hz : zB T n σ.1 = c) : pA T n (pM 1 3 σ) = pL true σ := by
  rw [pAM1 (k := 3) (let_f hc) (let_0 hc) (fun _ => hz)]
  unfold pS pL
  rw [if_pos hG, if_pos hz]; rfl
theorem pL_0 {T : Nat → Int32} {n : Nat} {σ : Nat × Nat} (hG : σ.2 = 0) : pA T n (pM 0 3 σ) = pL false σ := by
  unfold pM pA pL
  dsimp only
  rw [if_pos (c := σ.2 = 0 ∧ (0 : Int32) = 0) ⟨hG, rfl⟩, if_neg (by decide)]; rfl
def pC (T : Nat → Int32) (n L : Nat) (σ : Nat × Nat) : Nat × Nat := pS T n 59 (pN T n 1 30 (pS T n 44 (pN T n 0 11 (pL (decide (L < 8)) σ))))
def pCs (T : Nat → Int32) (n L : Nat) (σ : Nat × Nat) (s : Nat → Int32) : Nat → Int32 := if (pC T n L σ).2 = 0 then upd (upd (upd s (21 + L) (zV T n (pL (decide (L < 8)) σ).1)) (29 + L) (zV T n (pS T n 44 (pN T n 0 11 (pL (decide (L < 8)) σ))).1)) 20 (nI (L + 1)) else s
theorem pC_lt {T : Nat → Int32} {n L : Nat} {σ : Nat × Nat} (h : (pC T n L σ).2 = 0) : L < 8 := by
  have z := pN_G (pS_G (pN_G (pS_G h)))
  unfold pL at z
  by_cases y : L < 8
  · exact y
  · rw [decide_eq_false y] at z; exact absurd (show (3 : Nat) = 0 from z) (by decide)
theorem s_readGrate {d : Nat} {h : Hp} {Q : Option AV → Hp → Prop} {n : Nat} {s : Nat → Int32} {σ : Nat × Nat} {v : Int32} (hN : hn h = 65) (hM : RM h) (hn0 : hi h 50 10 = nI n) (hn1 : n ≤ 160) (hT : tOK (hi h 58) n) (hσ : okS n σ) (hv : vok (hi h 58) n σ v) (kk : ∀ v9 s9, vok (hi h 58) n (pG (hi h 58) n σ) v9 → ((pG (hi h 58) n σ).2 = 0 → s9 = pGs (hi h 58) n σ s) → Q none (PH h n s9 (pG (hi h 58) n σ) v9)) : Spec (d + 4) 166 [vR (some 50)] (PH h n s σ v) Q := by
  refine spec_intro (by decide +kernel) rfl (Nat.le_of_ble_eq_true rfl) ?_
  refine r_aload_n (pc' := 1) d166_0 rfl rfl rfl ?_
  refine r_aload_n (pc' := 2) d166_1 rfl rfl rfl ?_
  refine r_getI (pc' := 5) d166_2 rfl o166 sf12_91_12 sh50 (pl hN rfl) ?_
  refine wp_v RH_g13 ?_
  refine r_iconst (v := 1) (pc' := 6) d166_5 rfl (by decide) ?_
  refine r_icmp_ne 22 (pc' := 9) d166_6 rfl rfl (fun c6 => ?_) (fun c6 => ?_)
  · refine r_iconst (v := 0) (pc' := 23) d166_22 rfl (by decide) ?_
    refine r_iconst (v := 1) (pc' := 24) d166_23 rfl (by decide) ?_
    refine r_call (pc' := 27) [vR (some 50), vI _, vI _] [] d166_24 rfl o166 st12_103_12 (rcv1 sh50 (pl hN rfl)) rfl (by decide) ⟨rfl, rfl⟩ (Nat.le_of_ble_eq_true rfl) rfl (s_mustP (n := n) (σ := σ) (num := 1) hN hσ.2 ?_)
    refine r_aload_n (pc' := 28) d166_27 rfl rfl rfl ?_
    refine r_call (pc' := 31) [vR (some 50)] [] d166_28 rfl o166 st12_107_12 (rcv1 sh50 (pl hN rfl)) rfl (by decide) ⟨rfl, rfl⟩ (Nat.le_of_ble_eq_true rfl) rfl (s_goesOn hN hM hn0 hn1 hT (okM hσ) (vokM hv) (fun v9 hv9 => ?_))
    have e : pA (hi h 58) n _ = pS (hi h 58) n 103 σ := pAM0 (fun hG z => c6 ((tok_to (c := 103) (by decide) (by decide) hv hG z).1.trans (by decide)))
    rw [e] at hv9 ⊢
    have ok1 : okS n (pS (hi h 58) n 103 σ) := pS_ok hσ (by decide)
    have ok2 := pN_ok (T := hi h 58) (lo := 1) (hi := 30) ok1
    have ok3 := pS_ok (T := hi h 58) (c := 44) ok2 (by decide)
    have ok4 := pN_ok (T := hi h 58) (lo := 0) (hi := 9) ok3
    refine r_aload_n (pc' := 32) d166_31 rfl rfl rfl ?_
    refine r_getS (pc' := 35) d166_32 rfl o166 sf12_35_12 sh50 (pl hN rfl) (rfm17 hM) ?_
    refine r_iconst (v := 3) (pc' := 36) d166_35 rfl (by decide) ?_
    refine r_aload_n (pc' := 37) d166_36 rfl rfl rfl ?_
    refine r_iconst (v := 1) (pc' := 38) d166_37 rfl (by decide) ?_
    refine r_bipush (v := 30) (pc' := 40) d166_38 rfl (by decide) ?_
    refine r_call (pc' := 43) [vR (some 50), vI _, vI _] [vI _, vR (some 59)] d166_40 rfl o166 st12_113_12 (rcv1 sh50 (pl hN rfl)) rfl (by decide) ⟨rfl, rfl⟩ (Nat.le_of_ble_eq_true rfl) rfl (s_readNumber hN hM hn0 hn1 hT ok1 hv9 (fun v9 r1 hv9 hr1 => ?_))
    refine r_iastN (pc' := 44) (j := 3) d166_43 rfl sh59 (pl hN rfl) rfl (by omega) (by decide) ?_
    rw [PH_r]
    refine r_aload_n (pc' := 45) d166_44 rfl rfl rfl ?_
    refine r_bipush (v := 44) (pc' := 47) d166_45 rfl (by decide) ?_
    refine r_call (pc' := 50) [vR (some 50), vI _] [] d166_47 rfl o166 st12_117_12 (rcv1 sh50 (pl hN rfl)) rfl (by decide) ⟨rfl, rfl⟩ (Nat.le_of_ble_eq_true rfl) rfl (s_readSign hN hM hn0 hn1 hT ok2 hv9 (Or.inl rfl) (fun v9 hv9 => ?_))
    refine r_aload_n (pc' := 51) d166_50 rfl rfl rfl ?_
    refine r_getS (pc' := 54) d166_51 rfl o166 sf12_35_12 sh50 (pl hN rfl) (rfm17 hM) ?_
    refine r_iconst (v := 4) (pc' := 55) d166_54 rfl (by decide) ?_
    refine r_aload_n (pc' := 56) d166_55 rfl rfl rfl ?_
    refine r_iconst (v := 0) (pc' := 57) d166_56 rfl (by decide) ?_
    refine r_bipush (v := 9) (pc' := 59) d166_57 rfl (by decide) ?_
    refine r_call (pc' := 62) [vR (some 50), vI _, vI _] [vI _, vR (some 59)] d166_59 rfl o166 st12_113_12 (rcv1 sh50 (pl hN rfl)) rfl (by decide) ⟨rfl, rfl⟩ (Nat.le_of_ble_eq_true rfl) rfl (s_readNumber hN hM hn0 hn1 hT ok3 hv9 (fun v9 r2 hv9 hr2 => ?_))
    refine r_iastN (pc' := 63) (j := 4) d166_62 rfl sh59 (pl hN rfl) rfl (by omega) (by decide) ?_
    rw [PH_r]
    refine r_aload_n (pc' := 64) d166_63 rfl rfl rfl ?_
    refine r_bipush (v := 59) (pc' := 66) d166_64 rfl (by decide) ?_
    refine r_call (pc' := 69) [vR (some 50), vI _] [] d166_66 rfl o166 st12_117_12 (rcv1 sh50 (pl hN rfl)) rfl (by decide) ⟨rfl, rfl⟩ (Nat.le_of_ble_eq_true rfl) rfl (s_readSign hN hM hn0 hn1 hT ok4 hv9 (Or.inr rfl) (fun v9 hv9 => ?_))
    exact r_ret d166_69 rfl (kk v9 _ hv9 (fun z => by unfold pGs; rw [hr1 (pS_G (pN_G (pS_G z))), hr2 (pS_G z)]))
  · refine r_aload_n (pc' := 10) d166_9 rfl rfl rfl ?_
    refine r_getI (pc' := 13) d166_10 rfl o166 sf12_94_12 sh50 (pl hN rfl) ?_
    refine wp_v RH_g14 ?_
    refine r_bipush (v := 103) (pc' := 15) d166_13 rfl (by decide) ?_
    refine r_icmp_ne 22 (pc' := 18) d166_15 rfl rfl (fun c15 => ?_) (fun c15 => ?_)
    · refine r_iconst (v := 0) (pc' := 23) d166_22 rfl (by decide) ?_
      refine r_iconst (v := 1) (pc' := 24) d166_23 rfl (by decide) ?_
      refine r_call (pc' := 27) [vR (some 50), vI _, vI _] [] d166_24 rfl o166 st12_103_12 (rcv1 sh50 (pl hN rfl)) rfl (by decide) ⟨rfl, rfl⟩ (Nat.le_of_ble_eq_true rfl) rfl (s_mustP (n := n) (σ := σ) (num := 1) hN hσ.2 ?_)
      refine r_aload_n (pc' := 28) d166_27 rfl rfl rfl ?_
      refine r_call (pc' := 31) [vR (some 50)] [] d166_28 rfl o166 st12_107_12 (rcv1 sh50 (pl hN rfl)) rfl (by decide) ⟨rfl, rfl⟩ (Nat.le_of_ble_eq_true rfl) rfl (s_goesOn hN hM hn0 hn1 hT (okM hσ) (vokM hv) (fun v9 hv9 => ?_))
      have e : pA (hi h 58) n _ = pS (hi h 58) n 103 σ := pAM0 (fun hG z => c15 (tok_to (c := 103) (by decide) (by decide) hv hG z).2)
      rw [e] at hv9 ⊢
      have ok1 : okS n (pS (hi h 58) n 103 σ) := pS_ok hσ (by decide)
      have ok2 := pN_ok (T := hi h 58) (lo := 1) (hi := 30) ok1
      have ok3 := pS_ok (T := hi h 58) (c := 44) ok2 (by decide)
      have ok4 := pN_ok (T := hi h 58) (lo := 0) (hi := 9) ok3
      refine r_aload_n (pc' := 32) d166_31 rfl rfl rfl ?_
      refine r_getS (pc' := 35) d166_32 rfl o166 sf12_35_12 sh50 (pl hN rfl) (rfm17 hM) ?_
      refine r_iconst (v := 3) (pc' := 36) d166_35 rfl (by decide) ?_
      refine r_aload_n (pc' := 37) d166_36 rfl rfl rfl ?_
      refine r_iconst (v := 1) (pc' := 38) d166_37 rfl (by decide) ?_
      refine r_bipush (v := 30) (pc' := 40) d166_38 rfl (by decide) ?_
      refine r_call (pc' := 43) [vR (some 50), vI _, vI _] [vI _, vR (some 59)] d166_40 rfl o166 st12_113_12 (rcv1 sh50 (pl hN rfl)) rfl (by decide) ⟨rfl, rfl⟩ (Nat.le_of_ble_eq_true rfl) rfl (s_readNumber hN hM hn0 hn1 hT ok1 hv9 (fun v9 r1 hv9 hr1 => ?_))
      refine r_iastN (pc' := 44) (j := 3) d166_43 rfl sh59 (pl hN rfl) rfl (by omega) (by decide) ?_
      rw [PH_r]
      refine r_aload_n (pc' := 45) d166_44 rfl rfl rfl ?_
      refine r_bipush (v := 44) (pc' := 47) d166_45 rfl (by decide) ?_
      refine r_call (pc' := 50) [vR (some 50), vI _] [] d166_47 rfl o166 st12_117_12 (rcv1 sh50 (pl hN rfl)) rfl (by decide) ⟨rfl, rfl⟩ (Nat.le_of_ble_eq_true rfl) rfl (s_readSign hN hM hn0 hn1 hT ok2 hv9 (Or.inl rfl) (fun v9 hv9 => ?_))
      refine r_aload_n (pc' := 51) d166_50 rfl rfl rfl ?_
      refine r_getS (pc' := 54) d166_51 rfl o166 sf12_35_12 sh50 (pl hN rfl) (rfm17 hM) ?_
      refine r_iconst (v := 4) (pc' := 55) d166_54 rfl (by decide) ?_
      refine r_aload_n (pc' := 56) d166_55 rfl rfl rfl ?_
      refine r_iconst (v := 0) (pc' := 57) d166_56 rfl (by decide) ?_
      refine r_bipush (v := 9) (pc' := 59) d166_57 rfl (by decide) ?_
      refine r_call (pc' := 62) [vR (some 50), vI _, vI _] [vI _, vR (some 59)] d166_59 rfl o166 st12_113_12 (rcv1 sh50 (pl hN rfl)) rfl (by decide) ⟨rfl, rfl⟩ (Nat.le_of_ble_eq_true rfl) rfl (s_readNumber hN hM hn0 hn1 hT ok3 hv9 (fun v9 r2 hv9 hr2 => ?_))
      refine r_iastN (pc' := 63) (j := 4) d166_62 rfl sh59 (pl hN rfl) rfl (by omega) (by decide) ?_
      rw [PH_r]
      refine r_aload_n (pc' := 64) d166_63 rfl rfl rfl ?_
      refine r_bipush (v := 59) (pc' := 66) d166_64 rfl (by decide) ?_
      refine r_call (pc' := 69) [vR (some 50), vI _] [] d166_66 rfl o166 st12_117_12 (rcv1 sh50 (pl hN rfl)) rfl (by decide) ⟨rfl, rfl⟩ (Nat.le_of_ble_eq_true rfl) rfl (s_readSign hN hM hn0 hn1 hT ok4 hv9 (Or.inr rfl) (fun v9 hv9 => ?_))
      exact r_ret d166_69 rfl (kk v9 _ hv9 (fun z => by unfold pGs; rw [hr1 (pS_G (pN_G (pS_G z))), hr2 (pS_G z)]))
    · refine r_iconst (v := 1) (pc' := 19) d166_18 rfl (by decide) ?_
      refine r_goto 23 d166_19 rfl ?_
      refine r_iconst (v := 1) (pc' := 24) d166_23 rfl (by decide) ?_
      refine r_call (pc' := 27) [vR (some 50), vI _, vI _] [] d166_24 rfl o166 st12_103_12 (rcv1 sh50 (pl hN rfl)) rfl (by decide) ⟨rfl, rfl⟩ (Nat.le_of_ble_eq_true rfl) rfl (s_mustP (n := n) (σ := σ) (num := 1) hN hσ.2 ?_)
      refine r_aload_n (pc' := 28) d166_27 rfl rfl rfl ?_
      refine r_call (pc' := 31) [vR (some 50)] [] d166_28 rfl o166 st12_107_12 (rcv1 sh50 (pl hN rfl)) rfl (by decide) ⟨rfl, rfl⟩ (Nat.le_of_ble_eq_true rfl) rfl (s_goesOn hN hM hn0 hn1 hT (okM hσ) (vokM hv) (fun v9 hv9 => ?_))
      have e : pA (hi h 58) n _ = pS (hi h 58) n 103 σ := pAM1 (k := 1) (c := 103) (by decide) (by decide) (fun hG => tok_of (Or.inl rfl) hv c6 c15 hG)
      rw [e] at hv9 ⊢
      have ok1 : okS n (pS (hi h 58) n 103 σ) := pS_ok hσ (by decide)
      have ok2 := pN_ok (T := hi h 58) (lo := 1) (hi := 30) ok1
      have ok3 := pS_ok (T := hi h 58) (c := 44) ok2 (by decide)
      have ok4 := pN_ok (T := hi h 58) (lo := 0) (hi := 9) ok3
      refine r_aload_n (pc' := 32) d166_31 rfl rfl rfl ?_
      refine r_getS (pc' := 35) d166_32 rfl o166 sf12_35_12 sh50 (pl hN rfl) (rfm17 hM) ?_
      refine r_iconst (v := 3) (pc' := 36) d166_35 rfl (by decide) ?_
      refine r_aload_n (pc' := 37) d166_36 rfl rfl rfl ?_
      refine r_iconst (v := 1) (pc' := 38) d166_37 rfl (by decide) ?_
      refine r_bipush (v := 30) (pc' := 40) d166_38 rfl (by decide) ?_
      refine r_call (pc' := 43) [vR (some 50), vI _, vI _] [vI _, vR (some 59)] d166_40 rfl o166 st12_113_12 (rcv1 sh50 (pl hN rfl)) rfl (by decide) ⟨rfl, rfl⟩ (Nat.le_of_ble_eq_true rfl) rfl (s_readNumber hN hM hn0 hn1 hT ok1 hv9 (fun v9 r1 hv9 hr1 => ?_))
      refine r_iastN (pc' := 44) (j := 3) d166_43 rfl sh59 (pl hN rfl) rfl (by omega) (by decide) ?_
      rw [PH_r]
      refine r_aload_n (pc' := 45) d166_44 rfl rfl rfl ?_
      refine r_bipush (v := 44) (pc' := 47) d166_45 rfl (by decide) ?_
      refine r_call (pc' := 50) [vR (some 50), vI _] [] d166_47 rfl o166 st12_117_12 (rcv1 sh50 (pl hN rfl)) rfl (by decide) ⟨rfl, rfl⟩ (Nat.le_of_ble_eq_true rfl) rfl (s_readSign hN hM hn0 hn1 hT ok2 hv9 (Or.inl rfl) (fun v9 hv9 => ?_))
      refine r_aload_n (pc' := 51) d166_50 rfl rfl rfl ?_
      refine r_getS (pc' := 54) d166_51 rfl o166 sf12_35_12 sh50 (pl hN rfl) (rfm17 hM) ?_
      refine r_iconst (v := 4) (pc' := 55) d166_54 rfl (by decide) ?_
      refine r_aload_n (pc' := 56) d166_55 rfl rfl rfl ?_
      refine r_iconst (v := 0) (pc' := 57) d166_56 rfl (by decide) ?_
      refine r_bipush (v := 9) (pc' := 59) d166_57 rfl (by decide) ?_
      refine r_call (pc' := 62) [vR (some 50), vI _, vI _] [vI _, vR (some 59)] d166_59 rfl o166 st12_113_12 (rcv1 sh50 (pl hN rfl)) rfl (by decide) ⟨rfl, rfl⟩ (Nat.le_of_ble_eq_true rfl) rfl (s_readNumber hN hM hn0 hn1 hT ok3 hv9 (fun v9 r2 hv9 hr2 => ?_))
      refine r_iastN (pc' := 63) (j := 4) d166_62 rfl sh59 (pl hN rfl) rfl (by omega) (by decide) ?_
      rw [PH_r]
      refine r_aload_n (pc' := 64) d166_63 rfl rfl rfl ?_
      refine r_bipush (v := 59) (pc' := 66) d166_64 rfl (by decide) ?_
      refine r_call (pc' := 69) [vR (some 50), vI _] [] d166_66 rfl o166 st12_117_12 (rcv1 sh50 (pl hN rfl)) rfl (by decide) ⟨rfl, rfl⟩ (Nat.le_of_ble_eq_true rfl) rfl (s_readSign hN hM hn0 hn1 hT ok4 hv9 (Or.inr rfl) (fun v9 hv9 => ?_))
      exact r_ret d166_69 rfl (kk v9 _ hv9 (fun z => by unfold pGs; rw [hr1 (pS_G (pN_G (pS_G z))), hr2 (pS_G z)]))
theorem s_readCoal {d : Nat} {h : Hp} {Q : Option AV → Hp → Prop} {n : Nat} {s : Nat → Int32} {σ : Nat × Nat} {v : Int32} {L : Nat} (hN : hn h = 65) (hM : RM h) (hn0 : hi h 50 10 = nI n) (hn1 : n ≤ 160) (hT : tOK (hi h 58) n) (hσ : okS n σ) (hv : vok (hi h 58) n σ v) (hG : σ.2 = 0) (hz : zB (hi h 58) n σ.1 = 99) (hL : s 20 = nI L) (hL8 : L ≤ 8) (kk : ∀ v9 s9, vok (hi h 58) n (pC (hi h 58) n L σ) v9 → s9 = pCs (hi h 58) n L σ s → Q none (PH h n s9 (pC (hi h 58) n L σ) v9)) : Spec (d + 4) 167 [vR (some 50)] (PH h n s σ v) Q := by
  refine spec_intro (by decide +kernel) rfl (Nat.le_of_ble_eq_true rfl) ?_
  refine r_aload_n (pc' := 1) d167_0 rfl rfl rfl ?_
  refine r_aload_n (pc' := 2) d167_1 rfl rfl rfl ?_
  refine r_getS (pc' := 5) d167_2 rfl o167 sf12_35_12 sh50 (pl hN rfl) (rfm17 hM) ?_
  refine r_bipush (v := 20) (pc' := 7) d167_5 rfl (by decide) ?_
  refine r_ialdN (pc' := 8) (j := 20) d167_7 rfl sh59 (pl hN rfl) rfl (by omega) (by decide) ?_
  refine wp_v ((congrFun PH_59 20).trans hL) ?_
  refine r_bipush (v := 8) (pc' := 10) d167_8 rfl (by decide) ?_
  refine r_icmp_ge 17 (pc' := 13) d167_10 rfl rfl (fun c10 => ?_) (fun c10 => ?_)
  · refine r_iconst (v := 0) (pc' := 18) d167_17 rfl (by decide) ?_
    refine r_iconst (v := 3) (pc' := 19) d167_18 rfl (by decide) ?_
    refine r_call (pc' := 22) [vR (some 50), vI _, vI _] [] d167_19 rfl o167 st12_103_12 (rcv1 sh50 (pl hN rfl)) rfl (by decide) ⟨rfl, rfl⟩ (Nat.le_of_ble_eq_true rfl) rfl (s_mustP (n := n) (σ := σ) (num := 3) hN hσ.2 ?_)
    refine r_aload_n (pc' := 23) d167_22 rfl rfl rfl ?_
    refine r_call (pc' := 26) [vR (some 50)] [] d167_23 rfl o167 st12_107_12 (rcv1 sh50 (pl hN rfl)) rfl (by decide) ⟨rfl, rfl⟩ (Nat.le_of_ble_eq_true rfl) rfl (s_goesOn hN hM hn0 hn1 hT (okM hσ) (vokM hv) (fun v9 hv9 => ?_))
    have e : pA (hi h 58) n (pM 0 3 σ) = pL (decide (L < 8)) σ := by rw [decide_eq_false (fun z => absurd c10 (nI_ge (a := L) (b := 8) z (by decide)))]; exact pL_0 hG
    rw [e] at hv9 ⊢
    have ok1 : okS n (pL (decide (L < 8)) σ) := pL_ok hz (by decide)
    have ok2 := pN_ok (T := hi h 58) (lo := 0) (hi := 11) ok1
    have ok3 := pS_ok (T := hi h 58) (c := 44) ok2 (by decide)
    have ok4 := pN_ok (T := hi h 58) (lo := 1) (hi := 30) ok3
    have ok5 := pS_ok (T := hi h 58) (c := 59) ok4 (by decide)
    refine r_aload_n (pc' := 27) d167_26 rfl rfl rfl ?_
    refine r_iconst (v := 0) (pc' := 28) d167_27 rfl (by decide) ?_
    refine r_bipush (v := 11) (pc' := 30) d167_28 rfl (by decide) ?_
    refine r_call (pc' := 33) [vR (some 50), vI _, vI _] [] d167_30 rfl o167 st12_113_12 (rcv1 sh50 (pl hN rfl)) rfl (by decide) ⟨rfl, rfl⟩ (Nat.le_of_ble_eq_true rfl) rfl (s_readNumber hN hM hn0 hn1 hT ok1 hv9 (fun v9 r1 hv9 hr1 => ?_))
    refine r_istore_n (pc' := 34) (ls' := [(1, vI _), (0, vR (some 50))]) d167_33 rfl rfl (by decide) rfl ?_
    refine r_aload_n (pc' := 35) d167_34 rfl rfl rfl ?_
    refine r_bipush (v := 44) (pc' := 37) d167_35 rfl (by decide) ?_
    refine r_call (pc' := 40) [vR (some 50), vI _] [] d167_37 rfl o167 st12_117_12 (rcv1 sh50 (pl hN rfl)) rfl (by decide) ⟨rfl, rfl⟩ (Nat.le_of_ble_eq_true rfl) rfl (s_readSign hN hM hn0 hn1 hT ok2 hv9 (Or.inl rfl) (fun v9 hv9 => ?_))
    refine r_aload_n (pc' := 41) d167_40 rfl rfl rfl ?_
    refine r_iconst (v := 1) (pc' := 42) d167_41 rfl (by decide) ?_
    refine r_bipush (v := 30) (pc' := 44) d167_42 rfl (by decide) ?_
    refine r_call (pc' := 47) [vR (some 50), vI _, vI _] [] d167_44 rfl o167 st12_113_12 (rcv1 sh50 (pl hN rfl)) rfl (by decide) ⟨rfl, rfl⟩ (Nat.le_of_ble_eq_true rfl) rfl (s_readNumber hN hM hn0 hn1 hT ok3 hv9 (fun v9 r2 hv9 hr2 => ?_))
    refine r_istore_n (pc' := 48) (ls' := [(2, vI _), (1, vI _), (0, vR (some 50))]) d167_47 rfl rfl (by decide) rfl ?_
    refine r_aload_n (pc' := 49) d167_48 rfl rfl rfl ?_
    refine r_bipush (v := 59) (pc' := 51) d167_49 rfl (by decide) ?_
    refine r_call (pc' := 54) [vR (some 50), vI _] [] d167_51 rfl o167 st12_117_12 (rcv1 sh50 (pl hN rfl)) rfl (by decide) ⟨rfl, rfl⟩ (Nat.le_of_ble_eq_true rfl) rfl (s_readSign hN hM hn0 hn1 hT ok4 hv9 (Or.inr rfl) (fun v9 hv9 => ?_))
    refine r_aload_n (pc' := 55) d167_54 rfl rfl rfl ?_
    refine r_getI (pc' := 58) d167_55 rfl o167 sf12_97_12 sh50 (pl hN rfl) ?_
    refine wp_v RH_g15 ?_
    refine r_if_ne 104 (pc' := 61) d167_58 rfl rfl (fun c58 => ?_) (fun c58 => ?_)
    · exact r_ret d167_104 rfl (kk v9 s hv9 (by unfold pCs; rw [if_neg (fun z => c58 (by show nI (pC (hi h 58) n L σ).2 = 0; rw [z]; rfl))]))
    · have hG5 : (pC (hi h 58) n L σ).2 = 0 := (nI_z ok5.2).mp c58
      have hL8 := pC_lt hG5
      refine r_aload_n (pc' := 62) d167_61 rfl rfl rfl ?_
      refine r_getS (pc' := 65) d167_62 rfl o167 sf12_35_12 sh50 (pl hN rfl) (rfm17 hM) ?_
      refine r_bipush (v := 21) (pc' := 67) d167_65 rfl (by decide) ?_
      refine r_aload_n (pc' := 68) d167_67 rfl rfl rfl ?_
      refine r_getS (pc' := 71) d167_68 rfl o167 sf12_35_12 sh50 (pl hN rfl) (rfm17 hM) ?_
      refine r_bipush (v := 20) (pc' := 73) d167_71 rfl (by decide) ?_
      refine r_ialdN (pc' := 74) (j := 20) d167_73 rfl sh59 (pl hN rfl) rfl (by omega) (by decide) ?_
      refine wp_v ((congrFun PH_59 20).trans hL) ?_
      refine r_iadd (pc' := 75) d167_74 rfl ?_
      refine r_iload_n (pc' := 76) d167_75 rfl rfl rfl ?_
      refine r_iastN (pc' := 77) (j := (21 + L)) d167_76 rfl sh59 (pl hN rfl) (by simp only [lit, nI_add, pk_mul]) (by omega) (by decide) ?_
      rw [PH_r]
      refine r_aload_n (pc' := 78) d167_77 rfl rfl rfl ?_
      refine r_getS (pc' := 81) d167_78 rfl o167 sf12_35_12 sh50 (pl hN rfl) (rfm17 hM) ?_
      refine r_bipush (v := 29) (pc' := 83) d167_81 rfl (by decide) ?_
      refine r_aload_n (pc' := 84) d167_83 rfl rfl rfl ?_
      refine r_getS (pc' := 87) d167_84 rfl o167 sf12_35_12 sh50 (pl hN rfl) (rfm17 hM) ?_
      refine r_bipush (v := 20) (pc' := 89) d167_87 rfl (by decide) ?_
      refine r_ialdN (pc' := 90) (j := 20) d167_89 rfl sh59 (pl hN rfl) rfl (by omega) (by decide) ?_
      refine wp_v ((congrFun PH_59 20).trans ((upd_ne _ _ _ (by omega)).trans hL)) ?_
      refine r_iadd (pc' := 91) d167_90 rfl ?_
      refine r_iload_n (pc' := 92) d167_91 rfl rfl rfl ?_
      refine r_iastN (pc' := 93) (j := (29 + L)) d167_92 rfl sh59 (pl hN rfl) (by simp only [lit, nI_add, pk_mul]) (by omega) (by decide) ?_
      rw [PH_r]
      refine r_aload_n (pc' := 94) d167_93 rfl rfl rfl ?_
      refine r_getS (pc' := 97) d167_94 rfl o167 sf12_35_12 sh50 (pl hN rfl) (rfm17 hM) ?_
      refine r_bipush (v := 20) (pc' := 99) d167_97 rfl (by decide) ?_
      refine r_dup2 (pc' := 100) d167_99 rfl ?_
      refine r_ialdN (pc' := 101) (j := 20) d167_100 rfl sh59 (pl hN rfl) rfl (by omega) (by decide) ?_
      refine wp_v ((congrFun PH_59 20).trans ((upd_ne _ _ _ (by omega)).trans ((upd_ne _ _ _ (by omega)).trans hL))) ?_
      refine r_iconst (v := 1) (pc' := 102) d167_101 rfl (by decide) ?_
      refine r_iadd (pc' := 103) d167_102 rfl ?_
      refine r_iastN (pc' := 104) (j := 20) d167_103 rfl sh59 (pl hN rfl) rfl (by omega) (by decide) ?_
      exact r_ret d167_104 rfl (qh PH_r.symm (kk v9 _ hv9 (by unfold pCs; rw [if_pos hG5, hr1 (pS_G (pN_G (pS_G hG5))), hr2 (pS_G hG5), ← nI_1])))
  · refine r_iconst (v := 1) (pc' := 14) d167_13 rfl (by decide) ?_
    refine r_goto 18 d167_14 rfl ?_
    refine r_iconst (v := 3) (pc' := 19) d167_18 rfl (by decide) ?_
    refine r_call (pc' := 22) [vR (some 50), vI _, vI _] [] d167_19 rfl o167 st12_103_12 (rcv1 sh50 (pl hN rfl)) rfl (by decide) ⟨rfl, rfl⟩ (Nat.le_of_ble_eq_true rfl) rfl (s_mustP (n := n) (σ := σ) (num := 3) hN hσ.2 ?_)
    refine r_aload_n (pc' := 23) d167_22 rfl rfl rfl ?_
    refine r_call (pc' := 26) [vR (some 50)] [] d167_23 rfl o167 st12_107_12 (rcv1 sh50 (pl hN rfl)) rfl (by decide) ⟨rfl, rfl⟩ (Nat.le_of_ble_eq_true rfl) rfl (s_goesOn hN hM hn0 hn1 hT (okM hσ) (vokM hv) (fun v9 hv9 => ?_))
    have e : pA (hi h 58) n (pM 1 3 σ) = pL (decide (L < 8)) σ := by rw [decide_eq_true (Nat.lt_of_not_le (fun z => c10 (nI_le (a := 8) (b := L) z (by omega))))]; exact pL_1 (c := 99) (by decide) hG hz
    rw [e] at hv9 ⊢
    have ok1 : okS n (pL (decide (L < 8)) σ) := pL_ok hz (by decide)
    have ok2 := pN_ok (T := hi h 58) (lo := 0) (hi := 11) ok1
    have ok3 := pS_ok (T := hi h 58) (c := 44) ok2 (by decide)
    have ok4 := pN_ok (T := hi h 58) (lo := 1) (hi := 30) ok3
    have ok5 := pS_ok (T := hi h 58) (c := 59) ok4 (by decide)
    refine r_aload_n (pc' := 27) d167_26 rfl rfl rfl ?_
    refine r_iconst (v := 0) (pc' := 28) d167_27 rfl (by decide) ?_
    refine r_bipush (v := 11) (pc' := 30) d167_28 rfl (by decide) ?_
    refine r_call (pc' := 33) [vR (some 50), vI _, vI _] [] d167_30 rfl o167 st12_113_12 (rcv1 sh50 (pl hN rfl)) rfl (by decide) ⟨rfl, rfl⟩ (Nat.le_of_ble_eq_true rfl) rfl (s_readNumber hN hM hn0 hn1 hT ok1 hv9 (fun v9 r1 hv9 hr1 => ?_))
    refine r_istore_n (pc' := 34) (ls' := [(1, vI _), (0, vR (some 50))]) d167_33 rfl rfl (by decide) rfl ?_
    refine r_aload_n (pc' := 35) d167_34 rfl rfl rfl ?_
    refine r_bipush (v := 44) (pc' := 37) d167_35 rfl (by decide) ?_
    refine r_call (pc' := 40) [vR (some 50), vI _] [] d167_37 rfl o167 st12_117_12 (rcv1 sh50 (pl hN rfl)) rfl (by decide) ⟨rfl, rfl⟩ (Nat.le_of_ble_eq_true rfl) rfl (s_readSign hN hM hn0 hn1 hT ok2 hv9 (Or.inl rfl) (fun v9 hv9 => ?_))
    refine r_aload_n (pc' := 41) d167_40 rfl rfl rfl ?_
    refine r_iconst (v := 1) (pc' := 42) d167_41 rfl (by decide) ?_
    refine r_bipush (v := 30) (pc' := 44) d167_42 rfl (by decide) ?_
    refine r_call (pc' := 47) [vR (some 50), vI _, vI _] [] d167_44 rfl o167 st12_113_12 (rcv1 sh50 (pl hN rfl)) rfl (by decide) ⟨rfl, rfl⟩ (Nat.le_of_ble_eq_true rfl) rfl (s_readNumber hN hM hn0 hn1 hT ok3 hv9 (fun v9 r2 hv9 hr2 => ?_))
    refine r_istore_n (pc' := 48) (ls' := [(2, vI _), (1, vI _), (0, vR (some 50))]) d167_47 rfl rfl (by decide) rfl ?_
    refine r_aload_n (pc' := 49) d167_48 rfl rfl rfl ?_
    refine r_bipush (v := 59) (pc' := 51) d167_49 rfl (by decide) ?_
    refine r_call (pc' := 54) [vR (some 50), vI _] [] d167_51 rfl o167 st12_117_12 (rcv1 sh50 (pl hN rfl)) rfl (by decide) ⟨rfl, rfl⟩ (Nat.le_of_ble_eq_true rfl) rfl (s_readSign hN hM hn0 hn1 hT ok4 hv9 (Or.inr rfl) (fun v9 hv9 => ?_))
    refine r_aload_n (pc' := 55) d167_54 rfl rfl rfl ?_
    refine r_getI (pc' := 58) d167_55 rfl o167 sf12_97_12 sh50 (pl hN rfl) ?_
    refine wp_v RH_g15 ?_
    refine r_if_ne 104 (pc' := 61) d167_58 rfl rfl (fun c58 => ?_) (fun c58 => ?_)
    · exact r_ret d167_104 rfl (kk v9 s hv9 (by unfold pCs; rw [if_neg (fun z => c58 (by show nI (pC (hi h 58) n L σ).2 = 0; rw [z]; rfl))]))
    · have hG5 : (pC (hi h 58) n L σ).2 = 0 := (nI_z ok5.2).mp c58
      have hL8 := pC_lt hG5
      refine r_aload_n (pc' := 62) d167_61 rfl rfl rfl ?_
      refine r_getS (pc' := 65) d167_62 rfl o167 sf12_35_12 sh50 (pl hN rfl) (rfm17 hM) ?_
      refine r_bipush (v := 21) (pc' := 67) d167_65 rfl (by decide) ?_
      refine r_aload_n (pc' := 68) d167_67 rfl rfl rfl ?_
      refine r_getS (pc' := 71) d167_68 rfl o167 sf12_35_12 sh50 (pl hN rfl) (rfm17 hM) ?_
      refine r_bipush (v := 20) (pc' := 73) d167_71 rfl (by decide) ?_
      refine r_ialdN (pc' := 74) (j := 20) d167_73 rfl sh59 (pl hN rfl) rfl (by omega) (by decide) ?_
      refine wp_v ((congrFun PH_59 20).trans hL) ?_
      refine r_iadd (pc' := 75) d167_74 rfl ?_
      refine r_iload_n (pc' := 76) d167_75 rfl rfl rfl ?_
      refine r_iastN (pc' := 77) (j := (21 + L)) d167_76 rfl sh59 (pl hN rfl) (by simp only [lit, nI_add, pk_mul]) (by omega) (by decide) ?_
      rw [PH_r]
      refine r_aload_n (pc' := 78) d167_77 rfl rfl rfl ?_
      refine r_getS (pc' := 81) d167_78 rfl o167 sf12_35_12 sh50 (pl hN rfl) (rfm17 hM) ?_
      refine r_bipush (v := 29) (pc' := 83) d167_81 rfl (by decide) ?_
      refine r_aload_n (pc' := 84) d167_83 rfl rfl rfl ?_
      refine r_getS (pc' := 87) d167_84 rfl o167 sf12_35_12 sh50 (pl hN rfl) (rfm17 hM) ?_
      refine r_bipush (v := 20) (pc' := 89) d167_87 rfl (by decide) ?_
      refine r_ialdN (pc' := 90) (j := 20) d167_89 rfl sh59 (pl hN rfl) rfl (by omega) (by decide) ?_
      refine wp_v ((congrFun PH_59 20).trans ((upd_ne _ _ _ (by omega)).trans hL)) ?_
      refine r_iadd (pc' := 91) d167_90 rfl ?_
      refine r_iload_n (pc' := 92) d167_91 rfl rfl rfl ?_
      refine r_iastN (pc' := 93) (j := (29 + L)) d167_92 rfl sh59 (pl hN rfl) (by simp only [lit, nI_add, pk_mul]) (by omega) (by decide) ?_
      rw [PH_r]
      refine r_aload_n (pc' := 94) d167_93 rfl rfl rfl ?_
      refine r_getS (pc' := 97) d167_94 rfl o167 sf12_35_12 sh50 (pl hN rfl) (rfm17 hM) ?_
      refine r_bipush (v := 20) (pc' := 99) d167_97 rfl (by decide) ?_
      refine r_dup2 (pc' := 100) d167_99 rfl ?_
      refine r_ialdN (pc' := 101) (j := 20) d167_100 rfl sh59 (pl hN rfl) rfl (by omega) (by decide) ?_
      refine wp_v ((congrFun PH_59 20).trans ((upd_ne _ _ _ (by omega)).trans ((upd_ne _ _ _ (by omega)).trans hL))) ?_
      refine r_iconst (v := 1) (pc' := 102) d167_101 rfl (by decide) ?_
      refine r_iadd (pc' := 103) d167_102 rfl ?_
      refine r_iastN (pc' := 104) (j := 20) d167_103 rfl sh59 (pl hN rfl) rfl (by omega) (by decide) ?_
      exact r_ret d167_104 rfl (qh PH_r.symm (kk v9 _ hv9 (by unfold pCs; rw [if_pos hG5, hr1 (pS_G (pN_G (pS_G hG5))), hr2 (pS_G hG5), ← nI_1])))
def tdL (s : Nat → Int32) (cell : Int32) : Nat → Bool
  | 0 => false
  | k + 1 => tdL s cell k || decide (s (45 + k) = cell)
abbrev tdI (s : Nat → Int32) (m : Nat) (cell : Int32) : Prop := tdL s cell m = true ∧ ¬ cell = 12
theorem s_isTold {d : Nat} {h : Hp} {Q : Option AV → Hp → Prop} {n : Nat} {s : Nat → Int32} {σ : Nat × Nat} {v : Int32} {m : Nat} {cell : Int32} (hN : hn h = 65) (hM : RM h) (hm : s 1 = nI m) (hm6 : m ≤ 6) (kk : Q (some (vI (bI (tdI s m cell)))) (PH h n s σ v)) : Spec d 168 [vR (some 50), vI cell] (PH h n s σ v) Q := by
  refine spec_intro (by decide +kernel) rfl (Nat.le_of_ble_eq_true rfl) ?_
  refine r_iconst (v := 0) (pc' := 1) d168_0 rfl (by decide) ?_
  refine r_istore_n (pc' := 2) (ls' := [(2, vI _), (0, vR (some 50)), (1, vI _)]) d168_1 rfl rfl (by decide) rfl ?_
  refine r_iconst (v := 0) (pc' := 3) d168_2 rfl (by decide) ?_
  refine r_istore_n (pc' := 4) (ls' := [(3, vI _), (2, vI _), (0, vR (some 50)), (1, vI _)]) d168_3 rfl rfl (by decide) rfl ?_
  refine wp_pick (ls' := [(0, vR (some 50)), (1, vI _), (2, vI _), (3, vI _)]) [2, 3, 1, 0] rfl ?_
  have loop : ∀ (r k : Nat), k + r = m → wp d 168 Q 0 0 4 [(0, vR (some 50)), (1, vI cell), (2, vI (bb (tdL s cell k))), (3, vI (nI k))] [] (PH h n s σ v) := by
    intro r
    induction r with
    | zero =>
      intro k hk
      obtain rfl : k = m := by omega
      refine r_iload_n (pc' := 5) d168_4 rfl rfl rfl ?_
      refine r_aload_n (pc' := 6) d168_5 rfl rfl rfl ?_
      refine r_getS (pc' := 9) d168_6 rfl o168 sf12_35_12 sh50 (pl hN rfl) (rfm17 hM) ?_
      refine r_iconst (v := 1) (pc' := 10) d168_9 rfl (by decide) ?_
      refine r_ialdN (pc' := 11) (j := 1) d168_10 rfl sh59 (pl hN rfl) rfl (by omega) (by decide) ?_
      refine wp_v ((congrFun PH_59 1).trans hm) ?_
      refine r_icmp_ge 43 (pc' := 14) d168_11 rfl rfl (fun c11 => ?_) (fun c11 => absurd (nI_le (Nat.le_refl _) (by omega)) c11)
      refine r_iload_n (pc' := 44) d168_43 rfl rfl rfl ?_
      refine r_if_eq 57 (pc' := 47) d168_44 rfl rfl (fun c44 => ?_) (fun c44 => ?_)
      · refine r_iconst (v := 0) (pc' := 58) d168_57 rfl (by decide) ?_
        exact r_iretZ0 d168_58 rfl (qv (b0 (fun z => by unfold bb at c44; rw [if_pos z.1] at c44; exact absurd c44 (by decide))) kk)
      · refine r_iload_n (pc' := 48) d168_47 rfl rfl rfl ?_
        refine r_bipush (v := 12) (pc' := 50) d168_48 rfl (by decide) ?_
        refine r_icmp_eq 57 (pc' := 53) d168_50 rfl rfl (fun c50 => ?_) (fun c50 => ?_)
        · refine r_iconst (v := 0) (pc' := 58) d168_57 rfl (by decide) ?_
          exact r_iretZ0 d168_58 rfl (qv (b0 (fun z => z.2 c50)) kk)
        · refine r_iconst (v := 1) (pc' := 54) d168_53 rfl (by decide) ?_
          refine r_goto 58 d168_54 rfl ?_
          exact r_iretZ1 d168_58 rfl (qv (b1 ⟨by unfold bb at c44; by_cases z : tdL s cell k = true; (exact z); (rw [if_neg z] at c44; exact absurd rfl c44), c50⟩) kk)
    | succ r ih =>
      intro k hk
      have z := ih (k + 1) (by omega)
      refine r_iload_n (pc' := 5) d168_4 rfl rfl rfl ?_
      refine r_aload_n (pc' := 6) d168_5 rfl rfl rfl ?_
      refine r_getS (pc' := 9) d168_6 rfl o168 sf12_35_12 sh50 (pl hN rfl) (rfm17 hM) ?_
      refine r_iconst (v := 1) (pc' := 10) d168_9 rfl (by decide) ?_
      refine r_ialdN (pc' := 11) (j := 1) d168_10 rfl sh59 (pl hN rfl) rfl (by omega) (by decide) ?_
      refine wp_v ((congrFun PH_59 1).trans hm) ?_
      refine r_icmp_ge 43 (pc' := 14) d168_11 rfl rfl (fun c11 => absurd c11 (nI_ge (by omega) (by omega))) (fun c11 => ?_)
      refine r_iload_n (pc' := 15) d168_14 rfl rfl rfl ?_
      refine r_if_ne 31 (pc' := 18) d168_15 rfl rfl (fun c15 => ?_) (fun c15 => ?_)
      · refine r_iconst (v := 1) (pc' := 32) d168_31 rfl (by decide) ?_
        refine r_goto 36 d168_32 rfl ?_
        refine r_istore_n (pc' := 37) (ls' := [(2, vI _), (0, vR (some 50)), (1, vI _), (3, vI _)]) d168_36 rfl rfl (by decide) rfl ?_
        refine r_iinc (v := _ + 1) (pc' := 40) (ls' := [(3, vI _), (2, vI _), (0, vR (some 50)), (1, vI _)]) d168_37 rfl rfl rfl (by decide) rfl ?_
        refine r_goto 4 d168_40 rfl ?_
        refine wp_pick (ls' := [(0, vR (some 50)), (1, vI _), (2, vI _), (3, vI _)]) [2, 3, 1, 0] rfl ?_
        rw [nI_1]
        rw [show bb (tdL s cell (k + 1)) = 1 from by by_cases y : tdL s cell k = true; (unfold tdL bb; rw [y]; rfl); (unfold bb at c15; rw [if_neg y] at c15; exact absurd rfl c15)] at z
        exact z
      · refine r_aload_n (pc' := 19) d168_18 rfl rfl rfl ?_
        refine r_getS (pc' := 22) d168_19 rfl o168 sf12_35_12 sh50 (pl hN rfl) (rfm17 hM) ?_
        refine r_bipush (v := 45) (pc' := 24) d168_22 rfl (by decide) ?_
        refine r_iload_n (pc' := 25) d168_24 rfl rfl rfl ?_
        refine r_iadd (pc' := 26) d168_25 rfl ?_
        refine r_ialdN (pc' := 27) (j := (45 + k)) d168_26 rfl sh59 (pl hN rfl) (by simp only [lit, nI_add, pk_mul]) (by omega) (by decide) ?_
        refine r_iload_n (pc' := 28) d168_27 rfl rfl rfl ?_
        refine r_icmp_ne 35 (pc' := 31) d168_28 rfl rfl (fun c28 => ?_) (fun c28 => ?_)
        · refine r_iconst (v := 0) (pc' := 36) d168_35 rfl (by decide) ?_
          refine r_istore_n (pc' := 37) (ls' := [(2, vI _), (0, vR (some 50)), (1, vI _), (3, vI _)]) d168_36 rfl rfl (by decide) rfl ?_
          refine r_iinc (v := _ + 1) (pc' := 40) (ls' := [(3, vI _), (2, vI _), (0, vR (some 50)), (1, vI _)]) d168_37 rfl rfl rfl (by decide) rfl ?_
          refine r_goto 4 d168_40 rfl ?_
          refine wp_pick (ls' := [(0, vR (some 50)), (1, vI _), (2, vI _), (3, vI _)]) [2, 3, 1, 0] rfl ?_
          rw [nI_1]
          rw [show bb (tdL s cell (k + 1)) = 0 from by unfold tdL bb; rw [show tdL s cell k = false by unfold bb at c15; by_cases y : tdL s cell k = true; (rw [if_pos y] at c15; exact absurd c15 (by decide)); (simpa using y), decide_eq_false (by rw [PH_59] at c28; exact c28)]; rfl] at z
          exact z
        · refine r_iconst (v := 1) (pc' := 32) d168_31 rfl (by decide) ?_
          refine r_goto 36 d168_32 rfl ?_
          refine r_istore_n (pc' := 37) (ls' := [(2, vI _), (0, vR (some 50)), (1, vI _), (3, vI _)]) d168_36 rfl rfl (by decide) rfl ?_
          refine r_iinc (v := _ + 1) (pc' := 40) (ls' := [(3, vI _), (2, vI _), (0, vR (some 50)), (1, vI _)]) d168_37 rfl rfl rfl (by decide) rfl ?_
          refine r_goto 4 d168_40 rfl ?_
          refine wp_pick (ls' := [(0, vR (some 50)), (1, vI _), (2, vI _), (3, vI _)]) [2, 3, 1, 0] rfl ?_
          rw [nI_1]
          rw [show bb (tdL s cell (k + 1)) = 1 from by unfold tdL bb; rw [decide_eq_true (show s (45 + k) = cell by rw [PH_59] at c28; exact c28), Bool.or_true]; rfl] at z
          exact z
  exact loop m 0 (by omega)
