/-! the law's loop (by hand) -/
theorem and63 (x : Int32) : ∃ w : Nat, w < 64 ∧ x &&& 63 = nI w := by
  refine ⟨x.toBitVec.toNat &&& 63, Nat.lt_of_le_of_lt Nat.and_le_right (by decide), ?_⟩
  apply Int32.toBitVec_inj.mp
  apply BitVec.eq_of_toNat_eq
  have h63 : x.toBitVec.toNat &&& 63 ≤ 63 := Nat.and_le_right
  have e1 : (x &&& 63).toBitVec.toNat = x.toBitVec.toNat &&& 63 := by
    show (x.toBitVec &&& 63#32).toNat = _
    rw [BitVec.toNat_and]; rfl
  have e2 : (nI (x.toBitVec.toNat &&& 63)).toBitVec.toNat = (x.toBitVec.toNat &&& 63) % 2 ^ 32 := rfl
  rw [e1, e2, Nat.mod_eq_of_lt (by omega)]
section Lz
variable {b0 L0 : Nat} {xs0 : Nat → Int32} {Q : Option AV → Hp → Prop} {kc ks : Nat} {h : Hp}
theorem law_go {i : Nat} {x : Int32} (hi0 : i + 6 ≤ L0) (hL : L0 ≤ 384) (S : Sim h) (kk : ∀ h2, Sim h2 → lwp b0 L0 xs0 41 252 Q kc ks 1304 (LSi i) [] h2) : lwp b0 L0 xs0 41 252 Q kc ks 33 (LSi i) [vI (x &&& 63)] h := by
  obtain ⟨w, hw, e⟩ := and63 x
  rw [e]
  by_cases z : w < 38
  · rcases (show w = 0 ∨ w = 1 ∨ w = 2 ∨ w = 3 ∨ w = 4 ∨ w = 5 ∨ w = 6 ∨ w = 7 ∨ w = 8 ∨ w = 9 ∨ w = 10 ∨ w = 11 ∨ w = 12 ∨ w = 13 ∨ w = 14 ∨ w = 15 ∨ w = 16 ∨ w = 17 ∨ w = 18 ∨ w = 19 ∨ w = 20 ∨ w = 21 ∨ w = 22 ∨ w = 23 ∨ w = 24 ∨ w = 25 ∨ w = 26 ∨ w = 27 ∨ w = 28 ∨ w = 29 ∨ w = 30 ∨ w = 31 ∨ w = 32 ∨ w = 33 ∨ w = 34 ∨ w = 35 ∨ w = 36 ∨ w = 37 by omega) with rfl | rfl | rfl | rfl | rfl | rfl | rfl | rfl | rfl | rfl | rfl | rfl | rfl | rfl | rfl | rfl | rfl | rfl | rfl | rfl | rfl | rfl | rfl | rfl | rfl | rfl | rfl | rfl | rfl | rfl | rfl | rfl | rfl | rfl | rfl | rfl | rfl | rfl
    · exact l_tableIn (off := 167) 200 d252_33 (by decide) (by decide) (by decide) rfl (law_0 hi0 hL S kk)
    · exact l_tableIn (off := 210) 243 d252_33 (by decide) (by decide) (by decide) rfl (law_1 hi0 hL S kk)
    · exact l_tableIn (off := 253) 286 d252_33 (by decide) (by decide) (by decide) rfl (law_2 hi0 hL S kk)
    · exact l_tableIn (off := 316) 349 d252_33 (by decide) (by decide) (by decide) rfl (law_3 hi0 hL S kk)
    · exact l_tableIn (off := 339) 372 d252_33 (by decide) (by decide) (by decide) rfl (law_4 hi0 hL S kk)
    · exact l_tableIn (off := 362) 395 d252_33 (by decide) (by decide) (by decide) rfl (law_5 hi0 hL S kk)
    · exact l_tableIn (off := 375) 408 d252_33 (by decide) (by decide) (by decide) rfl (law_6 hi0 hL S kk)
    · exact l_tableIn (off := 388) 421 d252_33 (by decide) (by decide) (by decide) rfl (law_7 hi0 hL S kk)
    · exact l_tableIn (off := 411) 444 d252_33 (by decide) (by decide) (by decide) rfl (law_8 hi0 hL S kk)
    · exact l_tableIn (off := 434) 467 d252_33 (by decide) (by decide) (by decide) rfl (law_9 hi0 hL S kk)
    · exact l_tableIn (off := 467) 500 d252_33 (by decide) (by decide) (by decide) rfl (law_10 hi0 hL S kk)
    · exact l_tableIn (off := 500) 533 d252_33 (by decide) (by decide) (by decide) rfl (law_11 hi0 hL S kk)
    · exact l_tableIn (off := 513) 546 d252_33 (by decide) (by decide) (by decide) rfl (law_12 hi0 hL S kk)
    · exact l_tableIn (off := 546) 579 d252_33 (by decide) (by decide) (by decide) rfl (law_13 hi0 hL S kk)
    · exact l_tableIn (off := 559) 592 d252_33 (by decide) (by decide) (by decide) rfl (law_14 hi0 hL S kk)
    · exact l_tableIn (off := 592) 625 d252_33 (by decide) (by decide) (by decide) rfl (law_15 hi0 hL S kk)
    · exact l_tableIn (off := 625) 658 d252_33 (by decide) (by decide) (by decide) rfl (law_16 hi0 hL S kk)
    · exact l_tableIn (off := 658) 691 d252_33 (by decide) (by decide) (by decide) rfl (law_17 hi0 hL S kk)
    · exact l_tableIn (off := 681) 714 d252_33 (by decide) (by decide) (by decide) rfl (law_18 hi0 hL S kk)
    · exact l_tableIn (off := 724) 757 d252_33 (by decide) (by decide) (by decide) rfl (law_19 hi0 hL S kk)
    · exact l_tableIn (off := 757) 790 d252_33 (by decide) (by decide) (by decide) rfl (law_20 hi0 hL S kk)
    · exact l_tableIn (off := 780) 813 d252_33 (by decide) (by decide) (by decide) rfl (law_21 hi0 hL S kk)
    · exact l_tableIn (off := 803) 836 d252_33 (by decide) (by decide) (by decide) rfl (law_22 hi0 hL S kk)
    · exact l_tableIn (off := 836) 869 d252_33 (by decide) (by decide) (by decide) rfl (law_23 hi0 hL S kk)
    · exact l_tableIn (off := 879) 912 d252_33 (by decide) (by decide) (by decide) rfl (law_24 hi0 hL S kk)
    · exact l_tableIn (off := 922) 955 d252_33 (by decide) (by decide) (by decide) rfl (law_25 hi0 hL S kk)
    · exact l_tableIn (off := 955) 988 d252_33 (by decide) (by decide) (by decide) rfl (law_26 hi0 hL S kk)
    · exact l_tableIn (off := 988) 1021 d252_33 (by decide) (by decide) (by decide) rfl (law_27 hi0 hL S kk)
    · exact l_tableIn (off := 1021) 1054 d252_33 (by decide) (by decide) (by decide) rfl (law_28 hi0 hL S kk)
    · exact l_tableIn (off := 1064) 1097 d252_33 (by decide) (by decide) (by decide) rfl (law_29 hi0 hL S kk)
    · exact l_tableIn (off := 1077) 1110 d252_33 (by decide) (by decide) (by decide) rfl (law_30 hi0 hL S kk)
    · exact l_tableIn (off := 1100) 1133 d252_33 (by decide) (by decide) (by decide) rfl (law_31 hi0 hL S kk)
    · exact l_tableIn (off := 1123) 1156 d252_33 (by decide) (by decide) (by decide) rfl (law_32 hi0 hL S kk)
    · exact l_tableIn (off := 1146) 1179 d252_33 (by decide) (by decide) (by decide) rfl (law_33 hi0 hL S kk)
    · exact l_tableIn (off := 1179) 1212 d252_33 (by decide) (by decide) (by decide) rfl (law_34 hi0 hL S kk)
    · exact l_tableIn (off := 1212) 1245 d252_33 (by decide) (by decide) (by decide) rfl (law_35 hi0 hL S kk)
    · exact l_tableIn (off := 1235) 1268 d252_33 (by decide) (by decide) (by decide) rfl (law_36 hi0 hL S kk)
    · exact l_tableIn (off := 1258) 1291 d252_33 (by decide) (by decide) (by decide) rfl (law_37 hi0 hL S kk)
  · refine l_tableOut 1304 d252_33 (Or.inr ?_) rfl (kk h S)
    rw [nI_toInt (by omega)]; omega
theorem lim_i {i : Nat} (hi0 : i ≤ 390) (hL : L0 ≤ 384) : Int32.ofNat L0 - 6 < nI i ↔ ¬ i + 6 ≤ L0 := by
  have e1 : (Int32.ofNat L0).toInt = L0 := nI_toInt (by omega)
  have e6 : (6 : Int32).toInt = 6 := by decide
  have e2 : (Int32.ofNat L0 - 6).toInt = (L0 : Int) - 6 := by
    rw [Int32.toInt_sub, e1, e6]
    exact Int.bmod_eq_of_le (by omega) (by omega)
  rw [Int32.lt_iff_toInt_lt, e2, nI_toInt (by omega)]
  omega
theorem law_loop (hL : L0 ≤ 384) (hQ : ∀ h, Q (some (vI 1)) h) : ∀ (r i : Nat) (h : Hp), L0 ≤ i + 6 * r → i ≤ 390 → Sim h → lwp b0 L0 xs0 41 252 Q kc ks 18 (LSi i) [] h := by
  intro r
  induction r with
  | zero =>
    intro i h h1 h2 S
    refine l_iload_n (pc' := 19) d252_18 rfl rfl rfl ?_
    refine l_aload_n (pc' := 20) d252_19 rfl rfl rfl ?_
    refine l_slen (pc' := 21) d252_20 rfl ?_
    refine l_bipush (v := 6) (pc' := 23) d252_21 rfl (by decide) ?_
    refine l_isub (pc' := 24) d252_23 rfl ?_
    refine l_icmp_gt (pc' := 27) 1310 d252_24 rfl rfl (fun _ => ?_) (fun w => (w ((lim_i h2 hL).mpr (by omega))).elim)
    refine l_iconst (v := 1) (pc' := 1311) d252_1310 rfl (by decide) ?_
    exact l_iretZ1 d252_1311 rfl (hQ h)
  | succ r ih =>
    intro i h h1 h2 S
    refine l_iload_n (pc' := 19) d252_18 rfl rfl rfl ?_
    refine l_aload_n (pc' := 20) d252_19 rfl rfl rfl ?_
    refine l_slen (pc' := 21) d252_20 rfl ?_
    refine l_bipush (v := 6) (pc' := 23) d252_21 rfl (by decide) ?_
    refine l_isub (pc' := 24) d252_23 rfl ?_
    refine l_icmp_gt (pc' := 27) 1310 d252_24 rfl rfl (fun _ => ?_) (fun w => ?_)
    · refine l_iconst (v := 1) (pc' := 1311) d252_1310 rfl (by decide) ?_
      exact l_iretZ1 d252_1311 rfl (hQ h)
    · have hi6 : i + 6 ≤ L0 := Classical.byContradiction (fun z => w ((lim_i h2 hL).mpr z))
      refine l_aload_n (pc' := 28) d252_27 rfl rfl rfl ?_
      refine l_iload_n (pc' := 29) d252_28 rfl rfl rfl ?_
      refine l_sld (k := i) (pc' := 30) d252_29 rfl rfl (by omega) hL ?_
      refine l_bipush (v := 63) (pc' := 32) d252_30 rfl (by decide) ?_
      refine l_iand (pc' := 33) d252_32 rfl ?_
      refine law_go hi6 hL S (fun h2 S2 => ?_)
      refine l_iinc (v := nI (i + 6)) (pc' := 1307) d252_1304 rfl rfl (nIa i 6) (Nat.le_of_ble_eq_true rfl) rfl ?_
      refine l_goto 18 d252_1307 rfl ?_
      exact lwp_pick (ls' := LSi (i + 6)) [1, 2, 3, 0] rfl (ih (i + 6) h2 (by omega) (by omega) S2)
end Lz
