/-! the reference reads a tape: signs, numbers, sorts (printed by wip/whole/m67.py) -/
def pS (T : Nat → Int32) (n : Nat) (c : Int32) (σ : Nat × Nat) : Nat × Nat := if σ.2 = 0 then (if zB T n σ.1 = c then (σ.1 + 1, 0) else (σ.1, 1)) else σ
def pN (T : Nat → Int32) (n : Nat) (lo hi : Int32) (σ : Nat × Nat) : Nat × Nat := if σ.2 = 0 then (if 1 ≤ zD T n σ.1 ∧ zD T n σ.1 ≤ 2 then (if lo ≤ zV T n σ.1 ∧ zV T n σ.1 ≤ hi then (σ.1 + zD T n σ.1, 0) else (σ.1, 2)) else (σ.1, 1)) else σ
def pM (x : Int32) (num : Nat) (σ : Nat × Nat) : Nat × Nat := (σ.1, if σ.2 = 0 ∧ x = 0 then num else σ.2)
def pA (T : Nat → Int32) (n : Nat) (σ : Nat × Nat) : Nat × Nat := if σ.2 = 0 then (zC T n σ.1, 0) else σ
def PH (h : Hp) (n : Nat) (s : Nat → Int32) (σ : Nat × Nat) (v : Int32) : Hp := RH h s (nI (zC (hi h 58) n σ.1)) (nI σ.1) (zT (hi h 58) n σ.1) v (nI σ.2)
def vok (T : Nat → Int32) (n : Nat) (σ : Nat × Nat) (v : Int32) : Prop := σ.2 = 0 → σ.1 < n → v = zW T n σ.1
def srt (c : Int32) : Int32 := if c = 119 then 1 else if c = 107 then 2 else if c = 100 then 3 else if c = 104 then 4 else if c = 109 then 5 else -1000000
theorem nI_z {G : Nat} (hG : G ≤ 3) : nI G = 0 ↔ G = 0 := by
  rcases (show G = 0 ∨ G = 1 ∨ G = 2 ∨ G = 3 by omega) with rfl | rfl | rfl | rfl <;> decide
theorem pM_le {x : Int32} {num : Nat} {σ : Nat × Nat} (h1 : num ≤ 3) (h2 : σ.2 ≤ 3) : (pM x num σ).2 ≤ 3 := by unfold pM; dsimp only; split <;> omega
theorem pA_le {T : Nat → Int32} {n : Nat} {σ : Nat × Nat} (h2 : σ.2 ≤ 3) : (pA T n σ).2 ≤ 3 := by
  unfold pA; split
  · exact Nat.zero_le _
  · exact h2
theorem pA_n {T : Nat → Int32} {n : Nat} {σ : Nat × Nat} (h : σ.1 ≤ n) : (pA T n σ).1 ≤ n := by
  unfold pA; split
  · exact zC_le h
  · exact h
def okS (n : Nat) (σ : Nat × Nat) : Prop := σ.1 ≤ n ∧ σ.2 ≤ 3
theorem zB_lt {T : Nat → Int32} {n p : Nat} {c : Int32} (h : zB T n p = c) (hc : 0 ≤ c) : p < n := zB_pos (by rw [h]; exact hc)
theorem pS_ok {T : Nat → Int32} {n : Nat} {c : Int32} {σ : Nat × Nat} (h : okS n σ) (hc : 0 ≤ c) : okS n (pS T n c σ) := by
  unfold pS; split
  · split
    · next z => have := zB_lt z hc; exact ⟨by show σ.1 + 1 ≤ n; omega, by show 0 ≤ 3; omega⟩
    · exact ⟨h.1, by show 1 ≤ 3; omega⟩
  · exact h
theorem pN_ok {T : Nat → Int32} {n : Nat} {lo hi : Int32} {σ : Nat × Nat} (h : okS n σ) : okS n (pN T n lo hi σ) := by
  have := zD_le T n σ.1
  have h1 := h.1
  unfold pN; split
  · split
    · split
      · exact ⟨by show σ.1 + zD T n σ.1 ≤ n; omega, by show 0 ≤ 3; omega⟩
      · exact ⟨h.1, by show 2 ≤ 3; omega⟩
    · exact ⟨h.1, by show 1 ≤ 3; omega⟩
  · exact h
theorem pS_G {T : Nat → Int32} {n : Nat} {c : Int32} {σ : Nat × Nat} (h : (pS T n c σ).2 = 0) : σ.2 = 0 := by
  unfold pS at h; split at h
  · assumption
  · exact h
theorem pN_G {T : Nat → Int32} {n : Nat} {lo hi : Int32} {σ : Nat × Nat} (h : (pN T n lo hi σ).2 = 0) : σ.2 = 0 := by
  unfold pN at h; split at h
  · assumption
  · exact h
theorem pAM1 {T : Nat → Int32} {n k : Nat} {c : Int32} {σ : Nat × Nat} (hc : ¬ zF c) (hc0 : 0 ≤ c) (h : σ.2 = 0 → zB T n σ.1 = c) : pA T n (pM 1 k σ) = pS T n c σ := by
  unfold pM pA pS
  dsimp only
  rw [if_neg (c := σ.2 = 0 ∧ (1 : Int32) = 0) (fun z => absurd z.2 (by decide))]
  by_cases hG : σ.2 = 0
  · rw [if_pos hG, if_pos hG, if_pos (h hG)]
    have hp := zB_lt (h hG) hc0
    rw [show zC T n σ.1 = σ.1 + 1 by unfold zC; rw [if_neg (Nat.not_le.mpr hp), if_neg (by rw [h hG]; exact hc)]]
  · rw [if_neg hG, if_neg hG]
theorem pAM0 {T : Nat → Int32} {n : Nat} {c : Int32} {σ : Nat × Nat} (h : σ.2 = 0 → ¬ zB T n σ.1 = c) : pA T n (pM 0 1 σ) = pS T n c σ := by
  unfold pM pA pS
  dsimp only
  by_cases hG : σ.2 = 0
  · rw [if_pos (c := σ.2 = 0 ∧ (0 : Int32) = 0) ⟨hG, rfl⟩, if_neg (by decide), if_pos hG, if_neg (h hG)]
  · rw [if_neg (c := σ.2 = 0 ∧ (0 : Int32) = 0) (fun z => hG z.1), if_neg hG, if_neg hG]
theorem zT_p {T : Nat → Int32} {n p : Nat} (h : ¬ zT T n p = 0) : p < n := by
  unfold zT at h
  by_cases z : n ≤ p
  · rw [if_pos z] at h; exact absurd rfl h
  · omega
theorem zD_f {T : Nat → Int32} {n p : Nat} : 1 ≤ zD T n p ↔ zF (zB T n p) := by
  constructor
  · intro h; by_cases z : zF (zB T n p)
    · exact z
    · rw [zD_0 z] at h; omega
  · intro h; rw [zD_s h]; omega
theorem zT_2 {T : Nat → Int32} {n p : Nat} : zT T n p = 2 ↔ 1 ≤ zD T n p ∧ zD T n p ≤ 2 := by
  rw [zD_f]
  unfold zT
  by_cases z : n ≤ p
  · rw [if_pos z]; exact ⟨fun h => absurd h (by decide), fun h => absurd (zF_pos h.1) (by omega)⟩
  · rw [if_neg z]
    by_cases y : zF (zB T n p)
    · rw [if_pos y]
      by_cases x : zD T n p < 3
      · rw [if_pos x]; exact ⟨fun _ => ⟨y, by omega⟩, fun _ => rfl⟩
      · rw [if_neg x]; exact ⟨fun h => absurd h (by decide), fun h => absurd h.2 (by omega)⟩
    · rw [if_neg y]
      refine ⟨fun h => ?_, fun h => absurd h.1 y⟩
      unfold zk at h
      split at h
      · exact absurd h (by decide)
      · split at h <;> exact absurd h (by decide)
theorem zT_k {T : Nat → Int32} {n p : Nat} {t : Int32} (ht : t = 1 ∨ t = 3) (h : zT T n p = t) : p < n ∧ ¬ zF (zB T n p) ∧ zk (zB T n p) = t := by
  have hp : p < n := zT_p (by rw [h]; rcases ht with rfl | rfl <;> decide)
  unfold zT at h
  rw [if_neg (Nat.not_le.mpr hp)] at h
  by_cases y : zF (zB T n p)
  · rw [if_pos y] at h
    exfalso
    split at h <;> (rcases ht with rfl | rfl <;> exact absurd h (by decide))
  · rw [if_neg y] at h
    exact ⟨hp, y, h⟩
/-- what a token of one letter or sign says of the byte -/
theorem tok_of {T : Nat → Int32} {n : Nat} {c t v : Int32} {σ : Nat × Nat} (ht : t = 1 ∨ t = 3) (hv : vok T n σ v) (h1 : zT T n σ.1 = t) (h2 : v = c) (hG : σ.2 = 0) : zB T n σ.1 = c := by
  obtain ⟨a, b, _⟩ := zT_k ht h1
  have z := hv hG a
  unfold zW at z
  rw [if_neg b, h2] at z
  exact z.symm
theorem tok_to {T : Nat → Int32} {n : Nat} {c v : Int32} {σ : Nat × Nat} (hc : ¬ zF c) (hc0 : 0 ≤ c) (hv : vok T n σ v) (hG : σ.2 = 0) (h : zB T n σ.1 = c) : zT T n σ.1 = zk c ∧ v = c := by
  have hp := zB_lt h hc0
  constructor
  · unfold zT; rw [if_neg (Nat.not_le.mpr hp), if_neg (by rw [h]; exact hc), h]
  · have z := hv hG hp
    unfold zW at z
    rw [if_neg (by rw [h]; exact hc), h] at z
    exact z
theorem pNM1 {T : Nat → Int32} {n : Nat} {lo hi v : Int32} {σ : Nat × Nat} (hv : vok T n σ v) (h : zT T n σ.1 = 2) : pA T n (pM (bI (lo ≤ v ∧ v ≤ hi)) 2 (pM 1 1 σ)) = pN T n lo hi σ := by
  unfold pM pA pN
  dsimp only
  rw [if_neg (c := σ.2 = 0 ∧ (1 : Int32) = 0) (fun z => absurd z.2 (by decide))]
  by_cases hG : σ.2 = 0
  · have hp : σ.1 < n := zT_p (by rw [h]; decide)
    have hd := zT_2.mp h
    have hf := zD_f.mp hd.1
    have z : v = zV T n σ.1 := by have z := hv hG hp; unfold zW at z; rw [if_pos hf] at z; exact z
    rw [if_pos (c := σ.2 = 0) hG, if_pos hd, ← z]
    by_cases hi0 : lo ≤ v ∧ v ≤ hi
    · rw [if_pos hi0, b1 hi0, if_neg (c := σ.2 = 0 ∧ (1 : Int32) = 0) (fun z => absurd z.2 (by decide)), if_pos hG, show zC T n σ.1 = σ.1 + zD T n σ.1 by unfold zC; rw [if_neg (Nat.not_le.mpr hp), if_pos hf]]
    · rw [if_neg hi0, b0 hi0, if_pos (c := σ.2 = 0 ∧ (0 : Int32) = 0) ⟨hG, rfl⟩, if_neg (by decide)]
  · rw [if_neg (c := σ.2 = 0) hG, if_neg (c := σ.2 = 0 ∧ bI (lo ≤ v ∧ v ≤ hi) = 0) (fun z => hG z.1), if_neg hG]
theorem pNM0 {T : Nat → Int32} {n : Nat} {lo hi x : Int32} {σ : Nat × Nat} (h : ¬ zT T n σ.1 = 2) : pA T n (pM x 2 (pM 0 1 σ)) = pN T n lo hi σ := by
  unfold pM pA pN
  dsimp only
  by_cases hG : σ.2 = 0
  · rw [if_pos (c := σ.2 = 0 ∧ (0 : Int32) = 0) ⟨hG, rfl⟩, if_pos (c := σ.2 = 0) hG, if_neg (fun z => h (zT_2.mpr z)), if_neg (c := (1 : Nat) = 0 ∧ x = 0) (fun z => absurd z.1 (by decide)), if_neg (by decide)]
  · rw [if_neg (c := σ.2 = 0 ∧ (0 : Int32) = 0) (fun z => hG z.1), if_neg (c := σ.2 = 0 ∧ x = 0) (fun z => hG z.1), if_neg hG, if_neg hG]
theorem pM_1 {σ : Nat × Nat} {num : Nat} : pM 1 num σ = σ := by
  unfold pM; rw [if_neg (fun z => absurd z.2 (by decide))]
theorem s_must {d : Nat} {h : Hp} {Q : Option AV → Hp → Prop} {s : Nat → Int32} {cu st tk vl G x num : Int32} (hN : hn h = 65) (kk : Q none (RH h s cu st tk vl (if G = 0 ∧ x = 0 then num else G))) : Spec d 159 [vR (some 50), vI x, vI num] (RH h s cu st tk vl G) Q := by
  refine spec_intro (by decide +kernel) rfl (Nat.le_of_ble_eq_true rfl) ?_
  refine r_aload_n (pc' := 1) d159_0 rfl rfl rfl ?_
  refine r_getI (pc' := 4) d159_1 rfl o159 sf12_97_12 sh50 (pl hN rfl) ?_
  refine wp_v RH_g15 ?_
  refine r_if_ne 16 (pc' := 7) d159_4 rfl rfl (fun c4 => ?_) (fun c4 => ?_)
  · exact r_ret d159_16 rfl (by rw [if_neg (fun z => c4 z.1)] at kk; exact kk)
  · refine r_iload_n (pc' := 8) d159_7 rfl rfl rfl ?_
    refine r_if_ne 16 (pc' := 11) d159_8 rfl rfl (fun c8 => ?_) (fun c8 => ?_)
    · exact r_ret d159_16 rfl (by rw [if_neg (fun z => c8 z.2)] at kk; exact kk)
    · refine r_aload_n (pc' := 12) d159_11 rfl rfl rfl ?_
      refine r_iload_n (pc' := 13) d159_12 rfl rfl rfl ?_
      refine r_putI (pc' := 16) d159_13 rfl o159 sp12_97_12 sh50 (fun w => absurd w (by decide)) (Or.inl rfl) (pl hN rfl) ?_
      exact r_ret d159_16 rfl (by rw [if_pos ⟨c4, c8⟩] at kk; exact qh RH_s15.symm kk)
theorem s_mustP {d : Nat} {h : Hp} {Q : Option AV → Hp → Prop} {n num : Nat} {s : Nat → Int32} {σ : Nat × Nat} {v x : Int32} (hN : hn h = 65) (hG : σ.2 ≤ 3) (kk : Q none (PH h n s (pM x num σ) v)) : Spec d 159 [vR (some 50), vI x, vI (nI num)] (PH h n s σ v) Q := by
  refine s_must hN ?_
  unfold PH pM at kk
  dsimp only at kk
  rw [show nI (if σ.2 = 0 ∧ x = 0 then num else σ.2) = (if nI σ.2 = 0 ∧ x = 0 then nI num else nI σ.2) by by_cases z : σ.2 = 0 ∧ x = 0; (rw [if_pos z, if_pos ⟨(nI_z hG).mpr z.1, z.2⟩]); (rw [if_neg z, if_neg (fun y => z ⟨(nI_z hG).mp y.1, y.2⟩)])] at kk
  exact kk
theorem s_goesOn {d : Nat} {h : Hp} {Q : Option AV → Hp → Prop} {n : Nat} {s : Nat → Int32} {σ : Nat × Nat} {v : Int32} (hN : hn h = 65) (hM : RM h) (hn0 : hi h 50 10 = nI n) (hn1 : n ≤ 160) (hT : tOK (hi h 58) n) (hσ : okS n σ) (hv : vok (hi h 58) n σ v) (kk : ∀ v9, vok (hi h 58) n (pA (hi h 58) n σ) v9 → Q none (PH h n s (pA (hi h 58) n σ) v9)) : Spec (d + 2) 160 [vR (some 50)] (PH h n s σ v) Q := by
  unfold PH
  refine spec_intro (by decide +kernel) rfl (Nat.le_of_ble_eq_true rfl) ?_
  refine r_aload_n (pc' := 1) d160_0 rfl rfl rfl ?_
  refine r_getI (pc' := 4) d160_1 rfl o160 sf12_97_12 sh50 (pl hN rfl) ?_
  refine wp_v RH_g15 ?_
  refine r_if_ne 11 (pc' := 7) d160_4 rfl rfl (fun c4 => ?_) (fun c4 => ?_)
  · exact r_ret d160_11 rfl (by unfold pA at kk; rw [if_neg (fun z => c4 (by rw [z]; rfl))] at kk; exact kk v hv)
  · refine r_aload_n (pc' := 8) d160_7 rfl rfl rfl ?_
    refine r_call (pc' := 11) [vR (some 50)] [] d160_8 rfl o160 st12_100_12 (rcv1 sh50 (pl hN rfl)) rfl (by decide) ⟨rfl, rfl⟩ (Nat.le_of_ble_eq_true rfl) rfl (s_nextR hN hM hn0 hn1 hT (zC_le hσ.1) ?_)
    exact r_ret d160_11 rfl (by have hG : σ.2 = 0 := (nI_z hσ.2).mp c4; unfold pA at kk; rw [if_pos hG] at kk; have z := kk (if n ≤ zC (hi h 58) n σ.1 then v else zW (hi h 58) n (zC (hi h 58) n σ.1)) (fun _ z => if_neg (Nat.not_le.mpr z)); unfold PH at z; rw [hG]; exact z)
theorem s_isLetter {d : Nat} {h : Hp} {Q : Option AV → Hp → Prop} {n : Nat} {s : Nat → Int32} {σ : Nat × Nat} {v : Int32} {c : Int32} (hN : hn h = 65) (hσ : okS n σ) (hv : vok (hi h 58) n σ v) (hc1 : 97 ≤ c ∧ c ≤ 122) (k : Q (some (vI (bI (σ.2 = 0 ∧ zB (hi h 58) n σ.1 = c)))) (PH h n s σ v)) : Spec d 161 [vR (some 50), vI c] (PH h n s σ v) Q := by
  have hc : ¬ zF c := fun z => absurd (Int32.le_trans hc1.1 z.2) (by decide)
  unfold PH at k ⊢
  refine spec_intro (by decide +kernel) rfl (Nat.le_of_ble_eq_true rfl) ?_
  refine r_aload_n (pc' := 1) d161_0 rfl rfl rfl ?_
  refine r_getI (pc' := 4) d161_1 rfl o161 sf12_97_12 sh50 (pl hN rfl) ?_
  refine wp_v RH_g15 ?_
  refine r_if_ne 27 (pc' := 7) d161_4 rfl rfl (fun c4 => ?_) (fun c4 => ?_)
  · refine r_iconst (v := 0) (pc' := 28) d161_27 rfl (by decide) ?_
    exact r_iretZ0 d161_28 rfl (qv (b0 (fun z => c4 (by rw [z.1]; rfl))) k)
  · refine r_aload_n (pc' := 8) d161_7 rfl rfl rfl ?_
    refine r_getI (pc' := 11) d161_8 rfl o161 sf12_91_12 sh50 (pl hN rfl) ?_
    refine wp_v RH_g13 ?_
    refine r_iconst (v := 1) (pc' := 12) d161_11 rfl (by decide) ?_
    refine r_icmp_ne 27 (pc' := 15) d161_12 rfl rfl (fun c12 => ?_) (fun c12 => ?_)
    · refine r_iconst (v := 0) (pc' := 28) d161_27 rfl (by decide) ?_
      exact r_iretZ0 d161_28 rfl (qv (b0 (fun z => c12 ((tok_to hc (Int32.le_trans (by decide) hc1.1) hv z.1 z.2).1.trans (if_pos hc1)))) k)
    · refine r_aload_n (pc' := 16) d161_15 rfl rfl rfl ?_
      refine r_getI (pc' := 19) d161_16 rfl o161 sf12_94_12 sh50 (pl hN rfl) ?_
      refine wp_v RH_g14 ?_
      refine r_iload_n (pc' := 20) d161_19 rfl rfl rfl ?_
      refine r_icmp_ne 27 (pc' := 23) d161_20 rfl rfl (fun c20 => ?_) (fun c20 => ?_)
      · refine r_iconst (v := 0) (pc' := 28) d161_27 rfl (by decide) ?_
        exact r_iretZ0 d161_28 rfl (qv (b0 (fun z => c20 (tok_to hc (Int32.le_trans (by decide) hc1.1) hv z.1 z.2).2)) k)
      · refine r_iconst (v := 1) (pc' := 24) d161_23 rfl (by decide) ?_
        refine r_goto 28 d161_24 rfl ?_
        exact r_iretZ1 d161_28 rfl (qv (b1 ⟨(nI_z hσ.2).mp c4, tok_of (Or.inl rfl) hv c12 c20 ((nI_z hσ.2).mp c4)⟩) k)
theorem okM {n k : Nat} {x : Int32} {σ : Nat × Nat} (h : okS n σ) (hk : k ≤ 3 := by decide) : okS n (pM x k σ) := ⟨h.1, pM_le hk h.2⟩
theorem vokM {T : Nat → Int32} {n k : Nat} {x v : Int32} {σ : Nat × Nat} (h : vok T n σ v) (hk : 0 < k := by decide) : vok T n (pM x k σ) v := fun h1 h2 => h (by unfold pM at h1; dsimp only at h1; split at h1 <;> omega) h2
theorem s_readSign {d : Nat} {h : Hp} {Q : Option AV → Hp → Prop} {n : Nat} {s : Nat → Int32} {σ : Nat × Nat} {v : Int32} {c : Int32} (hN : hn h = 65) (hM : RM h) (hn0 : hi h 50 10 = nI n) (hn1 : n ≤ 160) (hT : tOK (hi h 58) n) (hσ : okS n σ) (hv : vok (hi h 58) n σ v) (hc1 : c = 44 ∨ c = 59) (kk : ∀ v9, vok (hi h 58) n (pS (hi h 58) n c σ) v9 → Q none (PH h n s (pS (hi h 58) n c σ) v9)) : Spec (d + 3) 162 [vR (some 50), vI c] (PH h n s σ v) Q := by
  have hcf : ¬ zF c := by rcases hc1 with rfl | rfl <;> decide
  have hc0 : 0 ≤ c := by rcases hc1 with rfl | rfl <;> decide
  have hck : zk c = 3 := by rcases hc1 with rfl | rfl <;> decide
  refine spec_intro (by decide +kernel) rfl (Nat.le_of_ble_eq_true rfl) ?_
  refine r_aload_n (pc' := 1) d162_0 rfl rfl rfl ?_
  refine r_aload_n (pc' := 2) d162_1 rfl rfl rfl ?_
  refine r_getI (pc' := 5) d162_2 rfl o162 sf12_91_12 sh50 (pl hN rfl) ?_
  refine wp_v RH_g13 ?_
  refine r_iconst (v := 3) (pc' := 6) d162_5 rfl (by decide) ?_
  refine r_icmp_ne 21 (pc' := 9) d162_6 rfl rfl (fun c6 => ?_) (fun c6 => ?_)
  · refine r_iconst (v := 0) (pc' := 22) d162_21 rfl (by decide) ?_
    refine r_iconst (v := 1) (pc' := 23) d162_22 rfl (by decide) ?_
    refine r_call (pc' := 26) [vR (some 50), vI _, vI _] [] d162_23 rfl o162 st12_103_12 (rcv1 sh50 (pl hN rfl)) rfl (by decide) ⟨rfl, rfl⟩ (Nat.le_of_ble_eq_true rfl) rfl (s_mustP (n := n) (σ := σ) (num := 1) hN hσ.2 ?_)
    refine r_aload_n (pc' := 27) d162_26 rfl rfl rfl ?_
    refine r_call (pc' := 30) [vR (some 50)] [] d162_27 rfl o162 st12_107_12 (rcv1 sh50 (pl hN rfl)) rfl (by decide) ⟨rfl, rfl⟩ (Nat.le_of_ble_eq_true rfl) rfl (s_goesOn hN hM hn0 hn1 hT (okM hσ) (vokM hv) (fun v9 hv9 => ?_))
    exact r_ret d162_30 rfl (by have e : pA (hi h 58) n _ = pS (hi h 58) n c σ := pAM0 (fun hG z => c6 ((tok_to hcf hc0 hv hG z).1.trans hck)); rw [e] at hv9 ⊢; exact kk v9 hv9)
  · refine r_aload_n (pc' := 10) d162_9 rfl rfl rfl ?_
    refine r_getI (pc' := 13) d162_10 rfl o162 sf12_94_12 sh50 (pl hN rfl) ?_
    refine wp_v RH_g14 ?_
    refine r_iload_n (pc' := 14) d162_13 rfl rfl rfl ?_
    refine r_icmp_ne 21 (pc' := 17) d162_14 rfl rfl (fun c14 => ?_) (fun c14 => ?_)
    · refine r_iconst (v := 0) (pc' := 22) d162_21 rfl (by decide) ?_
      refine r_iconst (v := 1) (pc' := 23) d162_22 rfl (by decide) ?_
      refine r_call (pc' := 26) [vR (some 50), vI _, vI _] [] d162_23 rfl o162 st12_103_12 (rcv1 sh50 (pl hN rfl)) rfl (by decide) ⟨rfl, rfl⟩ (Nat.le_of_ble_eq_true rfl) rfl (s_mustP (n := n) (σ := σ) (num := 1) hN hσ.2 ?_)
      refine r_aload_n (pc' := 27) d162_26 rfl rfl rfl ?_
      refine r_call (pc' := 30) [vR (some 50)] [] d162_27 rfl o162 st12_107_12 (rcv1 sh50 (pl hN rfl)) rfl (by decide) ⟨rfl, rfl⟩ (Nat.le_of_ble_eq_true rfl) rfl (s_goesOn hN hM hn0 hn1 hT (okM hσ) (vokM hv) (fun v9 hv9 => ?_))
      exact r_ret d162_30 rfl (by have e : pA (hi h 58) n _ = pS (hi h 58) n c σ := pAM0 (fun hG z => c14 (tok_to hcf hc0 hv hG z).2); rw [e] at hv9 ⊢; exact kk v9 hv9)
    · refine r_iconst (v := 1) (pc' := 18) d162_17 rfl (by decide) ?_
      refine r_goto 22 d162_18 rfl ?_
      refine r_iconst (v := 1) (pc' := 23) d162_22 rfl (by decide) ?_
      refine r_call (pc' := 26) [vR (some 50), vI _, vI _] [] d162_23 rfl o162 st12_103_12 (rcv1 sh50 (pl hN rfl)) rfl (by decide) ⟨rfl, rfl⟩ (Nat.le_of_ble_eq_true rfl) rfl (s_mustP (n := n) (σ := σ) (num := 1) hN hσ.2 ?_)
      refine r_aload_n (pc' := 27) d162_26 rfl rfl rfl ?_
      refine r_call (pc' := 30) [vR (some 50)] [] d162_27 rfl o162 st12_107_12 (rcv1 sh50 (pl hN rfl)) rfl (by decide) ⟨rfl, rfl⟩ (Nat.le_of_ble_eq_true rfl) rfl (s_goesOn hN hM hn0 hn1 hT (okM hσ) (vokM hv) (fun v9 hv9 => ?_))
      exact r_ret d162_30 rfl (by have e : pA (hi h 58) n _ = pS (hi h 58) n c σ := pAM1 (k := 1) hcf hc0 (fun hG => tok_of (Or.inr rfl) hv c6 c14 hG); rw [e] at hv9 ⊢; exact kk v9 hv9)
theorem pN_v {T : Nat → Int32} {n : Nat} {lo hi v : Int32} {σ : Nat × Nat} (hv : vok T n σ v) (h : (pN T n lo hi σ).2 = 0) : v = zV T n σ.1 := by
  have hG := pN_G h
  unfold pN at h
  rw [if_pos hG] at h
  by_cases z : 1 ≤ zD T n σ.1 ∧ zD T n σ.1 ≤ 2
  · have hf := zD_f.mp z.1
    have y := hv hG (zF_pos hf)
    unfold zW at y
    rw [if_pos hf] at y
    exact y
  · rw [if_neg z] at h; exact absurd (show (1 : Nat) = 0 from h) (by decide)
theorem s_readNumber {d : Nat} {h : Hp} {Q : Option AV → Hp → Prop} {n : Nat} {s : Nat → Int32} {σ : Nat × Nat} {v : Int32} {lo hi0 : Int32} (hN : hn h = 65) (hM : RM h) (hn0 : hi h 50 10 = nI n) (hn1 : n ≤ 160) (hT : tOK (hi h 58) n) (hσ : okS n σ) (hv : vok (hi h 58) n σ v) (kk : ∀ v9 r, vok (hi h 58) n (pN (hi h 58) n lo hi0 σ) v9 → ((pN (hi h 58) n lo hi0 σ).2 = 0 → r = zV (hi h 58) n σ.1) → Q (some (vI r)) (PH h n s (pN (hi h 58) n lo hi0 σ) v9)) : Spec (d + 3) 163 [vR (some 50), vI lo, vI hi0] (PH h n s σ v) Q := by
  refine spec_intro (by decide +kernel) rfl (Nat.le_of_ble_eq_true rfl) ?_
  refine r_aload_n (pc' := 1) d163_0 rfl rfl rfl ?_
  refine r_aload_n (pc' := 2) d163_1 rfl rfl rfl ?_
  refine r_getI (pc' := 5) d163_2 rfl o163 sf12_91_12 sh50 (pl hN rfl) ?_
  refine wp_v RH_g13 ?_
  refine r_iconst (v := 2) (pc' := 6) d163_5 rfl (by decide) ?_
  refine r_icmp_ne 13 (pc' := 9) d163_6 rfl rfl (fun c6 => ?_) (fun c6 => ?_)
  · refine r_iconst (v := 0) (pc' := 14) d163_13 rfl (by decide) ?_
    refine r_iconst (v := 1) (pc' := 15) d163_14 rfl (by decide) ?_
    refine r_call (pc' := 18) [vR (some 50), vI _, vI _] [] d163_15 rfl o163 st12_103_12 (rcv1 sh50 (pl hN rfl)) rfl (by decide) ⟨rfl, rfl⟩ (Nat.le_of_ble_eq_true rfl) rfl (s_mustP (n := n) (σ := σ) (num := 1) hN hσ.2 ?_)
    refine r_aload_n (pc' := 19) d163_18 rfl rfl rfl ?_
    refine r_aload_n (pc' := 20) d163_19 rfl rfl rfl ?_
    refine r_getI (pc' := 23) d163_20 rfl o163 sf12_94_12 sh50 (pl hN rfl) ?_
    refine wp_v RH_g14 ?_
    refine r_iload_n (pc' := 24) d163_23 rfl rfl rfl ?_
    refine r_iload_n (pc' := 25) d163_24 rfl rfl rfl ?_
    refine r_call (pc' := 28) [vI _, vI _, vI _] [vR (some 50)] d163_25 rfl o163 st12_59 rcv0 rfl (by decide) ⟨rfl, rfl⟩ (Nat.le_of_ble_eq_true rfl) rfl (s_in ?_)
    refine r_iconst (v := 2) (pc' := 29) d163_28 rfl (by decide) ?_
    refine r_call (pc' := 32) [vR (some 50), vI _, vI _] [] d163_29 rfl o163 st12_103_12 (rcv1 sh50 (pl hN rfl)) rfl (by decide) ⟨rfl, rfl⟩ (Nat.le_of_ble_eq_true rfl) rfl (s_mustP (n := n) (num := 2) hN (pM_le (by decide) hσ.2) ?_)
    refine r_aload_n (pc' := 33) d163_32 rfl rfl rfl ?_
    refine r_getI (pc' := 36) d163_33 rfl o163 sf12_94_12 sh50 (pl hN rfl) ?_
    refine wp_v RH_g14 ?_
    refine r_istore_n (pc' := 37) (ls' := [(3, vI _), (0, vR (some 50)), (1, vI _), (2, vI _)]) d163_36 rfl rfl (by decide) rfl ?_
    refine r_aload_n (pc' := 38) d163_37 rfl rfl rfl ?_
    refine r_call (pc' := 41) [vR (some 50)] [] d163_38 rfl o163 st12_107_12 (rcv1 sh50 (pl hN rfl)) rfl (by decide) ⟨rfl, rfl⟩ (Nat.le_of_ble_eq_true rfl) rfl (s_goesOn hN hM hn0 hn1 hT (okM (okM hσ)) (vokM (vokM hv)) (fun v9 hv9 => ?_))
    refine r_iload_n (pc' := 42) d163_41 rfl rfl rfl ?_
    exact r_iretI d163_42 rfl (by have e : pA (hi h 58) n (pM (bI (lo ≤ v ∧ v ≤ hi0)) 2 (pM 0 1 σ)) = pN (hi h 58) n lo hi0 σ := pNM0 c6; rw [e] at hv9 ⊢; exact kk v9 v hv9 (fun z => pN_v hv z))
  · refine r_iconst (v := 1) (pc' := 10) d163_9 rfl (by decide) ?_
    refine r_goto 14 d163_10 rfl ?_
    refine r_iconst (v := 1) (pc' := 15) d163_14 rfl (by decide) ?_
    refine r_call (pc' := 18) [vR (some 50), vI _, vI _] [] d163_15 rfl o163 st12_103_12 (rcv1 sh50 (pl hN rfl)) rfl (by decide) ⟨rfl, rfl⟩ (Nat.le_of_ble_eq_true rfl) rfl (s_mustP (n := n) (σ := σ) (num := 1) hN hσ.2 ?_)
    refine r_aload_n (pc' := 19) d163_18 rfl rfl rfl ?_
    refine r_aload_n (pc' := 20) d163_19 rfl rfl rfl ?_
    refine r_getI (pc' := 23) d163_20 rfl o163 sf12_94_12 sh50 (pl hN rfl) ?_
    refine wp_v RH_g14 ?_
    refine r_iload_n (pc' := 24) d163_23 rfl rfl rfl ?_
    refine r_iload_n (pc' := 25) d163_24 rfl rfl rfl ?_
    refine r_call (pc' := 28) [vI _, vI _, vI _] [vR (some 50)] d163_25 rfl o163 st12_59 rcv0 rfl (by decide) ⟨rfl, rfl⟩ (Nat.le_of_ble_eq_true rfl) rfl (s_in ?_)
    refine r_iconst (v := 2) (pc' := 29) d163_28 rfl (by decide) ?_
    refine r_call (pc' := 32) [vR (some 50), vI _, vI _] [] d163_29 rfl o163 st12_103_12 (rcv1 sh50 (pl hN rfl)) rfl (by decide) ⟨rfl, rfl⟩ (Nat.le_of_ble_eq_true rfl) rfl (s_mustP (n := n) (num := 2) hN (pM_le (by decide) hσ.2) ?_)
    refine r_aload_n (pc' := 33) d163_32 rfl rfl rfl ?_
    refine r_getI (pc' := 36) d163_33 rfl o163 sf12_94_12 sh50 (pl hN rfl) ?_
    refine wp_v RH_g14 ?_
    refine r_istore_n (pc' := 37) (ls' := [(3, vI _), (0, vR (some 50)), (1, vI _), (2, vI _)]) d163_36 rfl rfl (by decide) rfl ?_
    refine r_aload_n (pc' := 38) d163_37 rfl rfl rfl ?_
    refine r_call (pc' := 41) [vR (some 50)] [] d163_38 rfl o163 st12_107_12 (rcv1 sh50 (pl hN rfl)) rfl (by decide) ⟨rfl, rfl⟩ (Nat.le_of_ble_eq_true rfl) rfl (s_goesOn hN hM hn0 hn1 hT (okM (okM hσ)) (vokM (vokM hv)) (fun v9 hv9 => ?_))
    refine r_iload_n (pc' := 42) d163_41 rfl rfl rfl ?_
    exact r_iretI d163_42 rfl (by have e : pA (hi h 58) n (pM (bI (lo ≤ v ∧ v ≤ hi0)) 2 (pM 1 1 σ)) = pN (hi h 58) n lo hi0 σ := pNM1 hv c6; rw [e] at hv9 ⊢; exact kk v9 v hv9 (fun z => pN_v hv z))
theorem s_sortOf {d : Nat} {h : Hp} {Q : Option AV → Hp → Prop} {c : Int32} (k : Q (some (vI (srt c))) h) : Spec d 164 [vR (some 50), vI c] h Q := by
  refine spec_intro (by decide +kernel) rfl (Nat.le_of_ble_eq_true rfl) ?_
  refine r_iload_n (pc' := 1) d164_0 rfl rfl rfl ?_
  by_cases z119 : c = 119
  · subst z119
    refine r_lookup 52 d164_1 (by decide) rfl rfl ?_
    refine r_iconst (v := 1) (pc' := 53) d164_52 rfl (by decide) ?_
    exact r_iretI d164_53 rfl (qv (by decide) k)
  by_cases z107 : c = 107
  · subst z107
    refine r_lookup 54 d164_1 (by decide) rfl rfl ?_
    refine r_iconst (v := 2) (pc' := 55) d164_54 rfl (by decide) ?_
    exact r_iretI d164_55 rfl (qv (by decide) k)
  by_cases z100 : c = 100
  · subst z100
    refine r_lookup 56 d164_1 (by decide) rfl rfl ?_
    refine r_iconst (v := 3) (pc' := 57) d164_56 rfl (by decide) ?_
    exact r_iretI d164_57 rfl (qv (by decide) k)
  by_cases z104 : c = 104
  · subst z104
    refine r_lookup 58 d164_1 (by decide) rfl rfl ?_
    refine r_iconst (v := 4) (pc' := 59) d164_58 rfl (by decide) ?_
    exact r_iretI d164_59 rfl (qv (by decide) k)
  by_cases z109 : c = 109
  · subst z109
    refine r_lookup 60 d164_1 (by decide) rfl rfl ?_
    refine r_iconst (v := 5) (pc' := 61) d164_60 rfl (by decide) ?_
    exact r_iretI d164_61 rfl (qv (by decide) k)
  refine r_lookup (off := 61) 62 d164_1 (by decide) (by show (if (100 : Int) = c.toInt then (55 : Int) else if (104 : Int) = c.toInt then 57 else if (107 : Int) = c.toInt then 53 else if (109 : Int) = c.toInt then 59 else if (119 : Int) = c.toInt then 51 else 61) = 61; rw [if_neg (fun e => z100 (Int32.toInt_inj.mp (e.symm.trans rfl))), if_neg (fun e => z104 (Int32.toInt_inj.mp (e.symm.trans rfl))), if_neg (fun e => z107 (Int32.toInt_inj.mp (e.symm.trans rfl))), if_neg (fun e => z109 (Int32.toInt_inj.mp (e.symm.trans rfl))), if_neg (fun e => z119 (Int32.toInt_inj.mp (e.symm.trans rfl)))]) rfl ?_
  refine r_ldc (pc' := 64) d164_62 rfl o164 kc12_53 ?_
  exact r_iretI d164_64 rfl (qv (by unfold srt; rw [if_neg z119, if_neg z107, if_neg z100, if_neg z104, if_neg z109]) k)
theorem c_sortOf {d : Nat} {h : Hp} {Q : Option AV → Hp → Prop} {c : Int32} (k : Q (some (vI (srt c))) h) : Spec d 26 [vI c] h Q := by
  refine spec_intro (by decide +kernel) rfl (Nat.le_of_ble_eq_true rfl) ?_
  refine r_iload_n (pc' := 1) d26_0 rfl rfl rfl ?_
  by_cases z119 : c = 119
  · subst z119
    refine r_lookup 52 d26_1 (by decide) rfl rfl ?_
    refine r_iconst (v := 1) (pc' := 53) d26_52 rfl (by decide) ?_
    exact r_iretI d26_53 rfl (qv (by decide) k)
  by_cases z107 : c = 107
  · subst z107
    refine r_lookup 54 d26_1 (by decide) rfl rfl ?_
    refine r_iconst (v := 2) (pc' := 55) d26_54 rfl (by decide) ?_
    exact r_iretI d26_55 rfl (qv (by decide) k)
  by_cases z100 : c = 100
  · subst z100
    refine r_lookup 56 d26_1 (by decide) rfl rfl ?_
    refine r_iconst (v := 3) (pc' := 57) d26_56 rfl (by decide) ?_
    exact r_iretI d26_57 rfl (qv (by decide) k)
  by_cases z104 : c = 104
  · subst z104
    refine r_lookup 58 d26_1 (by decide) rfl rfl ?_
    refine r_iconst (v := 4) (pc' := 59) d26_58 rfl (by decide) ?_
    exact r_iretI d26_59 rfl (qv (by decide) k)
  by_cases z109 : c = 109
  · subst z109
    refine r_lookup 60 d26_1 (by decide) rfl rfl ?_
    refine r_iconst (v := 5) (pc' := 61) d26_60 rfl (by decide) ?_
    exact r_iretI d26_61 rfl (qv (by decide) k)
  refine r_lookup (off := 61) 62 d26_1 (by decide) (by show (if (100 : Int) = c.toInt then (55 : Int) else if (104 : Int) = c.toInt then 57 else if (107 : Int) = c.toInt then 53 else if (109 : Int) = c.toInt then 59 else if (119 : Int) = c.toInt then 51 else 61) = 61; rw [if_neg (fun e => z100 (Int32.toInt_inj.mp (e.symm.trans rfl))), if_neg (fun e => z104 (Int32.toInt_inj.mp (e.symm.trans rfl))), if_neg (fun e => z107 (Int32.toInt_inj.mp (e.symm.trans rfl))), if_neg (fun e => z109 (Int32.toInt_inj.mp (e.symm.trans rfl))), if_neg (fun e => z119 (Int32.toInt_inj.mp (e.symm.trans rfl)))]) rfl ?_
  refine r_ldc (pc' := 64) d26_62 rfl o26 kc4_46 ?_
  exact r_iretI d26_64 rfl (qv (by unfold srt; rw [if_neg z119, if_neg z107, if_neg z100, if_neg z104, if_neg z109]) k)
theorem srt_l {c : Int32} (h : ¬ srt c = -1000000) : 97 ≤ c ∧ c ≤ 122 := by
  unfold srt at h
  by_cases z1 : c = 119
  · subst z1; decide
  by_cases z2 : c = 107
  · subst z2; decide
  by_cases z3 : c = 100
  · subst z3; decide
  by_cases z4 : c = 104
  · subst z4; decide
  by_cases z5 : c = 109
  · subst z5; decide
  rw [if_neg z1, if_neg z2, if_neg z3, if_neg z4, if_neg z5] at h
  exact absurd rfl h
theorem let_f {c : Int32} (h : 97 ≤ c ∧ c ≤ 122) : ¬ zF c := fun z => absurd (Int32.le_trans h.1 z.2) (by decide)
theorem let_0 {c : Int32} (h : 97 ≤ c ∧ c ≤ 122) : 0 ≤ c := Int32.le_trans (by decide) h.1
theorem let_k {c : Int32} (h : 97 ≤ c ∧ c ≤ 122) : zk c = 1 := if_pos h
theorem s_isSort {d : Nat} {h : Hp} {Q : Option AV → Hp → Prop} {n : Nat} {s : Nat → Int32} {σ : Nat × Nat} {v : Int32} (hN : hn h = 65) (hσ : okS n σ) (hv : vok (hi h 58) n σ v) (k : Q (some (vI (bI (σ.2 = 0 ∧ ¬ srt (zB (hi h 58) n σ.1) = -1000000)))) (PH h n s σ v)) : Spec (d + 1) 165 [vR (some 50)] (PH h n s σ v) Q := by
  unfold PH at k ⊢
  refine spec_intro (by decide +kernel) rfl (Nat.le_of_ble_eq_true rfl) ?_
  refine r_aload_n (pc' := 1) d165_0 rfl rfl rfl ?_
  refine r_getI (pc' := 4) d165_1 rfl o165 sf12_97_12 sh50 (pl hN rfl) ?_
  refine wp_v RH_g15 ?_
  refine r_if_ne 32 (pc' := 7) d165_4 rfl rfl (fun c4 => ?_) (fun c4 => ?_)
  · refine r_iconst (v := 0) (pc' := 33) d165_32 rfl (by decide) ?_
    exact r_iretZ0 d165_33 rfl (qv (b0 (fun z => c4 (by rw [z.1]; rfl))) k)
  · refine r_aload_n (pc' := 8) d165_7 rfl rfl rfl ?_
    refine r_getI (pc' := 11) d165_8 rfl o165 sf12_91_12 sh50 (pl hN rfl) ?_
    refine wp_v RH_g13 ?_
    refine r_iconst (v := 1) (pc' := 12) d165_11 rfl (by decide) ?_
    refine r_icmp_ne 32 (pc' := 15) d165_12 rfl rfl (fun c12 => ?_) (fun c12 => ?_)
    · refine r_iconst (v := 0) (pc' := 33) d165_32 rfl (by decide) ?_
      exact r_iretZ0 d165_33 rfl (qv (b0 (fun z => c12 ((tok_to (let_f (srt_l z.2)) (let_0 (srt_l z.2)) hv z.1 rfl).1.trans (let_k (srt_l z.2))))) k)
    · refine r_aload_n (pc' := 16) d165_15 rfl rfl rfl ?_
      refine r_aload_n (pc' := 17) d165_16 rfl rfl rfl ?_
      refine r_getI (pc' := 20) d165_17 rfl o165 sf12_94_12 sh50 (pl hN rfl) ?_
      refine wp_v RH_g14 ?_
      refine r_call (pc' := 23) [vR (some 50), vI _] [] d165_20 rfl o165 st12_110_12 (rcv1 sh50 (pl hN rfl)) rfl (by decide) ⟨rfl, rfl⟩ (Nat.le_of_ble_eq_true rfl) rfl (s_sortOf ?_)
      refine r_ldc (pc' := 25) d165_23 rfl o165 kc12_53 ?_
      refine r_icmp_eq 32 (pc' := 28) d165_25 rfl rfl (fun c25 => ?_) (fun c25 => ?_)
      · refine r_iconst (v := 0) (pc' := 33) d165_32 rfl (by decide) ?_
        exact r_iretZ0 d165_33 rfl (qv (b0 (fun z => z.2 (by have e := (tok_to (let_f (srt_l z.2)) (let_0 (srt_l z.2)) hv z.1 rfl).2; rw [← e]; exact c25))) k)
      · refine r_iconst (v := 1) (pc' := 29) d165_28 rfl (by decide) ?_
        refine r_goto 33 d165_29 rfl ?_
        exact r_iretZ1 d165_33 rfl (qv (b1 ⟨(nI_z hσ.2).mp c4, by rw [tok_of (Or.inl rfl) hv c12 rfl ((nI_z hσ.2).mp c4)]; exact c25⟩) k)
