/-! the reference reads a tape: the words, next (printed by wip/whole/m66.py) -/
def zB (T : Nat → Int32) (n k : Nat) : Int32 := if k < n then T k else -1
abbrev zF (c : Int32) : Prop := 48 ≤ c ∧ c ≤ 57
def zDF (T : Nat → Int32) (n : Nat) : Nat → Nat → Nat
  | 0, _ => 0
  | r + 1, k => if zF (zB T n k) then zDF T n r (k + 1) + 1 else 0
def zD (T : Nat → Int32) (n p : Nat) : Nat := zDF T n (n - p) p
def zVi (T : Nat → Int32) (n p i : Nat) : Int32 := if i < 2 then zB T n p - 48 else 10 * (zB T n p - 48) + zB T n (p + 1) - 48
def zV (T : Nat → Int32) (n p : Nat) : Int32 := zVi T n p (zD T n p)
def zk (c : Int32) : Int32 := if 97 ≤ c ∧ c ≤ 122 then 1 else if c = 44 ∨ c = 59 then 3 else 4
def zT (T : Nat → Int32) (n p : Nat) : Int32 := if n ≤ p then 0 else if zF (zB T n p) then (if zD T n p < 3 then 2 else 4) else zk (zB T n p)
def zC (T : Nat → Int32) (n p : Nat) : Nat := if n ≤ p then p else if zF (zB T n p) then p + zD T n p else p + 1
def zW (T : Nat → Int32) (n p : Nat) : Int32 := if zF (zB T n p) then zV T n p else zB T n p
def tOK (T : Nat → Int32) (n : Nat) : Prop := ∀ k, k < n → 0 ≤ T k ∧ T k ≤ 255
theorem zB_neg {T : Nat → Int32} {n p : Nat} (h : tOK T n) (hc : ¬ 0 ≤ zB T n p) : n ≤ p := by
  unfold zB at hc
  by_cases z : p < n
  · rw [if_pos z] at hc; exact absurd (h p z).1 hc
  · omega
theorem zB_pos {T : Nat → Int32} {n p : Nat} (hc : 0 ≤ zB T n p) : p < n := by
  unfold zB at hc
  by_cases z : p < n
  · exact z
  · rw [if_neg z] at hc; exact absurd hc (by decide)
theorem zF_pos {T : Nat → Int32} {n p : Nat} (hc : zF (zB T n p)) : p < n := zB_pos (Int32.le_trans (by decide) hc.1)
theorem zDF_le (T : Nat → Int32) (n : Nat) : ∀ r k, zDF T n r k ≤ r := by
  intro r
  induction r with
  | zero => intro k; exact Nat.le_refl _
  | succ r ih => intro k; unfold zDF; split <;> (first | exact Nat.succ_le_succ (ih _) | omega)
theorem zD_le (T : Nat → Int32) (n p : Nat) : zD T n p ≤ n - p := zDF_le _ _ _ _
theorem zD_s {T : Nat → Int32} {n p : Nat} (h : zF (zB T n p)) : zD T n p = zD T n (p + 1) + 1 := by
  have hp := zF_pos h
  unfold zD
  rw [show n - p = (n - (p + 1)) + 1 by omega, zDF, if_pos h]
theorem zD_0 {T : Nat → Int32} {n p : Nat} (h : ¬ zF (zB T n p)) : zD T n p = 0 := by
  unfold zD
  rcases hr : n - p with _ | r
  · rfl
  · rw [zDF, if_neg h]
theorem zC_le {T : Nat → Int32} {n p : Nat} (hp : p ≤ n) : zC T n p ≤ n := by
  unfold zC
  have := zD_le T n p
  split
  · exact hp
  · split <;> omega
def rV (f : Nat → Int32) (cu st tk vl G : Int32) : Nat → Int32 := upd (upd (upd (upd (upd f 11 cu) 12 st) 13 tk) 14 vl) 15 G
theorem rV_ap (f : Nat → Int32) (cu st tk vl G : Int32) (i : Nat) : rV f cu st tk vl G i = if i = 15 then G else if i = 14 then vl else if i = 13 then tk else if i = 12 then st else if i = 11 then cu else f i := rfl
theorem rV_11 (f : Nat → Int32) (cu st tk vl G x : Int32) : upd (rV f cu st tk vl G) 11 x = rV f x st tk vl G := by
  funext i; rw [upd_ap, rV_ap, rV_ap]; by_cases h : i = 11 <;> simp [h]
theorem rV_12 (f : Nat → Int32) (cu st tk vl G x : Int32) : upd (rV f cu st tk vl G) 12 x = rV f cu x tk vl G := by
  funext i; rw [upd_ap, rV_ap, rV_ap]; by_cases h : i = 12 <;> simp [h]
theorem rV_13 (f : Nat → Int32) (cu st tk vl G x : Int32) : upd (rV f cu st tk vl G) 13 x = rV f cu st x vl G := by
  funext i; rw [upd_ap, rV_ap, rV_ap]; by_cases h : i = 13 <;> simp [h]
theorem rV_14 (f : Nat → Int32) (cu st tk vl G x : Int32) : upd (rV f cu st tk vl G) 14 x = rV f cu st tk x G := by
  funext i; rw [upd_ap, rV_ap, rV_ap]; by_cases h : i = 14 <;> simp [h]
theorem rV_15 (f : Nat → Int32) (cu st tk vl G x : Int32) : upd (rV f cu st tk vl G) 15 x = rV f cu st tk vl x := by
  funext i; rw [upd_ap, rV_ap, rV_ap]; by_cases h : i = 15 <;> simp [h]
def RH (h : Hp) (s : Nat → Int32) (cu st tk vl G : Int32) : Hp := setw (setw h 59 s) 50 (rV (hi h 50) cu st tk vl G)
section RHs
variable {h : Hp} {s : Nat → Int32} {cu st tk vl G x : Int32}
theorem RH_50 : hi (RH h s cu st tk vl G) 50 = rV (hi h 50) cu st tk vl G := hi_setw_row _ _ _
theorem RH_59 : hi (RH h s cu st tk vl G) 59 = s := by unfold RH; rw [hi_setw_ne _ _ _ _ (by decide), hi_setw_row]
theorem RH_o {y : Nat} (h1 : y ≠ 50) (h2 : y ≠ 59) : hi (RH h s cu st tk vl G) y = hi h y := by unfold RH; rw [hi_setw_ne _ _ _ _ h1, hi_setw_ne _ _ _ _ h2]
theorem RH_g11 : hi (RH h s cu st tk vl G) 50 11 = cu := by rw [RH_50]; rfl
theorem RH_g12 : hi (RH h s cu st tk vl G) 50 12 = st := by rw [RH_50]; rfl
theorem RH_g13 : hi (RH h s cu st tk vl G) 50 13 = tk := by rw [RH_50]; rfl
theorem RH_g14 : hi (RH h s cu st tk vl G) 50 14 = vl := by rw [RH_50]; rfl
theorem RH_g15 : hi (RH h s cu st tk vl G) 50 15 = G := by rw [RH_50]; rfl
theorem RH_g10 : hi (RH h s cu st tk vl G) 50 10 = hi h 50 10 := by rw [RH_50]; rfl
theorem RH_s11 : seti (RH h s cu st tk vl G) 50 11 x = RH h s x st tk vl G := by unfold RH; rw [seti_setw, rV_11]
theorem RH_s12 : seti (RH h s cu st tk vl G) 50 12 x = RH h s cu x tk vl G := by unfold RH; rw [seti_setw, rV_12]
theorem RH_s13 : seti (RH h s cu st tk vl G) 50 13 x = RH h s cu st x vl G := by unfold RH; rw [seti_setw, rV_13]
theorem RH_s14 : seti (RH h s cu st tk vl G) 50 14 x = RH h s cu st tk x G := by unfold RH; rw [seti_setw, rV_14]
theorem RH_s15 : seti (RH h s cu st tk vl G) 50 15 x = RH h s cu st tk vl x := by unfold RH; rw [seti_setw, rV_15]
theorem RH_r {j : Nat} : seti (RH h s cu st tk vl G) 59 j x = RH h (upd s j x) cu st tk vl G := by
  unfold RH
  rw [setw_comm _ _ _ _ _ (by decide), seti_setw, setw_comm _ _ _ _ _ (by decide)]
end RHs
theorem nI_subI {a b : Nat} (h : b ≤ a) : nI a - nI b = nI (a - b) := by
  obtain ⟨c, rfl⟩ : ∃ c, a = b + c := ⟨a - b, by omega⟩
  rw [← nI_add, Nat.add_sub_cancel_left, Int32.add_comm, Int32.add_sub_cancel]
theorem s_byteAt {d : Nat} {h : Hp} {Q : Option AV → Hp → Prop} {n k : Nat} (hN : hn h = 65) (hM : RM h) (hn0 : hi h 50 10 = nI n) (hn1 : n ≤ 160) (hk : k ≤ 1000) (kk : Q (some (vI (zB (hi h 58) n k))) h) : Spec d 157 [vR (some 50), vI (nI k)] h Q := by
  refine spec_intro (by decide +kernel) rfl (Nat.le_of_ble_eq_true rfl) ?_
  refine r_iload_n (pc' := 1) d157_0 rfl rfl rfl ?_
  refine r_aload_n (pc' := 2) d157_1 rfl rfl rfl ?_
  refine r_getI (pc' := 5) d157_2 rfl o157 sf12_78_12 sh50 (pl hN rfl) ?_
  refine wp_v hn0 ?_
  refine r_icmp_ge 17 (pc' := 8) d157_5 rfl rfl (fun c5 => ?_) (fun c5 => ?_)
  · refine r_iconst (v := (-1)) (pc' := 18) d157_17 rfl (by decide) ?_
    exact r_iretI d157_18 rfl (qv (if_neg (by have := (nI_leI (a := n) (b := k) (by omega) (by omega)).mp c5; omega)) kk)
  · have hkn : k < n := by have := fun z => c5 ((nI_leI (a := n) (b := k) (by omega) (by omega)).mpr z); exact Nat.lt_of_not_le this
    refine r_aload_n (pc' := 9) d157_8 rfl rfl rfl ?_
    refine r_getS (pc' := 12) d157_9 rfl o157 sf12_32_12 sh50 (pl hN rfl) (rfm9 hM) ?_
    refine r_iload_n (pc' := 13) d157_12 rfl rfl rfl ?_
    refine r_ialdN (pc' := 14) (j := k) d157_13 rfl sh58 (pl hN rfl) rfl (by omega) (by decide) ?_
    refine r_goto 18 d157_14 rfl ?_
    exact r_iretI d157_18 rfl (qv (if_pos hkn) kk)
theorem s_byteR {d : Nat} {h : Hp} {Q : Option AV → Hp → Prop} {n k : Nat} {s : Nat → Int32} {cu st tk vl G : Int32} (hN : hn h = 65) (hM : RM h) (hn0 : hi h 50 10 = nI n) (hn1 : n ≤ 160) (hk : k ≤ 1000) (kk : Q (some (vI (zB (hi h 58) n k))) (RH h s cu st tk vl G)) : Spec d 157 [vR (some 50), vI (nI k)] (RH h s cu st tk vl G) Q := by
  refine s_byteAt (n := n) (h := RH h s cu st tk vl G) hN hM (RH_g10.trans hn0) hn1 hk ?_
  rw [RH_o (by decide) (by decide)]
  exact kk
theorem s_nextR {d : Nat} {h : Hp} {Q : Option AV → Hp → Prop} {n p : Nat} {s : Nat → Int32} {st tk vl G : Int32} (hN : hn h = 65) (hM : RM h) (hn0 : hi h 50 10 = nI n) (hn1 : n ≤ 160) (hT : tOK (hi h 58) n) (hp : p ≤ n) (kk : Q none (RH h s (nI (zC (hi h 58) n p)) (nI p) (zT (hi h 58) n p) (if n ≤ p then vl else zW (hi h 58) n p) G)) : Spec (d + 1) 158 [vR (some 50)] (RH h s (nI p) st tk vl G) Q := by
  refine spec_intro (by decide +kernel) rfl (Nat.le_of_ble_eq_true rfl) ?_
  refine r_aload_n (pc' := 1) d158_0 rfl rfl rfl ?_
  refine r_aload_n (pc' := 2) d158_1 rfl rfl rfl ?_
  refine r_getI (pc' := 5) d158_2 rfl o158 sf12_82_12 sh50 (pl hN rfl) ?_
  refine wp_v RH_g11 ?_
  refine r_putI (pc' := 8) d158_5 rfl o158 sp12_85_12 sh50 (fun w => absurd w (by decide)) (Or.inl rfl) (pl hN rfl) ?_
  rw [RH_s12]
  refine r_aload_n (pc' := 9) d158_8 rfl rfl rfl ?_
  refine r_aload_n (pc' := 10) d158_9 rfl rfl rfl ?_
  refine r_getI (pc' := 13) d158_10 rfl o158 sf12_82_12 sh50 (pl hN rfl) ?_
  refine wp_v RH_g11 ?_
  refine r_call (pc' := 16) [vR (some 50), vI _] [] d158_13 rfl o158 st12_88_12 (rcv1 sh50 (pl hN rfl)) rfl (by decide) ⟨rfl, rfl⟩ (Nat.le_of_ble_eq_true rfl) rfl (s_byteR hN hM hn0 hn1 (by omega) ?_)
  generalize hc : zB (hi h 58) n p = c
  refine r_istore_n (pc' := 17) (ls' := [(1, vI _), (0, vR (some 50))]) d158_16 rfl rfl (by decide) rfl ?_
  refine r_iload_n (pc' := 18) d158_17 rfl rfl rfl ?_
  refine r_if_ge 27 (pc' := 21) d158_18 rfl rfl (fun c18 => ?_) (fun c18 => ?_)
  · have hpn : p < n := zB_pos (by rw [hc]; exact c18)
    refine r_aload_n (pc' := 28) d158_27 rfl rfl rfl ?_
    refine r_dupR (pc' := 29) d158_28 rfl ?_
    refine r_getI (pc' := 32) d158_29 rfl o158 sf12_82_12 sh50 (pl hN rfl) ?_
    refine wp_v RH_g11 ?_
    refine r_iconst (v := 1) (pc' := 33) d158_32 rfl (by decide) ?_
    refine r_iadd (pc' := 34) d158_33 rfl ?_
    refine r_putI (pc' := 37) d158_34 rfl o158 sp12_82_12 sh50 (fun w => absurd w (by decide)) (Or.inl rfl) (pl hN rfl) ?_
    rw [RH_s11, nI_1]
    refine r_aload_n (pc' := 38) d158_37 rfl rfl rfl ?_
    refine r_iload_n (pc' := 39) d158_38 rfl rfl rfl ?_
    refine r_putI (pc' := 42) d158_39 rfl o158 sp12_94_12 sh50 (fun w => absurd w (by decide)) (Or.inl rfl) (pl hN rfl) ?_
    rw [RH_s14]
    have tail : ∀ t : Int32, t = zk c → wp (d + 1) 158 Q 0 0 75 [(1, vI c), (0, vR (some 50))] [vI t, vR (some 50)] (RH h s (nI (p + 1)) (nI p) tk c G) := by
      intro t ht
      refine r_putI (pc' := 78) d158_75 rfl o158 sp12_91_12 sh50 (fun w => absurd w (by decide)) (Or.inl rfl) (pl hN rfl) ?_
      rw [RH_s13]
      refine r_iload_n (pc' := 79) d158_78 rfl rfl rfl ?_
      refine r_bipush (v := 48) (pc' := 81) d158_79 rfl (by decide) ?_
      refine r_bipush (v := 57) (pc' := 83) d158_81 rfl (by decide) ?_
      refine r_call (pc' := 86) [vI _, vI _, vI _] [] d158_83 rfl o158 st12_59 rcv0 rfl (by decide) ⟨rfl, rfl⟩ (Nat.le_of_ble_eq_true rfl) rfl (s_in ?_)
      refine r_if_eqB 193 (pc' := 89) d158_86 rfl rfl (fun c86 => ?_) (fun c86 => ?_)
      · exact r_ret d158_193 rfl (by rw [if_neg (Nat.not_le.mpr hpn), show zT (hi h 58) n p = t by unfold zT; rw [if_neg (Nat.not_le.mpr hpn), hc, if_neg c86, ht], show zC (hi h 58) n p = p + 1 by unfold zC; rw [if_neg (Nat.not_le.mpr hpn), hc, if_neg c86], show zW (hi h 58) n p = c by unfold zW; rw [hc, if_neg c86]] at kk; exact kk)
      · have hfg : zF (zB (hi h 58) n p) := by rw [hc]; exact c86
        refine r_aload_n (pc' := 90) d158_89 rfl rfl rfl ?_
        refine r_iload_n (pc' := 91) d158_90 rfl rfl rfl ?_
        refine r_bipush (v := 48) (pc' := 93) d158_91 rfl (by decide) ?_
        refine r_isub (pc' := 94) d158_93 rfl ?_
        refine r_putI (pc' := 97) d158_94 rfl o158 sp12_94_12 sh50 (fun w => absurd w (by decide)) (Or.inl rfl) (pl hN rfl) ?_
        refine wp_pick (ls' := [(0, vR (some 50))]) [1] rfl ?_
        rw [RH_s14]
        have loop : ∀ (r k : Nat) (tk2 : Int32), n - k = r → p + 1 ≤ k → k ≤ n → zD (hi h 58) n p = (k - p) + zD (hi h 58) n k → wp (d + 1) 158 Q 0 0 97 [(0, vR (some 50))] [] (RH h s (nI k) (nI p) tk2 (zVi (hi h 58) n p (k - p)) G) := by
          intro r
          induction r with
          | zero =>
            intro k tk2 hk hk1 hkn hD
            refine r_aload_n (pc' := 98) d158_97 rfl rfl rfl ?_
            refine r_aload_n (pc' := 99) d158_98 rfl rfl rfl ?_
            refine r_getI (pc' := 102) d158_99 rfl o158 sf12_82_12 sh50 (pl hN rfl) ?_
            refine wp_v RH_g11 ?_
            refine r_call (pc' := 105) [vR (some 50), vI _] [] d158_102 rfl o158 st12_88_12 (rcv1 sh50 (pl hN rfl)) rfl (by decide) ⟨rfl, rfl⟩ (Nat.le_of_ble_eq_true rfl) rfl (s_byteR hN hM hn0 hn1 (by omega) ?_)
            refine r_bipush (v := 48) (pc' := 107) d158_105 rfl (by decide) ?_
            refine r_bipush (v := 57) (pc' := 109) d158_107 rfl (by decide) ?_
            refine r_call (pc' := 112) [vI _, vI _, vI _] [] d158_109 rfl o158 st12_59 rcv0 rfl (by decide) ⟨rfl, rfl⟩ (Nat.le_of_ble_eq_true rfl) rfl (s_in ?_)
            refine r_if_eqB 171 (pc' := 115) d158_112 rfl rfl (fun c112 => ?_) (fun c112 => absurd c112 (fun z => by have := zF_pos z; omega))
            have hDk : zD (hi h 58) n p = k - p := by rw [hD, zD_0 c112]; rfl
            refine r_aload_n (pc' := 172) d158_171 rfl rfl rfl ?_
            refine r_aload_n (pc' := 173) d158_172 rfl rfl rfl ?_
            refine r_getI (pc' := 176) d158_173 rfl o158 sf12_82_12 sh50 (pl hN rfl) ?_
            refine wp_v RH_g11 ?_
            refine r_aload_n (pc' := 177) d158_176 rfl rfl rfl ?_
            refine r_getI (pc' := 180) d158_177 rfl o158 sf12_85_12 sh50 (pl hN rfl) ?_
            refine wp_v RH_g12 ?_
            refine r_isub (pc' := 181) d158_180 rfl ?_
            rw [nI_subI (by omega)]
            refine r_iconst (v := 3) (pc' := 182) d158_181 rfl (by decide) ?_
            refine r_icmp_ge 189 (pc' := 185) d158_182 rfl rfl (fun c182 => ?_) (fun c182 => ?_)
            · refine r_iconst (v := 4) (pc' := 190) d158_189 rfl (by decide) ?_
              refine r_putI (pc' := 193) d158_190 rfl o158 sp12_91_12 sh50 (fun w => absurd w (by decide)) (Or.inl rfl) (pl hN rfl) ?_
              rw [RH_s13]
              exact r_ret d158_193 rfl (by rw [if_neg (Nat.not_le.mpr hpn), show zT (hi h 58) n p = 4 by unfold zT; rw [if_neg (Nat.not_le.mpr hpn), if_pos hfg, hDk, if_neg (fun z => absurd c182 (nI_ge (a := k - p) (b := 3) z (by decide)))], show zC (hi h 58) n p = k by unfold zC; rw [if_neg (Nat.not_le.mpr hpn), if_pos hfg, hDk]; omega, show zW (hi h 58) n p = zVi (hi h 58) n p (k - p) by unfold zW zV; rw [if_pos hfg, hDk]] at kk; exact kk)
            · refine r_iconst (v := 2) (pc' := 186) d158_185 rfl (by decide) ?_
              refine r_goto 190 d158_186 rfl ?_
              refine r_putI (pc' := 193) d158_190 rfl o158 sp12_91_12 sh50 (fun w => absurd w (by decide)) (Or.inl rfl) (pl hN rfl) ?_
              rw [RH_s13]
              exact r_ret d158_193 rfl (by rw [if_neg (Nat.not_le.mpr hpn), show zT (hi h 58) n p = 2 by unfold zT; rw [if_neg (Nat.not_le.mpr hpn), if_pos hfg, hDk, if_pos (Nat.lt_of_not_le (fun z => c182 (nI_le (a := 3) (b := k - p) z (by omega))))], show zC (hi h 58) n p = k by unfold zC; rw [if_neg (Nat.not_le.mpr hpn), if_pos hfg, hDk]; omega, show zW (hi h 58) n p = zVi (hi h 58) n p (k - p) by unfold zW zV; rw [if_pos hfg, hDk]] at kk; exact kk)
          | succ r ih =>
            intro k tk2 hk hk1 hkn hD
            refine r_aload_n (pc' := 98) d158_97 rfl rfl rfl ?_
            refine r_aload_n (pc' := 99) d158_98 rfl rfl rfl ?_
            refine r_getI (pc' := 102) d158_99 rfl o158 sf12_82_12 sh50 (pl hN rfl) ?_
            refine wp_v RH_g11 ?_
            refine r_call (pc' := 105) [vR (some 50), vI _] [] d158_102 rfl o158 st12_88_12 (rcv1 sh50 (pl hN rfl)) rfl (by decide) ⟨rfl, rfl⟩ (Nat.le_of_ble_eq_true rfl) rfl (s_byteR hN hM hn0 hn1 (by omega) ?_)
            refine r_bipush (v := 48) (pc' := 107) d158_105 rfl (by decide) ?_
            refine r_bipush (v := 57) (pc' := 109) d158_107 rfl (by decide) ?_
            refine r_call (pc' := 112) [vI _, vI _, vI _] [] d158_109 rfl o158 st12_59 rcv0 rfl (by decide) ⟨rfl, rfl⟩ (Nat.le_of_ble_eq_true rfl) rfl (s_in ?_)
            refine r_if_eqB 171 (pc' := 115) d158_112 rfl rfl (fun c112 => ?_) (fun c112 => ?_)
            · have hDk : zD (hi h 58) n p = k - p := by rw [hD, zD_0 c112]; rfl
              refine r_aload_n (pc' := 172) d158_171 rfl rfl rfl ?_
              refine r_aload_n (pc' := 173) d158_172 rfl rfl rfl ?_
              refine r_getI (pc' := 176) d158_173 rfl o158 sf12_82_12 sh50 (pl hN rfl) ?_
              refine wp_v RH_g11 ?_
              refine r_aload_n (pc' := 177) d158_176 rfl rfl rfl ?_
              refine r_getI (pc' := 180) d158_177 rfl o158 sf12_85_12 sh50 (pl hN rfl) ?_
              refine wp_v RH_g12 ?_
              refine r_isub (pc' := 181) d158_180 rfl ?_
              rw [nI_subI (by omega)]
              refine r_iconst (v := 3) (pc' := 182) d158_181 rfl (by decide) ?_
              refine r_icmp_ge 189 (pc' := 185) d158_182 rfl rfl (fun c182 => ?_) (fun c182 => ?_)
              · refine r_iconst (v := 4) (pc' := 190) d158_189 rfl (by decide) ?_
                refine r_putI (pc' := 193) d158_190 rfl o158 sp12_91_12 sh50 (fun w => absurd w (by decide)) (Or.inl rfl) (pl hN rfl) ?_
                rw [RH_s13]
                exact r_ret d158_193 rfl (by rw [if_neg (Nat.not_le.mpr hpn), show zT (hi h 58) n p = 4 by unfold zT; rw [if_neg (Nat.not_le.mpr hpn), if_pos hfg, hDk, if_neg (fun z => absurd c182 (nI_ge (a := k - p) (b := 3) z (by decide)))], show zC (hi h 58) n p = k by unfold zC; rw [if_neg (Nat.not_le.mpr hpn), if_pos hfg, hDk]; omega, show zW (hi h 58) n p = zVi (hi h 58) n p (k - p) by unfold zW zV; rw [if_pos hfg, hDk]] at kk; exact kk)
              · refine r_iconst (v := 2) (pc' := 186) d158_185 rfl (by decide) ?_
                refine r_goto 190 d158_186 rfl ?_
                refine r_putI (pc' := 193) d158_190 rfl o158 sp12_91_12 sh50 (fun w => absurd w (by decide)) (Or.inl rfl) (pl hN rfl) ?_
                rw [RH_s13]
                exact r_ret d158_193 rfl (by rw [if_neg (Nat.not_le.mpr hpn), show zT (hi h 58) n p = 2 by unfold zT; rw [if_neg (Nat.not_le.mpr hpn), if_pos hfg, hDk, if_pos (Nat.lt_of_not_le (fun z => c182 (nI_le (a := 3) (b := k - p) z (by omega))))], show zC (hi h 58) n p = k by unfold zC; rw [if_neg (Nat.not_le.mpr hpn), if_pos hfg, hDk]; omega, show zW (hi h 58) n p = zVi (hi h 58) n p (k - p) by unfold zW zV; rw [if_pos hfg, hDk]] at kk; exact kk)
            · refine r_aload_n (pc' := 116) d158_115 rfl rfl rfl ?_
              refine r_aload_n (pc' := 117) d158_116 rfl rfl rfl ?_
              refine r_getI (pc' := 120) d158_117 rfl o158 sf12_82_12 sh50 (pl hN rfl) ?_
              refine wp_v RH_g11 ?_
              refine r_aload_n (pc' := 121) d158_120 rfl rfl rfl ?_
              refine r_getI (pc' := 124) d158_121 rfl o158 sf12_85_12 sh50 (pl hN rfl) ?_
              refine wp_v RH_g12 ?_
              refine r_isub (pc' := 125) d158_124 rfl ?_
              rw [nI_subI (by omega)]
              refine r_iconst (v := 2) (pc' := 126) d158_125 rfl (by decide) ?_
              refine r_icmp_ge 151 (pc' := 129) d158_126 rfl rfl (fun c126 => ?_) (fun c126 => ?_)
              · refine r_aload_n (pc' := 152) d158_151 rfl rfl rfl ?_
                refine r_getI (pc' := 155) d158_152 rfl o158 sf12_94_12 sh50 (pl hN rfl) ?_
                refine wp_v RH_g14 ?_
                refine r_putI (pc' := 158) d158_155 rfl o158 sp12_94_12 sh50 (fun w => absurd w (by decide)) (Or.inl rfl) (pl hN rfl) ?_
                rw [RH_s14]
                refine r_aload_n (pc' := 159) d158_158 rfl rfl rfl ?_
                refine r_dupR (pc' := 160) d158_159 rfl ?_
                refine r_getI (pc' := 163) d158_160 rfl o158 sf12_82_12 sh50 (pl hN rfl) ?_
                refine wp_v RH_g11 ?_
                refine r_iconst (v := 1) (pc' := 164) d158_163 rfl (by decide) ?_
                refine r_iadd (pc' := 165) d158_164 rfl ?_
                refine r_putI (pc' := 168) d158_165 rfl o158 sp12_82_12 sh50 (fun w => absurd w (by decide)) (Or.inl rfl) (pl hN rfl) ?_
                refine r_goto 97 d158_168 rfl ?_
                rw [RH_s11, nI_1]
                have z := ih (k + 1) tk2 (by omega) (by omega) (by omega) (by rw [hD, zD_s c112]; omega)
                rw [show zVi (hi h 58) n p (k + 1 - p) = zVi (hi h 58) n p (k - p) by unfold zVi; rw [if_neg (by omega), if_neg (fun z => absurd c126 (nI_ge (a := k - p) (b := 2) z (by decide)))]] at z
                exact z
              · refine r_bipush (v := 10) (pc' := 131) d158_129 rfl (by decide) ?_
                refine r_aload_n (pc' := 132) d158_131 rfl rfl rfl ?_
                refine r_getI (pc' := 135) d158_132 rfl o158 sf12_94_12 sh50 (pl hN rfl) ?_
                refine wp_v RH_g14 ?_
                refine r_imul (pc' := 136) d158_135 rfl ?_
                refine r_aload_n (pc' := 137) d158_136 rfl rfl rfl ?_
                refine r_aload_n (pc' := 138) d158_137 rfl rfl rfl ?_
                refine r_getI (pc' := 141) d158_138 rfl o158 sf12_82_12 sh50 (pl hN rfl) ?_
                refine wp_v RH_g11 ?_
                refine r_call (pc' := 144) [vR (some 50), vI _] [vI _, vR (some 50)] d158_141 rfl o158 st12_88_12 (rcv1 sh50 (pl hN rfl)) rfl (by decide) ⟨rfl, rfl⟩ (Nat.le_of_ble_eq_true rfl) rfl (s_byteR hN hM hn0 hn1 (by omega) ?_)
                refine r_iadd (pc' := 145) d158_144 rfl ?_
                refine r_bipush (v := 48) (pc' := 147) d158_145 rfl (by decide) ?_
                refine r_isub (pc' := 148) d158_147 rfl ?_
                refine r_goto 155 d158_148 rfl ?_
                refine r_putI (pc' := 158) d158_155 rfl o158 sp12_94_12 sh50 (fun w => absurd w (by decide)) (Or.inl rfl) (pl hN rfl) ?_
                rw [RH_s14]
                refine r_aload_n (pc' := 159) d158_158 rfl rfl rfl ?_
                refine r_dupR (pc' := 160) d158_159 rfl ?_
                refine r_getI (pc' := 163) d158_160 rfl o158 sf12_82_12 sh50 (pl hN rfl) ?_
                refine wp_v RH_g11 ?_
                refine r_iconst (v := 1) (pc' := 164) d158_163 rfl (by decide) ?_
                refine r_iadd (pc' := 165) d158_164 rfl ?_
                refine r_putI (pc' := 168) d158_165 rfl o158 sp12_82_12 sh50 (fun w => absurd w (by decide)) (Or.inl rfl) (pl hN rfl) ?_
                refine r_goto 97 d158_168 rfl ?_
                rw [RH_s11, nI_1]
                have z := ih (k + 1) tk2 (by omega) (by omega) (by omega) (by rw [hD, zD_s c112]; omega)
                have hk2 : k - p < 2 := Nat.lt_of_not_le (fun z => c126 (nI_le (a := 2) (b := k - p) z (by omega)))
                rw [show zVi (hi h 58) n p (k + 1 - p) = 10 * zVi (hi h 58) n p (k - p) + zB (hi h 58) n k - 48 by unfold zVi; rw [if_neg (by omega), if_pos hk2, show k = p + 1 by omega]] at z
                exact z
        have z := loop (n - (p + 1)) (p + 1) t rfl (Nat.le_refl _) hpn (by rw [zD_s hfg]; omega)
        rw [show zVi (hi h 58) n p (p + 1 - p) = c - 48 by unfold zVi; rw [if_pos (by omega), hc]] at z
        exact z
    refine r_aload_n (pc' := 43) d158_42 rfl rfl rfl ?_
    refine r_iload_n (pc' := 44) d158_43 rfl rfl rfl ?_
    refine r_bipush (v := 97) (pc' := 46) d158_44 rfl (by decide) ?_
    refine r_bipush (v := 122) (pc' := 48) d158_46 rfl (by decide) ?_
    refine r_call (pc' := 51) [vI _, vI _, vI _] [vR (some 50)] d158_48 rfl o158 st12_59 rcv0 rfl (by decide) ⟨rfl, rfl⟩ (Nat.le_of_ble_eq_true rfl) rfl (s_in ?_)
    refine r_if_eqB 58 (pc' := 54) d158_51 rfl rfl (fun c51 => ?_) (fun c51 => ?_)
    · refine r_iload_n (pc' := 59) d158_58 rfl rfl rfl ?_
      refine r_bipush (v := 44) (pc' := 61) d158_59 rfl (by decide) ?_
      refine r_icmp_eq 70 (pc' := 64) d158_61 rfl rfl (fun c61 => ?_) (fun c61 => ?_)
      · refine r_iconst (v := 3) (pc' := 71) d158_70 rfl (by decide) ?_
        refine r_goto 75 d158_71 rfl ?_
        exact tail _ (by unfold zk; rw [if_neg c51, if_pos (Or.inl c61)])
      · refine r_iload_n (pc' := 65) d158_64 rfl rfl rfl ?_
        refine r_bipush (v := 59) (pc' := 67) d158_65 rfl (by decide) ?_
        refine r_icmp_ne 74 (pc' := 70) d158_67 rfl rfl (fun c67 => ?_) (fun c67 => ?_)
        · refine r_iconst (v := 4) (pc' := 75) d158_74 rfl (by decide) ?_
          exact tail _ (by unfold zk; rw [if_neg c51, if_neg (fun z => z.elim c61 c67)])
        · refine r_iconst (v := 3) (pc' := 71) d158_70 rfl (by decide) ?_
          refine r_goto 75 d158_71 rfl ?_
          exact tail _ (by unfold zk; rw [if_neg c51, if_pos (Or.inr c67)])
    · refine r_iconst (v := 1) (pc' := 55) d158_54 rfl (by decide) ?_
      refine r_goto 75 d158_55 rfl ?_
      exact tail _ (by unfold zk; rw [if_pos c51])
  · refine r_aload_n (pc' := 22) d158_21 rfl rfl rfl ?_
    refine r_iconst (v := 0) (pc' := 23) d158_22 rfl (by decide) ?_
    refine r_putI (pc' := 26) d158_23 rfl o158 sp12_91_12 sh50 (fun w => absurd w (by decide)) (Or.inl rfl) (pl hN rfl) ?_
    exact r_ret d158_26 rfl (by have hpn : n ≤ p := zB_neg hT (by rw [hc]; exact c18); rw [if_pos hpn, show zT (hi h 58) n p = 0 by unfold zT; rw [if_pos hpn], show zC (hi h 58) n p = p by unfold zC; rw [if_pos hpn]] at kk; exact qh RH_s13.symm kk)
