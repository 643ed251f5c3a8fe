/-! the reference: foretold (printed by wip/whole/m43.py) -/
abbrev jk (h : Hp) (x y : Nat → Int32) : Hp := setw (setw h 61 y) 60 x
abbrev fw (h : Hp) (y x s : Nat → Int32) : Hp := setw (setw (setw h 61 y) 60 x) 51 s
def hold66 (s f : Nat → Int32) : Nat → Int32 := mix (fun i => s (19 + i)) f 0 66
def Outs (s' s : Nat → Int32) : Prop := ∀ i, (i < 19 ∨ 85 ≤ i) → s' i = s i
theorem Outs.rf (s : Nat → Int32) : Outs s s := fun _ _ => rfl
theorem Outs.upd {s' s : Nat → Int32} (h : Outs s' s) (j : Nat) (v : Int32) (h1 : 19 ≤ j) (h2 : j < 85) : Outs (upd s' j v) s := fun i hi0 => by rw [upd_ne _ _ _ (by omega)]; exact h i hi0
theorem Outs.gm {s' s : Nat → Int32} {m L : Nat} (h : Outs s' s) (hm : m ≤ 6) (hL : L ≤ 8) (k : Nat) : Outs (gmN s' m L k) s := by
  intro i hi0
  rcases hi0 with q | q
  · rw [gmN_lo _ _ _ _ _ (by omega) (by omega) (by omega) hL]; exact h i (Or.inl q)
  · rw [gmN_hi _ _ _ _ _ hm hL (by omega)]; exact h i (Or.inr q)
theorem bk66 {s s' f : Nat → Int32} (h : Outs s' s) : mix (fun i => hold66 s f (i - 19)) s' 19 66 = s := by
  funext i
  unfold mix hold66 mix
  by_cases h1 : 19 ≤ i ∧ i < 19 + 66
  · rw [if_pos h1]
    dsimp only
    rw [if_pos (by omega), show 19 + (i - 19) = i by omega]
  · rw [if_neg h1]
    exact h i (by omega)
theorem fw_0 (h : Hp) (y : Nat → Int32) : setw h 61 y = fw h y (hi h 60) (hi h 51) := by
  have e1 := setw_self (setw h 61 y) 60
  have e2 := setw_self (setw (setw h 61 y) 60 (hi h 60)) 51
  exact (e2.trans e1).symm
theorem fw_min (h : Hp) (y x s x' s' : Nat → Int32) : setw (setw (fw h y x s) 60 x') 51 s' = fw h y x' s' := by
  rw [setw_comm _ 51 60 _ _ (by decide), setw_w, setw_w]
theorem fw_s (h : Hp) (y x s : Nat → Int32) (j : Nat) (v : Int32) : seti (fw h y x s) 51 j v = fw h y x (upd s j v) := seti_setw _ _ _ _ _
theorem fw_w (h : Hp) (y x s s' : Nat → Int32) : setw (fw h y x s) 51 s' = fw h y x s' := setw_w _ _ _ _
theorem fw_end (h : Hp) (y x : Nat → Int32) : fw h y x (hi h 51) = jk h x y := setw_self (setw (setw h 61 y) 60 x) 51
theorem jk_jk (h : Hp) (x y x' y' : Nat → Int32) : jk (jk h x y) x' y' = jk h x' y' := by
  unfold jk
  rw [setw_comm _ 60 61 _ _ (by decide), setw_w, setw_w]
theorem jk_0 (h : Hp) : jk h (hi h 60) (hi h 61) = h := by
  have e1 := setw_self h 61
  have e2 := setw_self (setw h 61 (hi h 61)) 60
  exact e2.trans e1
theorem s_holdsF {d : Nat} {h : Hp} {Q : Option AV → Hp → Prop} (hN : hn h = 65) (hM : RM h) (kk : Q none (fw h (hold66 (hi h 51) (hi h 61)) (hi h 60) (hi h 51))) : Spec d 206 [vR (some 50)] h Q := s_holds hN hM (qh (fw_0 h _).symm kk)
theorem s_backF {d : Nat} {h : Hp} {Q : Option AV → Hp → Prop} {x s' : Nat → Int32} (hN : hn h = 65) (hM : RM h) (ho : Outs s' (hi h 51)) (kk : Q none (jk h x (hold66 (hi h 51) (hi h 61)))) : Spec d 207 [vR (some 50)] (fw h (hold66 (hi h 51) (hi h 61)) x s') Q :=
  s_putsBack hN hM (qh (by rw [fw_w, show mix (fun i => hi (fw h (hold66 (hi h 51) (hi h 61)) x s') 61 (i - 19)) (hi (fw h (hold66 (hi h 51) (hi h 61)) x s') 51) 19 66 = hi h 51 from bk66 ho, fw_end]) kk)
theorem nI_none {k : Nat} (hk : k < 2 ^ 31) : ¬ nI k = (-1000000 : Int32) := fun e => by
  have h1 := nI_pos' hk
  rw [e] at h1
  exact absurd h1 (by decide)
theorem Cnt.out {s' s : Nat → Int32} {m L e : Nat} (h : Cnt s m L e) (h1 : s' 1 = s 1) (h2 : s' 20 = s 20) (h3 : s' 2 = s 2) : Cnt s' m L e := ⟨h1.trans h.1, h.2.1, h2.trans h.2.2.1, h.2.2.2.1, h3.trans h.2.2.2.2.1, h.2.2.2.2.2⟩
def rdF (s : Nat → Int32) (m L t : Nat) : Nat → Nat → Int32
  | 0, _ => -1000000
  | r + 1, n => if wellI (gmN s m L n) t then nI n else rdF s m L t r (n + 1)
def rdI (s : Nat → Int32) (m L t : Nat) : Int32 := rdF s m L t 61 0
theorem s_readyIn {d : Nat} {h : Hp} {Q : Option AV → Hp → Prop} {m L e : Nat} {t : Nat} {cell : Int32} (hN : hn h = 65) (hM : RM h) (hc : Cnt (hi h 51) m L e) (hsk : ¬ hi h 51 3 = 0) (ht : t < 6) (kk : ∀ x y, Q (some (vI (rdI (upd (hi h 51) (45 + t) cell) m L t))) (jk h x y)) : Spec (d + 4) 211 [vR (some 50), vI (nI t), vI cell] h Q := by
  obtain ⟨hc1, hc2, hc3, hc4, hc5, hc6⟩ := id hc
  refine spec_intro (by decide +kernel) rfl (Nat.le_of_ble_eq_true rfl) ?_
  refine r_aload_n (pc' := 1) d211_0 rfl rfl rfl ?_
  refine r_call (pc' := 4) [vR (some 50)] [] d211_1 rfl o211 st12_217_12 (rcv1 sh50 (pl hN rfl)) rfl (by decide) ⟨rfl, rfl⟩ (Nat.le_of_ble_eq_true rfl) rfl (s_holdsF hN hM ?_)
  refine r_aload_n (pc' := 5) d211_4 rfl rfl rfl ?_
  refine r_getS (pc' := 8) d211_5 rfl o211 sf12_7_12 sh50 (pl hN rfl) (rfm0 hM) ?_
  refine r_bipush (v := 45) (pc' := 10) d211_8 rfl (by decide) ?_
  refine r_iload_n (pc' := 11) d211_10 rfl rfl rfl ?_
  refine r_iadd (pc' := 12) d211_11 rfl ?_
  refine r_iload_n (pc' := 13) d211_12 rfl rfl rfl ?_
  refine r_iastN (pc' := 14) (j := (45 + t)) d211_13 rfl sh51 (pl hN rfl) (by simp only [lit, nI_add, pk_mul]) (by omega) (by decide) ?_
  refine r_ldc (pc' := 16) d211_14 rfl o211 kc12_53 ?_
  refine r_istore_n (pc' := 17) (ls' := [(3, vI _), (0, vR (some 50)), (1, vI _), (2, vI _)]) d211_16 rfl rfl (by decide) rfl ?_
  refine r_iconst (v := 0) (pc' := 18) d211_17 rfl (by decide) ?_
  refine r_istore (pc' := 20) (ls' := [(4, vI _), (3, vI _), (0, vR (some 50)), (1, vI _), (2, vI _)]) d211_18 rfl (by decide) rfl ?_
  refine wp_pick (ls' := [(0, vR (some 50)), (1, vI _), (2, vI _), (3, vI _), (4, vI _)]) [2, 3, 4, 1, 0] rfl ?_
  refine wp_heap (h' := fw h (hold66 (hi h 51) (hi h 61)) (hi h 60) (upd (hi h 51) (45 + t) cell)) (fw_s _ _ _ _ _ _) ?_
  have loop : ∀ (r k : Nat) (x : Nat → Int32), k + r = 61 → rdI (upd (hi h 51) (45 + t) cell) m L t = rdF (upd (hi h 51) (45 + t) cell) m L t r k → wp (d + 4) 211 Q 0 0 20 [(0, vR (some 50)), (1, vI (nI t)), (2, vI cell), (3, vI (-1000000)), (4, vI (nI k))] [] (fw h (hold66 (hi h 51) (hi h 61)) x (gmN (upd (hi h 51) (45 + t) cell) m L k)) := by
    intro r
    induction r with
    | zero =>
      intro k x hk hv
      obtain rfl : k = 61 := by omega
      refine r_iload (pc' := 22) d211_20 rfl rfl ?_
      refine r_bipush (v := 60) (pc' := 24) d211_22 rfl (by decide) ?_
      refine r_icmp_gt 59 (pc' := 27) d211_24 rfl rfl (fun c24 => ?_) (fun c24 => absurd (by decide) c24)
      refine r_aload_n (pc' := 60) d211_59 rfl rfl rfl ?_
      refine r_call (pc' := 63) [vR (some 50)] [] d211_60 rfl o211 st12_226_12 (rcv1 sh50 (pl hN rfl)) rfl (by decide) ⟨rfl, rfl⟩ (Nat.le_of_ble_eq_true rfl) rfl (s_backF hN hM (((Outs.rf (hi h 51)).upd (45 + t) cell (by omega) (by omega)).gm hc2 hc4 61) ?_)
      refine r_iload_n (pc' := 64) d211_63 rfl rfl rfl ?_
      exact r_iretI d211_64 rfl (qv hv (kk _ _))
    | succ r ih =>
      intro k x hk hv
      refine r_iload (pc' := 22) d211_20 rfl rfl ?_
      refine r_bipush (v := 60) (pc' := 24) d211_22 rfl (by decide) ?_
      refine r_icmp_gt 59 (pc' := 27) d211_24 rfl rfl (fun c24 => absurd c24 (by have z := nI_nlt (a := 60) (b := k) (by omega) (by decide); exact z)) (fun c24 => ?_)
      refine r_iload_n (pc' := 28) d211_27 rfl rfl rfl ?_
      refine r_ldc (pc' := 30) d211_28 rfl o211 kc12_53 ?_
      refine r_icmp_ne 59 (pc' := 33) d211_30 rfl rfl (fun c30 => absurd rfl c30) (fun c30 => ?_)
      refine r_aload_n (pc' := 34) d211_33 rfl rfl rfl ?_
      refine r_iload_n (pc' := 35) d211_34 rfl rfl rfl ?_
      refine r_call (pc' := 38) [vR (some 50), vI _] [] d211_35 rfl o211 st12_210_12 (rcv1 sh50 (pl hN rfl)) rfl (by decide) ⟨rfl, rfl⟩ (Nat.le_of_ble_eq_true rfl) rfl (s_isWell hN hM (by omega) ?_)
      refine r_if_eqB 46 (pc' := 41) d211_38 rfl rfl (fun c38 => ?_) (fun c38 => ?_)
      · refine r_ldc (pc' := 48) d211_46 rfl o211 kc12_53 ?_
        refine r_istore_n (pc' := 49) (ls' := [(3, vI _), (0, vR (some 50)), (1, vI _), (2, vI _), (4, vI _)]) d211_48 rfl rfl (by decide) rfl ?_
        refine r_aload_n (pc' := 50) d211_49 rfl rfl rfl ?_
        refine r_call (pc' := 53) [vR (some 50)] [] d211_50 rfl o211 st12_191_12 (rcv1 sh50 (pl hN rfl)) rfl (by decide) ⟨rfl, rfl⟩ (Nat.le_of_ble_eq_true rfl) rfl (s_goMinute hN hM ((hc.out (s' := (upd (hi h 51) (45 + t) cell)) (upd_ne _ _ _ (by omega)) (upd_ne _ _ _ (by omega)) (upd_ne _ _ _ (by omega))).gm k) (show ¬ gmN (upd (hi h 51) (45 + t) cell) m L k 3 = 0 by rw [gmN_lo _ _ _ _ _ (by decide) (by decide) (by decide) hc4, upd_ne _ _ _ (by omega)]; exact hsk) (fun x2 => ?_))
        refine r_iinc (v := _ + 1) (pc' := 56) (ls' := [(4, vI _), (3, vI _), (0, vR (some 50)), (1, vI _), (2, vI _)]) d211_53 rfl rfl rfl (by decide) rfl ?_
        refine r_goto 20 d211_56 rfl ?_
        refine wp_pick (ls' := [(0, vR (some 50)), (1, vI _), (2, vI _), (3, vI _), (4, vI _)]) [2, 3, 4, 1, 0] rfl ?_
        refine wp_heap (h' := fw h (hold66 (hi h 51) (hi h 61)) x2 (gmN (upd (hi h 51) (45 + t) cell) m L (k + 1))) (fw_min _ _ _ _ _ _) ?_
        rw [nI_1]
        exact ih (k + 1) x2 (by omega) (by rw [hv, rdF]; exact if_neg c38)
      · refine r_iload (pc' := 43) d211_41 rfl rfl ?_
        refine r_goto 48 d211_43 rfl ?_
        refine r_istore_n (pc' := 49) (ls' := [(3, vI _), (0, vR (some 50)), (1, vI _), (2, vI _), (4, vI _)]) d211_48 rfl rfl (by decide) rfl ?_
        refine r_aload_n (pc' := 50) d211_49 rfl rfl rfl ?_
        refine r_call (pc' := 53) [vR (some 50)] [] d211_50 rfl o211 st12_191_12 (rcv1 sh50 (pl hN rfl)) rfl (by decide) ⟨rfl, rfl⟩ (Nat.le_of_ble_eq_true rfl) rfl (s_goMinute hN hM ((hc.out (s' := (upd (hi h 51) (45 + t) cell)) (upd_ne _ _ _ (by omega)) (upd_ne _ _ _ (by omega)) (upd_ne _ _ _ (by omega))).gm k) (show ¬ gmN (upd (hi h 51) (45 + t) cell) m L k 3 = 0 by rw [gmN_lo _ _ _ _ _ (by decide) (by decide) (by decide) hc4, upd_ne _ _ _ (by omega)]; exact hsk) (fun x2 => ?_))
        refine r_iinc (v := _ + 1) (pc' := 56) (ls' := [(4, vI _), (3, vI _), (0, vR (some 50)), (1, vI _), (2, vI _)]) d211_53 rfl rfl rfl (by decide) rfl ?_
        refine r_goto 20 d211_56 rfl ?_
        refine wp_pick (ls' := [(0, vR (some 50)), (1, vI _), (2, vI _), (3, vI _), (4, vI _)]) [2, 3, 4, 1, 0] rfl ?_
        refine wp_heap (h' := fw h (hold66 (hi h 51) (hi h 61)) x2 (gmN (upd (hi h 51) (45 + t) cell) m L (k + 1))) (fw_min _ _ _ _ _ _) ?_
        rw [nI_1]
        refine r_iload (pc' := 22) d211_20 rfl rfl ?_
        refine r_bipush (v := 60) (pc' := 24) d211_22 rfl (by decide) ?_
        refine r_icmp_gt 59 (pc' := 27) d211_24 rfl rfl (fun c24 => ?_) (fun c24 => ?_)
        · refine r_aload_n (pc' := 60) d211_59 rfl rfl rfl ?_
          refine r_call (pc' := 63) [vR (some 50)] [] d211_60 rfl o211 st12_226_12 (rcv1 sh50 (pl hN rfl)) rfl (by decide) ⟨rfl, rfl⟩ (Nat.le_of_ble_eq_true rfl) rfl (s_backF hN hM (((Outs.rf (hi h 51)).upd (45 + t) cell (by omega) (by omega)).gm hc2 hc4 (k + 1)) ?_)
          refine r_iload_n (pc' := 64) d211_63 rfl rfl rfl ?_
          exact r_iretI d211_64 rfl (qv (by rw [hv, rdF]; exact if_pos c38) (kk _ _))
        · refine r_iload_n (pc' := 28) d211_27 rfl rfl rfl ?_
          refine r_ldc (pc' := 30) d211_28 rfl o211 kc12_53 ?_
          refine r_icmp_ne 59 (pc' := 33) d211_30 rfl rfl (fun c30 => ?_) (fun c30 => absurd c30 (nI_none (show k < 2 ^ 31 by omega)))
          refine r_aload_n (pc' := 60) d211_59 rfl rfl rfl ?_
          refine r_call (pc' := 63) [vR (some 50)] [] d211_60 rfl o211 st12_226_12 (rcv1 sh50 (pl hN rfl)) rfl (by decide) ⟨rfl, rfl⟩ (Nat.le_of_ble_eq_true rfl) rfl (s_backF hN hM (((Outs.rf (hi h 51)).upd (45 + t) cell (by omega) (by omega)).gm hc2 hc4 (k + 1)) ?_)
          refine r_iload_n (pc' := 64) d211_63 rfl rfl rfl ?_
          exact r_iretI d211_64 rfl (qv (by rw [hv, rdF]; exact if_pos c38) (kk _ _))
  exact loop 61 0 (hi h 60) rfl rfl
