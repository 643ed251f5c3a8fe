/-! the reference: turns, start, coal for, fuel (printed by wip/whole/m45.py) -/
theorem s_gmF {d : Nat} {h : Hp} {Q : Option AV → Hp → Prop} {m L e : Nat} {y x s : Nat → Int32} (hN : hn h = 65) (hM : RM h) (hc : Cnt s m L e) (hs : ¬ s 3 = 0) (kk : ∀ x2, Q none (fw h y x2 (gm s m L))) : Spec (d + 3) 188 [vR (some 50)] (fw h y x s) Q :=
  s_goMinute (h := fw h y x s) hN hM hc hs (fun x2 => qh (fw_min h y x s x2 _).symm (kk x2))
theorem s_goF {d : Nat} {h : Hp} {Q : Option AV → Hp → Prop} {m L e n : Nat} {y x s : Nat → Int32} (hN : hn h = 65) (hM : RM h) (hc : Cnt s m L e) (hs : ¬ s 3 = 0) (hn0 : n ≤ 1000) (kk : ∀ x2, Q none (fw h y x2 (gmN s m L n))) : Spec (d + 4) 208 [vR (some 50), vI (nI n)] (fw h y x s) Q :=
  s_go (h := fw h y x s) hN hM hc hs hn0 (fun x2 => qh (fw_min h y x s x2 _).symm (kk x2))
theorem s_holdsJ {d : Nat} {h : Hp} {Q : Option AV → Hp → Prop} {x y : Nat → Int32} (hN : hn h = 65) (hM : RM h) (kk : ∀ y2, y2 = hold66 (hi h 51) y → Q none (fw h y2 x (hi h 51))) : Spec d 206 [vR (some 50)] (jk h x y) Q := by
  refine s_holdsF (h := jk h x y) hN hM (qh ?_ (kk _ rfl))
  show fw h (hold66 (hi h 51) y) x (hi h 51) = fw (jk h x y) (hold66 (hi h 51) y) x (hi h 51)
  show setw (setw (setw h 61 _) 60 x) 51 _ = setw (setw (setw (setw (setw h 61 y) 60 x) 61 _) 60 x) 51 _
  rw [setw_comm _ 60 61 _ _ (by decide), setw_w, setw_w]
theorem s_backJ {d : Nat} {h : Hp} {Q : Option AV → Hp → Prop} {x y s' f : Nat → Int32} (hN : hn h = 65) (hM : RM h) (hy : y = hold66 (hi h 51) f) (ho : Outs s' (hi h 51)) (kk : Q none (jk h x y)) : Spec d 207 [vR (some 50)] (fw h y x s') Q :=
  s_putsBack hN hM (qh (by rw [fw_w, show mix (fun i => hi (fw h y x s') 61 (i - 19)) (hi (fw h y x s') 51) 19 66 = hi h 51 from (by subst hy; exact bk66 ho), fw_end]) kk)
def tbN (s : Nat → Int32) (m L t : Nat) (tu : Int32) : Nat → Nat → Int32
  | 0 => s
  | k + 1 => gm (upd (tbN s m L t tu k) (69 + t) (tbN s m L t tu k (69 + t) ^^^ ((tu >>> (nI k &&& 31)) &&& 1))) m L
theorem tbN_lo (s : Nat → Int32) (m L t : Nat) (tu : Int32) (k i : Nat) (h1 : i < 51) (h2 : i ≠ 19) (h3 : ¬ (29 ≤ i ∧ i < 45)) (hL : L ≤ 8) : tbN s m L t tu k i = s i := by
  induction k with
  | zero => rfl
  | succ k ih => unfold tbN; rw [gm_lo _ _ _ _ h1 h2 h3 hL, upd_ne _ _ _ (by omega), ih]
theorem tbN_cnt {s : Nat → Int32} {m L e : Nat} (h : Cnt s m L e) (t : Nat) (tu : Int32) (k : Nat) (v : Int32) : Cnt (upd (tbN s m L t tu k) (69 + t) v) m L e := by
  refine h.out ?_ ?_ ?_ <;> rw [upd_ne _ _ _ (by omega), tbN_lo _ _ _ _ _ _ _ (by decide) (by decide) (by decide) h.2.2.2.1]
theorem tbN_out {s s' : Nat → Int32} {m L t : Nat} (tu : Int32) (h : Outs s' s) (hm : m ≤ 6) (hL : L ≤ 8) (ht : t < 6) (k : Nat) : Outs (tbN s' m L t tu k) s := by
  induction k with
  | zero => exact h
  | succ k ih => exact (ih.upd (69 + t) _ (by omega) (by omega)).gm hm hL 1
theorem s_isWellBy {d : Nat} {h : Hp} {Q : Option AV → Hp → Prop} {m L e : Nat} {t n : Nat} {tu : Int32} {x y : Nat → Int32} (hN : hn h = 65) (hM : RM h) (hc : Cnt (hi h 51) m L e) (hsk : ¬ hi h 51 3 = 0) (ht : t < 6) (hn12 : n ≤ 12) (kk : ∀ x y, Q (some (vI (bI (wellI (tbN (hi h 51) m L t tu n) t)))) (jk h x y)) : Spec (d + 4) 216 [vR (some 50), vI (nI t), vI (nI n), vI tu] (jk h x y) Q := by
  obtain ⟨hc1, hc2, hc3, hc4, hc5, hc6⟩ := id hc
  refine spec_intro (by decide +kernel) rfl (Nat.le_of_ble_eq_true rfl) ?_
  refine r_aload_n (pc' := 1) d216_0 rfl rfl rfl ?_
  refine r_call (pc' := 4) [vR (some 50)] [] d216_1 rfl o216 st12_217_12 (rcv1 sh50 (pl hN rfl)) rfl (by decide) ⟨rfl, rfl⟩ (Nat.le_of_ble_eq_true rfl) rfl (s_holdsJ hN hM (fun y2 hy2 => ?_))
  refine r_iconst (v := 0) (pc' := 5) d216_4 rfl (by decide) ?_
  refine r_istore (pc' := 7) (ls' := [(4, vI _), (0, vR (some 50)), (1, vI _), (2, vI _), (3, vI _)]) d216_5 rfl (by decide) rfl ?_
  refine wp_pick (ls' := [(0, vR (some 50)), (1, vI _), (2, vI _), (3, vI _), (4, vI _)]) [1, 2, 3, 4, 0] rfl ?_
  have loop : ∀ (r k : Nat) (x : Nat → Int32), k + r = n → wp (d + 4) 216 Q 0 0 7 [(0, vR (some 50)), (1, vI (nI t)), (2, vI (nI n)), (3, vI tu), (4, vI (nI k))] [] (fw h y2 x (tbN (hi h 51) m L t tu k)) := by
    intro r
    induction r with
    | zero =>
      intro k x hk
      obtain rfl : k = n := by omega
      refine r_iload (pc' := 9) d216_7 rfl rfl ?_
      refine r_iload_n (pc' := 10) d216_9 rfl rfl rfl ?_
      refine r_icmp_ge 41 (pc' := 13) d216_10 rfl rfl (fun c10 => ?_) (fun c10 => absurd (nI_le (Nat.le_refl _) (by omega)) c10)
      refine r_aload_n (pc' := 42) d216_41 rfl rfl rfl ?_
      refine r_iload_n (pc' := 43) d216_42 rfl rfl rfl ?_
      refine r_call (pc' := 46) [vR (some 50), vI _] [] d216_43 rfl o216 st12_210_12 (rcv1 sh50 (pl hN rfl)) rfl (by decide) ⟨rfl, rfl⟩ (Nat.le_of_ble_eq_true rfl) rfl (s_isWell hN hM (by omega) ?_)
      refine r_istore (pc' := 48) (ls' := [(4, vI _), (0, vR (some 50)), (1, vI _), (2, vI _), (3, vI _)]) d216_46 rfl (by decide) rfl ?_
      refine r_aload_n (pc' := 49) d216_48 rfl rfl rfl ?_
      refine r_call (pc' := 52) [vR (some 50)] [] d216_49 rfl o216 st12_226_12 (rcv1 sh50 (pl hN rfl)) rfl (by decide) ⟨rfl, rfl⟩ (Nat.le_of_ble_eq_true rfl) rfl (s_backJ hN hM hy2 (tbN_out tu (Outs.rf _) hc2 hc4 ht _) ?_)
      refine r_iload (pc' := 54) d216_52 rfl rfl ?_
      exact r_iretB d216_54 rfl (kk x y2)
    | succ r ih =>
      intro k x hk
      refine r_iload (pc' := 9) d216_7 rfl rfl ?_
      refine r_iload_n (pc' := 10) d216_9 rfl rfl rfl ?_
      refine r_icmp_ge 41 (pc' := 13) d216_10 rfl rfl (fun c10 => absurd c10 (nI_ge (by omega) (by omega))) (fun c10 => ?_)
      refine r_aload_n (pc' := 14) d216_13 rfl rfl rfl ?_
      refine r_getS (pc' := 17) d216_14 rfl o216 sf12_7_12 sh50 (pl hN rfl) (rfm0 hM) ?_
      refine r_bipush (v := 69) (pc' := 19) d216_17 rfl (by decide) ?_
      refine r_iload_n (pc' := 20) d216_19 rfl rfl rfl ?_
      refine r_iadd (pc' := 21) d216_20 rfl ?_
      refine r_dup2 (pc' := 22) d216_21 rfl ?_
      refine r_ialdN (pc' := 23) (j := (69 + t)) d216_22 rfl sh51 (pl hN rfl) (by simp only [lit, nI_add, pk_mul]) (by omega) (by decide) ?_
      refine r_iload_n (pc' := 24) d216_23 rfl rfl rfl ?_
      refine r_iload (pc' := 26) d216_24 rfl rfl ?_
      refine r_ishr (pc' := 27) d216_26 rfl ?_
      refine r_iconst (v := 1) (pc' := 28) d216_27 rfl (by decide) ?_
      refine r_iand (pc' := 29) d216_28 rfl ?_
      refine r_ixor (pc' := 30) d216_29 rfl ?_
      refine r_iastN (pc' := 31) (j := (69 + t)) d216_30 rfl sh51 (pl hN rfl) (by simp only [lit, nI_add, pk_mul]) (by omega) (by decide) ?_
      refine wp_heap (fw_s h y2 x _ _ _) ?_
      refine r_aload_n (pc' := 32) d216_31 rfl rfl rfl ?_
      refine r_call (pc' := 35) [vR (some 50)] [] d216_32 rfl o216 st12_191_12 (rcv1 sh50 (pl hN rfl)) rfl (by decide) ⟨rfl, rfl⟩ (Nat.le_of_ble_eq_true rfl) rfl (s_gmF hN hM (tbN_cnt hc t tu k _) (by rw [upd_ne _ _ _ (by omega), tbN_lo _ _ _ _ _ _ _ (by decide) (by decide) (by decide) hc4]; exact hsk) (fun x2 => ?_))
      refine r_iinc (v := _ + 1) (pc' := 38) (ls' := [(4, vI _), (0, vR (some 50)), (1, vI _), (2, vI _), (3, vI _)]) d216_35 rfl rfl rfl (by decide) rfl ?_
      refine r_goto 7 d216_38 rfl ?_
      refine wp_pick (ls' := [(0, vR (some 50)), (1, vI _), (2, vI _), (3, vI _), (4, vI _)]) [1, 2, 3, 4, 0] rfl ?_
      rw [nI_1]
      exact ih (k + 1) x2 (by omega)
  exact loop n 0 x (by omega)
theorem fa_and (a b : Nat) : nI a &&& nI b = nI (a &&& b) := by
  apply Int32.toBitVec_inj.1
  show BitVec.ofNat 32 a &&& BitVec.ofNat 32 b = BitVec.ofNat 32 (a &&& b)
  apply BitVec.eq_of_getLsbD_eq
  intro i hi
  simp [hi]
def popc (b : Nat) : Nat := b % 2 + b / 2 % 2 + b / 4 % 2 + b / 8 % 2 + b / 16 % 2 + b / 32 % 2 + b / 64 % 2 + b / 128 % 2 + b / 256 % 2 + b / 512 % 2 + b / 1024 % 2 + b / 2048 % 2
theorem popc_s0 : ∀ a, a < 64 → ∀ c, c < 64 → 0 < 64 * a + c → ((64 * a + c) &&& (64 * a + c - 1)) < 64 * a + c ∧ popc ((64 * a + c) &&& (64 * a + c - 1)) + 1 = popc (64 * a + c) := by decide +kernel
theorem popc_s (b : Nat) (hb : b < 4096) (h0 : 0 < b) : (b &&& (b - 1)) < b ∧ popc (b &&& (b - 1)) + 1 = popc b := by
  have w := popc_s0 (b / 64) (by omega) (b % 64) (by omega)
  rw [show 64 * (b / 64) + b % 64 = b by omega] at w
  exact w h0
theorem popc_le (b : Nat) : popc b ≤ 12 := by unfold popc; omega
theorem s_bits {d : Nat} {h : Hp} {Q : Option AV → Hp → Prop} {b : Nat} (hb : b < 4096) (kk : Q (some (vI (nI (popc b)))) h) : Spec d 215 [vI (nI b)] h Q := by
  refine spec_intro (by decide +kernel) rfl (Nat.le_of_ble_eq_true rfl) ?_
  refine r_iconst (v := 0) (pc' := 1) d215_0 rfl (by decide) ?_
  refine r_istore_n (pc' := 2) (ls' := [(1, vI _), (0, vI _)]) d215_1 rfl rfl (by decide) rfl ?_
  refine r_iload_n (pc' := 3) d215_2 rfl rfl rfl ?_
  refine r_istore_n (pc' := 4) (ls' := [(2, vI _), (1, vI _), (0, vI _)]) d215_3 rfl rfl (by decide) rfl ?_
  refine wp_pick (ls' := [(0, vI _), (1, vI _), (2, vI _)]) [2, 1, 0] rfl ?_
  have loop : ∀ (f r c : Nat), r ≤ f → r < 4096 → c + popc r = popc b → wp d 215 Q 0 0 4 [(0, vI (nI b)), (1, vI (nI c)), (2, vI (nI r))] [] h := by
    intro f
    induction f with
    | zero =>
      intro r c hf hr hp
      obtain rfl : r = 0 := by omega
      obtain rfl : c = popc b := by have : popc 0 = 0 := rfl; omega
      refine r_iload_n (pc' := 5) d215_4 rfl rfl rfl ?_
      refine r_if_le 20 (pc' := 8) d215_5 rfl rfl (fun c5 => ?_) (fun c5 => absurd (by decide) c5)
      refine r_iload_n (pc' := 21) d215_20 rfl rfl rfl ?_
      exact r_iretI d215_21 rfl kk
    | succ f ih =>
      intro r c hf hr hp
      by_cases hr0 : r = 0
      · subst hr0
        obtain rfl : c = popc b := by have : popc 0 = 0 := rfl; omega
        refine r_iload_n (pc' := 5) d215_4 rfl rfl rfl ?_
        refine r_if_le 20 (pc' := 8) d215_5 rfl rfl (fun c5 => ?_) (fun c5 => absurd (by decide) c5)
        refine r_iload_n (pc' := 21) d215_20 rfl rfl rfl ?_
        exact r_iretI d215_21 rfl kk
      · have hq := popc_s r hr (by omega)
        refine r_iload_n (pc' := 5) d215_4 rfl rfl rfl ?_
        refine r_if_le 20 (pc' := 8) d215_5 rfl rfl (fun c5 => absurd c5 (nI_nle (by omega) (by omega))) (fun c5 => ?_)
        refine r_iinc (v := _ + 1) (pc' := 11) (ls' := [(1, vI _), (0, vI _), (2, vI _)]) d215_8 rfl rfl rfl (by decide) rfl ?_
        refine r_iload_n (pc' := 12) d215_11 rfl rfl rfl ?_
        refine r_iload_n (pc' := 13) d215_12 rfl rfl rfl ?_
        refine r_iconst (v := 1) (pc' := 14) d215_13 rfl (by decide) ?_
        refine r_isub (pc' := 15) d215_14 rfl ?_
        refine r_iand (pc' := 16) d215_15 rfl ?_
        refine r_istore_n (pc' := 17) (ls' := [(2, vI _), (1, vI _), (0, vI _)]) d215_16 rfl rfl (by decide) rfl ?_
        refine r_goto 4 d215_17 rfl ?_
        refine wp_pick (ls' := [(0, vI _), (1, vI _), (2, vI _)]) [2, 1, 0] rfl ?_
        rw [nI_1, show (nI r - 1 : Int32) = nI (r - 1) from pk_sub (b := 1) (by omega), fa_and]
        exact ih _ (c + 1) (by omega) (by omega) (by omega)
  exact loop b b 0 (Nat.le_refl _) hb (by omega)
def oN (o : Option Nat) : Int32 := match o with
  | none => -1000000
  | some b => nI b
def mayB (o : Option Nat) (q : Nat) : Bool := match o with
  | none => true
  | some b => decide (popc q < popc b)
def flB (s : Nat → Int32) (m L t n : Nat) : Nat → Option Nat
  | 0 => none
  | q + 1 => if mayB (flB s m L t n q) q = true ∧ wellI (tbN s m L t (nI q) n) t then some q else flB s m L t n q
theorem flB_lt (s : Nat → Int32) (m L t n q b : Nat) (h : flB s m L t n q = some b) : b < q := by
  induction q with
  | zero => cases h
  | succ q ih =>
    unfold flB at h
    split at h
    · cases h; omega
    · have := ih h; omega
theorem shl1 : ∀ n, n ≤ 12 → (1 : Int32) <<< (nI n &&& 31) = nI (2 ^ n) := by decide +kernel
theorem pow12 : ∀ n, n ≤ 12 → 2 ^ n ≤ 4096 := by decide +kernel
def flR (s : Nat → Int32) (m L t n : Nat) (what : Int32) : Int32 := match flB s m L t n (2 ^ n) with
  | none => -1000000
  | some b => if what = 1 then nI b else nI (popc b)
theorem M_flips {d : Nat} {h : Hp} {Q : Option AV → Hp → Prop} {m L e : Nat} {t n what : Int32} (hN : hn h = 65) (hM : RM h) (hc : Cnt (hi h 51) m L e) (hsk : ∀ j : Nat, j < m → ¬ hi h 51 3 = 0) (kB : (¬ inR t m ∨ ¬ (1 ≤ n ∧ n ≤ 12) ∨ ¬ (0 ≤ what ∧ what ≤ 1)) → Q (some (vI (-1000001))) h)
    (kS : ∀ j : Nat, j < m → t = nI j → ∀ k : Nat, 1 ≤ k → k ≤ 12 → n = nI k → (0 ≤ what ∧ what ≤ 1) → ¬ onI (hi h 51) j → Q (some (vI (-1000002))) h)
    (kW : ∀ j : Nat, j < m → t = nI j → ∀ k : Nat, 1 ≤ k → k ≤ 12 → n = nI k → (0 ≤ what ∧ what ≤ 1) → onI (hi h 51) j → ∀ x y, Q (some (vI (flR (hi h 51) m L j k what))) (jk h x y)) : Spec (d + 5) 217 [vR (some 50), vI t, vI n, vI what] h Q := by
  obtain ⟨hc1, hc2, hc3, hc4, hc5, hc6⟩ := id hc
  refine spec_intro (by decide +kernel) rfl (Nat.le_of_ble_eq_true rfl) ?_
  refine r_aload_n (pc' := 1) d217_0 rfl rfl rfl ?_
  refine r_iload_n (pc' := 2) d217_1 rfl rfl rfl ?_
  refine r_call (pc' := 5) [vR (some 50), vI _] [] d217_2 rfl o217 st12_194_12 (rcv1 sh50 (pl hN rfl)) rfl (by decide) ⟨rfl, rfl⟩ (Nat.le_of_ble_eq_true rfl) rfl (s_isThingC hN hM hc ?_)
  refine r_if_eqB 27 (pc' := 8) d217_5 rfl rfl (fun c5 => ?_) (fun c5 => ?_)
  · refine r_ldc (pc' := 29) d217_27 rfl o217 kc12_67 ?_
    exact r_iretI d217_29 rfl (kB (by first | exact Or.inl c5 | exact Or.inr (Or.inl c15) | exact Or.inr (Or.inr c24)))
  · refine r_iload_n (pc' := 9) d217_8 rfl rfl rfl ?_
    refine r_iconst (v := 1) (pc' := 10) d217_9 rfl (by decide) ?_
    refine r_bipush (v := 12) (pc' := 12) d217_10 rfl (by decide) ?_
    refine r_call (pc' := 15) [vI _, vI _, vI _] [] d217_12 rfl o217 st12_59 rcv0 rfl (by decide) ⟨rfl, rfl⟩ (Nat.le_of_ble_eq_true rfl) rfl (s_in ?_)
    refine r_if_eqB 27 (pc' := 18) d217_15 rfl rfl (fun c15 => ?_) (fun c15 => ?_)
    · refine r_ldc (pc' := 29) d217_27 rfl o217 kc12_67 ?_
      exact r_iretI d217_29 rfl (kB (by first | exact Or.inl c5 | exact Or.inr (Or.inl c15) | exact Or.inr (Or.inr c24)))
    · refine r_iload_n (pc' := 19) d217_18 rfl rfl rfl ?_
      refine r_iconst (v := 0) (pc' := 20) d217_19 rfl (by decide) ?_
      refine r_iconst (v := 1) (pc' := 21) d217_20 rfl (by decide) ?_
      refine r_call (pc' := 24) [vI _, vI _, vI _] [] d217_21 rfl o217 st12_59 rcv0 rfl (by decide) ⟨rfl, rfl⟩ (Nat.le_of_ble_eq_true rfl) rfl (s_in ?_)
      refine r_if_neB 30 (pc' := 27) d217_24 rfl rfl (fun c24 => ?_) (fun c24 => ?_)
      · obtain ⟨j, hj, rfl⟩ := inR_of c5 (by omega)
        obtain ⟨n, ⟨hn1, hn2⟩, rfl⟩ := nI_of3 (a := 1) (b := 12) c15 (by decide)
        refine r_aload_n (pc' := 31) d217_30 rfl rfl rfl ?_
        refine r_iload_n (pc' := 32) d217_31 rfl rfl rfl ?_
        refine r_call (pc' := 35) [vR (some 50), vI _] [] d217_32 rfl o217 st12_163_12 (rcv1 sh50 (pl hN rfl)) rfl (by decide) ⟨rfl, rfl⟩ (Nat.le_of_ble_eq_true rfl) rfl (s_isOn hN hM (by omega) ?_)
        refine r_if_neB 41 (pc' := 38) d217_35 rfl rfl (fun c35 => ?_) (fun c35 => ?_)
        · refine r_ldc (pc' := 43) d217_41 rfl o217 kc12_53 ?_
          refine r_istore (pc' := 45) (ls' := [(4, vI _), (0, vR (some 50)), (1, vI _), (2, vI _), (3, vI _)]) d217_43 rfl (by decide) rfl ?_
          refine r_iconst (v := 0) (pc' := 46) d217_45 rfl (by decide) ?_
          refine r_istore (pc' := 48) (ls' := [(5, vI _), (4, vI _), (0, vR (some 50)), (1, vI _), (2, vI _), (3, vI _)]) d217_46 rfl (by decide) rfl ?_
          refine wp_pick (ls' := [(0, vR (some 50)), (1, vI _), (2, vI _), (3, vI _), (4, vI _), (5, vI _)]) [2, 3, 4, 5, 1, 0] rfl ?_
          have hp12 := pow12 n (by omega)
          have loop : ∀ (r k : Nat) (x y : Nat → Int32), k + r = 2 ^ n → wp (d + 5) 217 Q 0 0 48 [(0, vR (some 50)), (1, vI (nI j)), (2, vI (nI n)), (3, vI what), (4, vI (oN (flB (hi h 51) m L j n k))), (5, vI (nI k))] [] (jk h x y) := by
            intro r
            induction r with
            | zero =>
              intro k x y hk
              have hk2 : k = 2 ^ n := by omega
              cases hB : flB (hi h 51) m L j n k with
              | none =>
                refine r_iload (pc' := 50) d217_48 rfl rfl ?_
                refine r_iconst (v := 1) (pc' := 51) d217_50 rfl (by decide) ?_
                refine r_iload_n (pc' := 52) d217_51 rfl rfl rfl ?_
                refine r_ishl (pc' := 53) d217_52 rfl ?_
                rw [shl1 n (by omega)]
                refine r_icmp_ge 114 (pc' := 56) d217_53 rfl rfl (fun c53 => ?_) (fun c53 => absurd (nI_le (by omega) (by omega)) c53)
                refine r_iload (pc' := 116) d217_114 rfl rfl ?_
                refine r_ldc (pc' := 118) d217_116 rfl o217 kc12_53 ?_
                refine r_icmp_eq 126 (pc' := 121) d217_118 rfl rfl (fun c118 => ?_) (fun c118 => absurd rfl c118)
                refine r_iload (pc' := 128) d217_126 rfl rfl ?_
                refine r_goto 136 d217_128 rfl ?_
                exact r_iretI d217_136 rfl (qv (by rw [flR, ← hk2, hB]; rfl) (kW j hj rfl n hn1 hn2 rfl c24 c35 x y))
              | some b =>
                have hb := flB_lt _ _ _ _ _ _ _ hB
                refine r_iload (pc' := 50) d217_48 rfl rfl ?_
                refine r_iconst (v := 1) (pc' := 51) d217_50 rfl (by decide) ?_
                refine r_iload_n (pc' := 52) d217_51 rfl rfl rfl ?_
                refine r_ishl (pc' := 53) d217_52 rfl ?_
                rw [shl1 n (by omega)]
                refine r_icmp_ge 114 (pc' := 56) d217_53 rfl rfl (fun c53 => ?_) (fun c53 => absurd (nI_le (by omega) (by omega)) c53)
                refine r_iload (pc' := 116) d217_114 rfl rfl ?_
                refine r_ldc (pc' := 118) d217_116 rfl o217 kc12_53 ?_
                refine r_icmp_eq 126 (pc' := 121) d217_118 rfl rfl (fun c118 => absurd c118 (nI_none (by omega))) (fun c118 => ?_)
                refine r_iload_n (pc' := 122) d217_121 rfl rfl rfl ?_
                refine r_iconst (v := 1) (pc' := 123) d217_122 rfl (by decide) ?_
                refine r_icmp_ne 131 (pc' := 126) d217_123 rfl rfl (fun c123 => ?_) (fun c123 => ?_)
                · refine r_iload (pc' := 133) d217_131 rfl rfl ?_
                  refine r_call (pc' := 136) [vI _] [] d217_133 rfl o217 st12_232 rcv0 rfl (by decide) ⟨rfl, rfl⟩ (Nat.le_of_ble_eq_true rfl) rfl (s_bits (by omega) ?_)
                  exact r_iretI d217_136 rfl (qv (by rw [flR, ← hk2, hB]; exact if_neg c123) (kW j hj rfl n hn1 hn2 rfl c24 c35 x y))
                · refine r_iload (pc' := 128) d217_126 rfl rfl ?_
                  refine r_goto 136 d217_128 rfl ?_
                  exact r_iretI d217_136 rfl (qv (by rw [flR, ← hk2, hB]; exact if_pos c123) (kW j hj rfl n hn1 hn2 rfl c24 c35 x y))
            | succ r ih =>
              intro k x y hk
              have ih2 := ih (k + 1)
              cases hB : flB (hi h 51) m L j n k with
              | none =>
                refine r_iload (pc' := 50) d217_48 rfl rfl ?_
                refine r_iconst (v := 1) (pc' := 51) d217_50 rfl (by decide) ?_
                refine r_iload_n (pc' := 52) d217_51 rfl rfl rfl ?_
                refine r_ishl (pc' := 53) d217_52 rfl ?_
                rw [shl1 n (by omega)]
                refine r_icmp_ge 114 (pc' := 56) d217_53 rfl rfl (fun c53 => absurd c53 (nI_ge (by omega) (by omega))) (fun c53 => ?_)
                refine r_iload (pc' := 58) d217_56 rfl rfl ?_
                refine r_ldc (pc' := 60) d217_58 rfl o217 kc12_53 ?_
                refine r_icmp_eq 76 (pc' := 63) d217_60 rfl rfl (fun c60 => ?_) (fun c60 => absurd rfl c60)
                refine r_iconst (v := 1) (pc' := 77) d217_76 rfl (by decide) ?_
                refine r_goto 81 d217_77 rfl ?_
                refine r_istore (pc' := 83) (ls' := [(6, vI _), (0, vR (some 50)), (1, vI _), (2, vI _), (3, vI _), (4, vI _), (5, vI _)]) d217_81 rfl (by decide) rfl ?_
                refine r_iload (pc' := 85) d217_83 rfl rfl ?_
                refine r_if_eq 104 (pc' := 88) d217_85 rfl rfl (fun c85 => absurd c85 (by decide)) (fun c85 => ?_)
                refine r_aload_n (pc' := 89) d217_88 rfl rfl rfl ?_
                refine r_iload_n (pc' := 90) d217_89 rfl rfl rfl ?_
                refine r_iload_n (pc' := 91) d217_90 rfl rfl rfl ?_
                refine r_iload (pc' := 93) d217_91 rfl rfl ?_
                refine r_call (pc' := 96) [vR (some 50), vI _, vI _, vI _] [] d217_93 rfl o217 st12_235_12 (rcv1 sh50 (pl hN rfl)) rfl (by decide) ⟨rfl, rfl⟩ (Nat.le_of_ble_eq_true rfl) rfl (s_isWellBy hN hM hc (hsk j hj) (by omega) (by omega) (fun x y => ?_))
                refine r_if_eqB 104 (pc' := 99) d217_96 rfl rfl (fun c96 => ?_) (fun c96 => ?_)
                · refine r_iload (pc' := 106) d217_104 rfl rfl ?_
                  refine r_istore (pc' := 108) (ls' := [(4, vI _), (6, vI _), (0, vR (some 50)), (1, vI _), (2, vI _), (3, vI _), (5, vI _)]) d217_106 rfl (by decide) rfl ?_
                  refine r_iinc (v := _ + 1) (pc' := 111) (ls' := [(5, vI _), (4, vI _), (6, vI _), (0, vR (some 50)), (1, vI _), (2, vI _), (3, vI _)]) d217_108 rfl rfl rfl (by decide) rfl ?_
                  refine r_goto 48 d217_111 rfl ?_
                  refine wp_pick (ls' := [(0, vR (some 50)), (1, vI _), (2, vI _), (3, vI _), (4, vI _), (5, vI _)]) [3, 4, 5, 6, 1, 0] rfl ?_
                  rw [nI_1]
                  have w := ih2 x y (by omega)
                  rw [flB, hB, if_neg (fun z => c96 z.2)] at w
                  exact w
                · refine r_iload (pc' := 101) d217_99 rfl rfl ?_
                  refine r_goto 106 d217_101 rfl ?_
                  refine r_istore (pc' := 108) (ls' := [(4, vI _), (6, vI _), (0, vR (some 50)), (1, vI _), (2, vI _), (3, vI _), (5, vI _)]) d217_106 rfl (by decide) rfl ?_
                  refine r_iinc (v := _ + 1) (pc' := 111) (ls' := [(5, vI _), (4, vI _), (6, vI _), (0, vR (some 50)), (1, vI _), (2, vI _), (3, vI _)]) d217_108 rfl rfl rfl (by decide) rfl ?_
                  refine r_goto 48 d217_111 rfl ?_
                  refine wp_pick (ls' := [(0, vR (some 50)), (1, vI _), (2, vI _), (3, vI _), (4, vI _), (5, vI _)]) [3, 4, 5, 6, 1, 0] rfl ?_
                  rw [nI_1]
                  have w := ih2 x y (by omega)
                  rw [flB, hB, if_pos ⟨rfl, c96⟩] at w
                  exact w
              | some b =>
                have hb := flB_lt _ _ _ _ _ _ _ hB
                refine r_iload (pc' := 50) d217_48 rfl rfl ?_
                refine r_iconst (v := 1) (pc' := 51) d217_50 rfl (by decide) ?_
                refine r_iload_n (pc' := 52) d217_51 rfl rfl rfl ?_
                refine r_ishl (pc' := 53) d217_52 rfl ?_
                rw [shl1 n (by omega)]
                refine r_icmp_ge 114 (pc' := 56) d217_53 rfl rfl (fun c53 => absurd c53 (nI_ge (by omega) (by omega))) (fun c53 => ?_)
                refine r_iload (pc' := 58) d217_56 rfl rfl ?_
                refine r_ldc (pc' := 60) d217_58 rfl o217 kc12_53 ?_
                refine r_icmp_eq 76 (pc' := 63) d217_60 rfl rfl (fun c60 => absurd c60 (nI_none (by omega))) (fun c60 => ?_)
                refine r_iload (pc' := 65) d217_63 rfl rfl ?_
                refine r_call (pc' := 68) [vI _] [] d217_65 rfl o217 st12_232 rcv0 rfl (by decide) ⟨rfl, rfl⟩ (Nat.le_of_ble_eq_true rfl) rfl (s_bits (by omega) ?_)
                refine r_iload (pc' := 70) d217_68 rfl rfl ?_
                refine r_call (pc' := 73) [vI _] [vI _] d217_70 rfl o217 st12_232 rcv0 rfl (by decide) ⟨rfl, rfl⟩ (Nat.le_of_ble_eq_true rfl) rfl (s_bits (by omega) ?_)
                refine r_icmp_ge 80 (pc' := 76) d217_73 rfl rfl (fun c73 => ?_) (fun c73 => ?_)
                · refine r_iconst (v := 0) (pc' := 81) d217_80 rfl (by decide) ?_
                  refine r_istore (pc' := 83) (ls' := [(6, vI _), (0, vR (some 50)), (1, vI _), (2, vI _), (3, vI _), (4, vI _), (5, vI _)]) d217_81 rfl (by decide) rfl ?_
                  refine r_iload (pc' := 85) d217_83 rfl rfl ?_
                  refine r_if_eq 104 (pc' := 88) d217_85 rfl rfl (fun c85 => ?_) (fun c85 => absurd (by decide) c85)
                  refine r_iload (pc' := 106) d217_104 rfl rfl ?_
                  refine r_istore (pc' := 108) (ls' := [(4, vI _), (6, vI _), (0, vR (some 50)), (1, vI _), (2, vI _), (3, vI _), (5, vI _)]) d217_106 rfl (by decide) rfl ?_
                  refine r_iinc (v := _ + 1) (pc' := 111) (ls' := [(5, vI _), (4, vI _), (6, vI _), (0, vR (some 50)), (1, vI _), (2, vI _), (3, vI _)]) d217_108 rfl rfl rfl (by decide) rfl ?_
                  refine r_goto 48 d217_111 rfl ?_
                  refine wp_pick (ls' := [(0, vR (some 50)), (1, vI _), (2, vI _), (3, vI _), (4, vI _), (5, vI _)]) [3, 4, 5, 6, 1, 0] rfl ?_
                  rw [nI_1]
                  have w := ih2 x y (by omega)
                  rw [flB, hB, if_neg (by intro z; have z1 := of_decide_eq_true z.1; exact absurd c73 (nI_ge z1 (by have := popc_le b; omega)))] at w
                  exact w
                · refine r_iconst (v := 1) (pc' := 77) d217_76 rfl (by decide) ?_
                  refine r_goto 81 d217_77 rfl ?_
                  refine r_istore (pc' := 83) (ls' := [(6, vI _), (0, vR (some 50)), (1, vI _), (2, vI _), (3, vI _), (4, vI _), (5, vI _)]) d217_81 rfl (by decide) rfl ?_
                  refine r_iload (pc' := 85) d217_83 rfl rfl ?_
                  refine r_if_eq 104 (pc' := 88) d217_85 rfl rfl (fun c85 => absurd c85 (by decide)) (fun c85 => ?_)
                  refine r_aload_n (pc' := 89) d217_88 rfl rfl rfl ?_
                  refine r_iload_n (pc' := 90) d217_89 rfl rfl rfl ?_
                  refine r_iload_n (pc' := 91) d217_90 rfl rfl rfl ?_
                  refine r_iload (pc' := 93) d217_91 rfl rfl ?_
                  refine r_call (pc' := 96) [vR (some 50), vI _, vI _, vI _] [] d217_93 rfl o217 st12_235_12 (rcv1 sh50 (pl hN rfl)) rfl (by decide) ⟨rfl, rfl⟩ (Nat.le_of_ble_eq_true rfl) rfl (s_isWellBy hN hM hc (hsk j hj) (by omega) (by omega) (fun x y => ?_))
                  refine r_if_eqB 104 (pc' := 99) d217_96 rfl rfl (fun c96 => ?_) (fun c96 => ?_)
                  · refine r_iload (pc' := 106) d217_104 rfl rfl ?_
                    refine r_istore (pc' := 108) (ls' := [(4, vI _), (6, vI _), (0, vR (some 50)), (1, vI _), (2, vI _), (3, vI _), (5, vI _)]) d217_106 rfl (by decide) rfl ?_
                    refine r_iinc (v := _ + 1) (pc' := 111) (ls' := [(5, vI _), (4, vI _), (6, vI _), (0, vR (some 50)), (1, vI _), (2, vI _), (3, vI _)]) d217_108 rfl rfl rfl (by decide) rfl ?_
                    refine r_goto 48 d217_111 rfl ?_
                    refine wp_pick (ls' := [(0, vR (some 50)), (1, vI _), (2, vI _), (3, vI _), (4, vI _), (5, vI _)]) [3, 4, 5, 6, 1, 0] rfl ?_
                    rw [nI_1]
                    have w := ih2 x y (by omega)
                    rw [flB, hB, if_neg (fun z => c96 z.2)] at w
                    exact w
                  · refine r_iload (pc' := 101) d217_99 rfl rfl ?_
                    refine r_goto 106 d217_101 rfl ?_
                    refine r_istore (pc' := 108) (ls' := [(4, vI _), (6, vI _), (0, vR (some 50)), (1, vI _), (2, vI _), (3, vI _), (5, vI _)]) d217_106 rfl (by decide) rfl ?_
                    refine r_iinc (v := _ + 1) (pc' := 111) (ls' := [(5, vI _), (4, vI _), (6, vI _), (0, vR (some 50)), (1, vI _), (2, vI _), (3, vI _)]) d217_108 rfl rfl rfl (by decide) rfl ?_
                    refine r_goto 48 d217_111 rfl ?_
                    refine wp_pick (ls' := [(0, vR (some 50)), (1, vI _), (2, vI _), (3, vI _), (4, vI _), (5, vI _)]) [3, 4, 5, 6, 1, 0] rfl ?_
                    rw [nI_1]
                    have w := ih2 x y (by omega)
                    rw [flB, hB, if_pos ⟨(decide_eq_true (by rcases Nat.lt_or_ge (popc k) (popc b) with z | z; exact z; exact absurd (nI_le z (by have := popc_le k; omega)) c73)), c96⟩] at w
                    exact w
          refine wp_heap (jk_0 h).symm ?_
          exact loop (2 ^ n) 0 (hi h 60) (hi h 61) (by omega)
        · refine r_ldc (pc' := 40) d217_38 rfl o217 kc12_187 ?_
          exact r_iretI d217_40 rfl (kS j hj rfl n hn1 hn2 rfl c24 c35)
      · refine r_ldc (pc' := 29) d217_27 rfl o217 kc12_67 ?_
        exact r_iretI d217_29 rfl (kB (by first | exact Or.inl c5 | exact Or.inr (Or.inl c15) | exact Or.inr (Or.inr c24)))
