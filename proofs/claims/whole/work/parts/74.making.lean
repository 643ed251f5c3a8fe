/-! making both objects: closed heaps (printed by wip/whole/m74.py) -/
section Mk
variable {d M : Nat} {Q : Option AV → Hp → Prop} {kc ks pc pc' : Nat} {ls ls' : List (Nat × AV)} {st st0 : List AV} {h : Hp}
theorem r_newk {k idx ci N : Nat} (hk : hn h = k) (hd : fet M pc = .ok (.new idx, 3)) (hp : pc + 3 = pc') {on : String} (hon : own M = on) (hs : SiteN on idx ci N) (hsh : SH k = (0, ci)) (hv : Val h) (hls : ls.all (fun q => okv k q.2) = true) (hst : st.all (okv k) = true) (hkc : kc + 1 ≤ mc M) (hks : ks + N ≤ ms M) (kk : wp d M Q (kc + 1) (ks + N) pc' ls (vR (some k) :: st) (grow h)) : wp d M Q kc ks pc ls st h := by
  subst hk; exact r_new hd hp hon hs hsh hv hls hst hkc hks kk
theorem r_newIk {k : Nat} {n : Int32} {N : Nat} (hk : hn h = k) (hd : fet M pc = .ok (.newarray .int, 2)) (hp : pc + 2 = pc') (hsh : SH k = (1, N)) (hn0 : ¬ n < 0) (hN : n.toNatClampNeg = N) (hby : N ≤ 10000) (hv : Val h) (hls : ls.all (fun q => okv k q.2) = true) (hst : st.all (okv k) = true) (hkc : kc + 1 ≤ mc M) (hks : ks + N ≤ ms M) (kk : wp d M Q (kc + 1) (ks + N) pc' ls (vR (some k) :: st) (grow h)) : wp d M Q kc ks pc ls (vI n :: st) h := by
  subst hk; exact r_newI hd hp jaI hsh hn0 hN hby hv hls hst hkc hks kk
theorem r_newZk {k : Nat} {n : Int32} {N : Nat} (hk : hn h = k) (hd : fet M pc = .ok (.newarray .boolean, 2)) (hp : pc + 2 = pc') (hsh : SH k = (2, N)) (hn0 : ¬ n < 0) (hN : n.toNatClampNeg = N) (hby : N ≤ 10000) (hv : Val h) (hls : ls.all (fun q => okv k q.2) = true) (hst : st.all (okv k) = true) (hkc : kc + 1 ≤ mc M) (hks : ks + N ≤ ms M) (kk : wp d M Q (kc + 1) (ks + N) pc' ls (vR (some k) :: st) (grow h)) : wp d M Q kc ks pc ls (vI n :: st) h := by
  subst hk; exact r_newZ hd hp jaZ hsh hn0 hN hby hv hls hst hkc hks kk
theorem r_newKk {k : Nat} {n : Int32} {N idx : Nat} (hk : hn h = k) (hd : fet M pc = .ok (.anewarray idx, 3)) (hp : pc + 3 = pc') {on : String} (hon : own M = on) (hs : Cond.classLink on idx RX3 ∈ TBL) (hsh : SH k = (3, N)) (hn0 : ¬ n < 0) (hN : n.toNatClampNeg = N) (hby : N ≤ 10000) (hv : Val h) (hls : ls.all (fun q => okv k q.2) = true) (hst : st.all (okv k) = true) (hkc : kc + 1 ≤ mc M) (hks : ks + N ≤ ms M) (kk : wp d M Q (kc + 1) (ks + N) pc' ls (vR (some k) :: st) (grow h)) : wp d M Q kc ks pc ls (vI n :: st) h := by
  subst hk; exact r_newK hd hp hon hs (by decide +kernel) hsh hn0 hN hby hv hls hst hkc hks kk
theorem r_newTk {k : Nat} {n : Int32} {N idx : Nat} (hk : hn h = k) (hd : fet M pc = .ok (.anewarray idx, 3)) (hp : pc + 3 = pc') {on : String} (hon : own M = on) (hs : Cond.classLink on idx RX8 ∈ TBL) (hsh : SH k = (4, N)) (hn0 : ¬ n < 0) (hN : n.toNatClampNeg = N) (hby : N ≤ 10000) (hv : Val h) (hls : ls.all (fun q => okv k q.2) = true) (hst : st.all (okv k) = true) (hkc : kc + 1 ≤ mc M) (hks : ks + N ≤ ms M) (kk : wp d M Q (kc + 1) (ks + N) pc' ls (vR (some k) :: st) (grow h)) : wp d M Q kc ks pc ls (vI n :: st) h := by
  subst hk; exact r_newT hd hp hon hs (by decide +kernel) hsh hn0 hN hby hv hls hst hkc hks kk
end Mk
theorem kl10_1 : Cond.classLink RX10 1 RX8 ∈ TBL := tb 291 (by decide +kernel) rfl
theorem kl11_76 : Cond.classLink RX11 76 RX3 ∈ TBL := tb 159 (by decide +kernel) rfl
theorem ltk {h : Hp} {o k : Nat} (hk : hn h = k) (ho : o < k) : o < hn h := by rw [hk]; exact ho
theorem hn_si (h : Hp) (k j : Nat) (v : Int32) : hn (seti h k j v) = hn h := rfl
theorem hn_sr (h : Hp) (k j : Nat) (v : Option Nat) : hn (setr h k j v) = hn h := rfl
theorem hn_g {h : Hp} {k : Nat} (hk : hn h = k) : hn (grow h) = k + 1 := by show hn h + 1 = k + 1; rw [hk]
theorem k_thing {d : Nat} {h : Hp} {Q : Option AV → Hp → Prop} {o p : Nat} {v : Int32} (ho : SH o = (0, 8)) (hlt : o < hn h) (k : Q none (setr (seti h o 0 v) o 1 (some p))) : Spec (d + 1) 44 [vR (some o), vI v, vR (some p)] h Q := by
  refine spec_intro (by decide +kernel) rfl (Nat.le_of_ble_eq_true rfl) ?_
  refine r_aload_n (pc' := 1) d44_0 rfl rfl rfl ?_
  refine r_objInit (pc' := 4) d44_1 rfl o44 st8_3 jo_2 jo_3 (Nat.le_of_ble_eq_true rfl) ?_
  refine r_aload_n (pc' := 5) d44_4 rfl rfl rfl ?_
  refine r_iload_n (pc' := 6) d44_5 rfl rfl rfl ?_
  refine r_putI (pc' := 9) d44_6 rfl o44 sp8_9_8 ho (fun _ => rfl) (Or.inl rfl) (hlt) ?_
  refine r_aload_n (pc' := 10) d44_9 rfl rfl rfl ?_
  refine r_aload_n (pc' := 11) d44_10 rfl rfl rfl ?_
  refine r_putR (pc' := 14) d44_11 rfl o44 sp8_15_8 ho (fun w => absurd w (by decide)) (Or.inl ⟨_, rfl⟩) (hlt) ?_
  exact r_ret d44_14 rfl k
theorem k_kind_3_3 {d : Nat} {h : Hp} {Q : Option AV → Hp → Prop} {o : Nat} {v0 v1 v2 v3 : Int32} (ho : SH o = (0, 3)) (hlt : o < hn h) (k : Q none (seti (seti (seti (seti h o 0 v0) o 1 v1) o 2 v2) o 3 v3)) : Spec (d + 1) 8 [vR (some o), vI v0, vI v1, vI v2, vI v3] h Q := by
  refine spec_intro (by decide +kernel) rfl (Nat.le_of_ble_eq_true rfl) ?_
  refine r_aload_n (pc' := 1) d8_0 rfl rfl rfl ?_
  refine r_objInit (pc' := 4) d8_1 rfl o8 st3_1 jo_2 jo_3 (Nat.le_of_ble_eq_true rfl) ?_
  refine r_aload_n (pc' := 5) d8_4 rfl rfl rfl ?_
  refine r_iload_n (pc' := 6) d8_5 rfl rfl rfl ?_
  refine r_putI (pc' := 9) d8_6 rfl o8 sp3_7_3 ho (fun _ => rfl) (Or.inl rfl) (hlt) ?_
  refine r_aload_n (pc' := 10) d8_9 rfl rfl rfl ?_
  refine r_iload_n (pc' := 11) d8_10 rfl rfl rfl ?_
  refine r_putI (pc' := 14) d8_11 rfl o8 sp3_13_3 ho (fun _ => rfl) (Or.inl rfl) (hlt) ?_
  refine r_aload_n (pc' := 15) d8_14 rfl rfl rfl ?_
  refine r_iload_n (pc' := 16) d8_15 rfl rfl rfl ?_
  refine r_putI (pc' := 19) d8_16 rfl o8 sp3_16_3 ho (fun _ => rfl) (Or.inl rfl) (hlt) ?_
  refine r_aload_n (pc' := 20) d8_19 rfl rfl rfl ?_
  refine r_iload (pc' := 22) d8_20 rfl rfl ?_
  refine r_putI (pc' := 25) d8_22 rfl o8 sp3_19_3 ho (fun _ => rfl) (Or.inl rfl) (hlt) ?_
  exact r_ret d8_25 rfl k
theorem k_kind_3_6 {d : Nat} {h : Hp} {Q : Option AV → Hp → Prop} {o : Nat} {v0 v1 v2 v3 : Int32} (ho : SH o = (0, 6)) (hlt : o < hn h) (k : Q none (seti (seti (seti (seti h o 0 v0) o 1 v1) o 2 v2) o 3 v3)) : Spec (d + 1) 8 [vR (some o), vI v0, vI v1, vI v2, vI v3] h Q := by
  refine spec_intro (by decide +kernel) rfl (Nat.le_of_ble_eq_true rfl) ?_
  refine r_aload_n (pc' := 1) d8_0 rfl rfl rfl ?_
  refine r_objInit (pc' := 4) d8_1 rfl o8 st3_1 jo_2 jo_3 (Nat.le_of_ble_eq_true rfl) ?_
  refine r_aload_n (pc' := 5) d8_4 rfl rfl rfl ?_
  refine r_iload_n (pc' := 6) d8_5 rfl rfl rfl ?_
  refine r_putI (pc' := 9) d8_6 rfl o8 sp3_7_6 ho (fun _ => rfl) (Or.inl rfl) (hlt) ?_
  refine r_aload_n (pc' := 10) d8_9 rfl rfl rfl ?_
  refine r_iload_n (pc' := 11) d8_10 rfl rfl rfl ?_
  refine r_putI (pc' := 14) d8_11 rfl o8 sp3_13_6 ho (fun _ => rfl) (Or.inl rfl) (hlt) ?_
  refine r_aload_n (pc' := 15) d8_14 rfl rfl rfl ?_
  refine r_iload_n (pc' := 16) d8_15 rfl rfl rfl ?_
  refine r_putI (pc' := 19) d8_16 rfl o8 sp3_16_6 ho (fun _ => rfl) (Or.inl rfl) (hlt) ?_
  refine r_aload_n (pc' := 20) d8_19 rfl rfl rfl ?_
  refine r_iload (pc' := 22) d8_20 rfl rfl ?_
  refine r_putI (pc' := 25) d8_22 rfl o8 sp3_19_6 ho (fun _ => rfl) (Or.inl rfl) (hlt) ?_
  exact r_ret d8_25 rfl k
theorem k_kind_6_6 {d : Nat} {h : Hp} {Q : Option AV → Hp → Prop} {o : Nat} {v0 v1 v2 v3 : Int32} (ho : SH o = (0, 6)) (hlt : o < hn h) (k : Q none (seti (seti (seti (seti h o 0 v0) o 1 v1) o 2 v2) o 3 v3)) : Spec (d + 2) 38 [vR (some o), vI v0, vI v1, vI v2, vI v3] h Q := by
  refine spec_intro (by decide +kernel) rfl (Nat.le_of_ble_eq_true rfl) ?_
  refine r_aload_n (pc' := 1) d38_0 rfl rfl rfl ?_
  refine r_iload_n (pc' := 2) d38_1 rfl rfl rfl ?_
  refine r_iload_n (pc' := 3) d38_2 rfl rfl rfl ?_
  refine r_iload_n (pc' := 4) d38_3 rfl rfl rfl ?_
  refine r_iload (pc' := 6) d38_4 rfl rfl ?_
  refine r_call (pc' := 9) [vR (some o), vI _, vI _, vI _, vI _] [] d38_6 rfl o38 (st6_1 6) (rcv1 ho (hlt)) rfl (by decide) ⟨rfl, rfl⟩ (Nat.le_of_ble_eq_true rfl) rfl (k_kind_3_6 ho hlt ?_)
  exact r_ret d38_9 rfl k
theorem k_kind_3_1 {d : Nat} {h : Hp} {Q : Option AV → Hp → Prop} {o : Nat} {v0 v1 v2 v3 : Int32} (ho : SH o = (0, 1)) (hlt : o < hn h) (k : Q none (seti (seti (seti (seti h o 0 v0) o 1 v1) o 2 v2) o 3 v3)) : Spec (d + 1) 8 [vR (some o), vI v0, vI v1, vI v2, vI v3] h Q := by
  refine spec_intro (by decide +kernel) rfl (Nat.le_of_ble_eq_true rfl) ?_
  refine r_aload_n (pc' := 1) d8_0 rfl rfl rfl ?_
  refine r_objInit (pc' := 4) d8_1 rfl o8 st3_1 jo_2 jo_3 (Nat.le_of_ble_eq_true rfl) ?_
  refine r_aload_n (pc' := 5) d8_4 rfl rfl rfl ?_
  refine r_iload_n (pc' := 6) d8_5 rfl rfl rfl ?_
  refine r_putI (pc' := 9) d8_6 rfl o8 sp3_7_1 ho (fun _ => rfl) (Or.inl rfl) (hlt) ?_
  refine r_aload_n (pc' := 10) d8_9 rfl rfl rfl ?_
  refine r_iload_n (pc' := 11) d8_10 rfl rfl rfl ?_
  refine r_putI (pc' := 14) d8_11 rfl o8 sp3_13_1 ho (fun _ => rfl) (Or.inl rfl) (hlt) ?_
  refine r_aload_n (pc' := 15) d8_14 rfl rfl rfl ?_
  refine r_iload_n (pc' := 16) d8_15 rfl rfl rfl ?_
  refine r_putI (pc' := 19) d8_16 rfl o8 sp3_16_1 ho (fun _ => rfl) (Or.inl rfl) (hlt) ?_
  refine r_aload_n (pc' := 20) d8_19 rfl rfl rfl ?_
  refine r_iload (pc' := 22) d8_20 rfl rfl ?_
  refine r_putI (pc' := 25) d8_22 rfl o8 sp3_19_1 ho (fun _ => rfl) (Or.inl rfl) (hlt) ?_
  exact r_ret d8_25 rfl k
theorem k_kind_6_1 {d : Nat} {h : Hp} {Q : Option AV → Hp → Prop} {o : Nat} {v0 v1 v2 v3 : Int32} (ho : SH o = (0, 1)) (hlt : o < hn h) (k : Q none (seti (seti (seti (seti h o 0 v0) o 1 v1) o 2 v2) o 3 v3)) : Spec (d + 2) 38 [vR (some o), vI v0, vI v1, vI v2, vI v3] h Q := by
  refine spec_intro (by decide +kernel) rfl (Nat.le_of_ble_eq_true rfl) ?_
  refine r_aload_n (pc' := 1) d38_0 rfl rfl rfl ?_
  refine r_iload_n (pc' := 2) d38_1 rfl rfl rfl ?_
  refine r_iload_n (pc' := 3) d38_2 rfl rfl rfl ?_
  refine r_iload_n (pc' := 4) d38_3 rfl rfl rfl ?_
  refine r_iload (pc' := 6) d38_4 rfl rfl ?_
  refine r_call (pc' := 9) [vR (some o), vI _, vI _, vI _, vI _] [] d38_6 rfl o38 (st6_1 1) (rcv1 ho (hlt)) rfl (by decide) ⟨rfl, rfl⟩ (Nat.le_of_ble_eq_true rfl) rfl (k_kind_3_1 ho hlt ?_)
  exact r_ret d38_9 rfl k
theorem k_kind_1_1 {d : Nat} {h : Hp} {Q : Option AV → Hp → Prop} {o : Nat} {v0 v1 v2 v3 : Int32} (ho : SH o = (0, 1)) (hlt : o < hn h) (k : Q none (seti (seti (seti (seti h o 0 v0) o 1 v1) o 2 v2) o 3 v3)) : Spec (d + 3) 3 [vR (some o), vI v0, vI v1, vI v2, vI v3] h Q := by
  refine spec_intro (by decide +kernel) rfl (Nat.le_of_ble_eq_true rfl) ?_
  refine r_aload_n (pc' := 1) d3_0 rfl rfl rfl ?_
  refine r_iload_n (pc' := 2) d3_1 rfl rfl rfl ?_
  refine r_iload_n (pc' := 3) d3_2 rfl rfl rfl ?_
  refine r_iload_n (pc' := 4) d3_3 rfl rfl rfl ?_
  refine r_iload (pc' := 6) d3_4 rfl rfl ?_
  refine r_call (pc' := 9) [vR (some o), vI _, vI _, vI _, vI _] [] d3_6 rfl o3 (st1_1 1) (rcv1 ho (hlt)) rfl (by decide) ⟨rfl, rfl⟩ (Nat.le_of_ble_eq_true rfl) rfl (k_kind_6_1 ho hlt ?_)
  exact r_ret d3_9 rfl k
theorem k_kind_3_7 {d : Nat} {h : Hp} {Q : Option AV → Hp → Prop} {o : Nat} {v0 v1 v2 v3 : Int32} (ho : SH o = (0, 7)) (hlt : o < hn h) (k : Q none (seti (seti (seti (seti h o 0 v0) o 1 v1) o 2 v2) o 3 v3)) : Spec (d + 1) 8 [vR (some o), vI v0, vI v1, vI v2, vI v3] h Q := by
  refine spec_intro (by decide +kernel) rfl (Nat.le_of_ble_eq_true rfl) ?_
  refine r_aload_n (pc' := 1) d8_0 rfl rfl rfl ?_
  refine r_objInit (pc' := 4) d8_1 rfl o8 st3_1 jo_2 jo_3 (Nat.le_of_ble_eq_true rfl) ?_
  refine r_aload_n (pc' := 5) d8_4 rfl rfl rfl ?_
  refine r_iload_n (pc' := 6) d8_5 rfl rfl rfl ?_
  refine r_putI (pc' := 9) d8_6 rfl o8 sp3_7_7 ho (fun _ => rfl) (Or.inl rfl) (hlt) ?_
  refine r_aload_n (pc' := 10) d8_9 rfl rfl rfl ?_
  refine r_iload_n (pc' := 11) d8_10 rfl rfl rfl ?_
  refine r_putI (pc' := 14) d8_11 rfl o8 sp3_13_7 ho (fun _ => rfl) (Or.inl rfl) (hlt) ?_
  refine r_aload_n (pc' := 15) d8_14 rfl rfl rfl ?_
  refine r_iload_n (pc' := 16) d8_15 rfl rfl rfl ?_
  refine r_putI (pc' := 19) d8_16 rfl o8 sp3_16_7 ho (fun _ => rfl) (Or.inl rfl) (hlt) ?_
  refine r_aload_n (pc' := 20) d8_19 rfl rfl rfl ?_
  refine r_iload (pc' := 22) d8_20 rfl rfl ?_
  refine r_putI (pc' := 25) d8_22 rfl o8 sp3_19_7 ho (fun _ => rfl) (Or.inl rfl) (hlt) ?_
  exact r_ret d8_25 rfl k
theorem k_kind_6_7 {d : Nat} {h : Hp} {Q : Option AV → Hp → Prop} {o : Nat} {v0 v1 v2 v3 : Int32} (ho : SH o = (0, 7)) (hlt : o < hn h) (k : Q none (seti (seti (seti (seti h o 0 v0) o 1 v1) o 2 v2) o 3 v3)) : Spec (d + 2) 38 [vR (some o), vI v0, vI v1, vI v2, vI v3] h Q := by
  refine spec_intro (by decide +kernel) rfl (Nat.le_of_ble_eq_true rfl) ?_
  refine r_aload_n (pc' := 1) d38_0 rfl rfl rfl ?_
  refine r_iload_n (pc' := 2) d38_1 rfl rfl rfl ?_
  refine r_iload_n (pc' := 3) d38_2 rfl rfl rfl ?_
  refine r_iload_n (pc' := 4) d38_3 rfl rfl rfl ?_
  refine r_iload (pc' := 6) d38_4 rfl rfl ?_
  refine r_call (pc' := 9) [vR (some o), vI _, vI _, vI _, vI _] [] d38_6 rfl o38 (st6_1 7) (rcv1 ho (hlt)) rfl (by decide) ⟨rfl, rfl⟩ (Nat.le_of_ble_eq_true rfl) rfl (k_kind_3_7 ho hlt ?_)
  exact r_ret d38_9 rfl k
theorem k_kind_7_7 {d : Nat} {h : Hp} {Q : Option AV → Hp → Prop} {o : Nat} {v0 v1 v2 v3 : Int32} (ho : SH o = (0, 7)) (hlt : o < hn h) (k : Q none (seti (seti (seti (seti h o 0 v0) o 1 v1) o 2 v2) o 3 v3)) : Spec (d + 3) 42 [vR (some o), vI v0, vI v1, vI v2, vI v3] h Q := by
  refine spec_intro (by decide +kernel) rfl (Nat.le_of_ble_eq_true rfl) ?_
  refine r_aload_n (pc' := 1) d42_0 rfl rfl rfl ?_
  refine r_iload_n (pc' := 2) d42_1 rfl rfl rfl ?_
  refine r_iload_n (pc' := 3) d42_2 rfl rfl rfl ?_
  refine r_iload_n (pc' := 4) d42_3 rfl rfl rfl ?_
  refine r_iload (pc' := 6) d42_4 rfl rfl ?_
  refine r_call (pc' := 9) [vR (some o), vI _, vI _, vI _, vI _] [] d42_6 rfl o42 (st7_1 7) (rcv1 ho (hlt)) rfl (by decide) ⟨rfl, rfl⟩ (Nat.le_of_ble_eq_true rfl) rfl (k_kind_6_7 ho hlt ?_)
  exact r_ret d42_9 rfl k
theorem k_kind_3_0 {d : Nat} {h : Hp} {Q : Option AV → Hp → Prop} {o : Nat} {v0 v1 v2 v3 : Int32} (ho : SH o = (0, 0)) (hlt : o < hn h) (k : Q none (seti (seti (seti (seti h o 0 v0) o 1 v1) o 2 v2) o 3 v3)) : Spec (d + 1) 8 [vR (some o), vI v0, vI v1, vI v2, vI v3] h Q := by
  refine spec_intro (by decide +kernel) rfl (Nat.le_of_ble_eq_true rfl) ?_
  refine r_aload_n (pc' := 1) d8_0 rfl rfl rfl ?_
  refine r_objInit (pc' := 4) d8_1 rfl o8 st3_1 jo_2 jo_3 (Nat.le_of_ble_eq_true rfl) ?_
  refine r_aload_n (pc' := 5) d8_4 rfl rfl rfl ?_
  refine r_iload_n (pc' := 6) d8_5 rfl rfl rfl ?_
  refine r_putI (pc' := 9) d8_6 rfl o8 sp3_7_0 ho (fun _ => rfl) (Or.inl rfl) (hlt) ?_
  refine r_aload_n (pc' := 10) d8_9 rfl rfl rfl ?_
  refine r_iload_n (pc' := 11) d8_10 rfl rfl rfl ?_
  refine r_putI (pc' := 14) d8_11 rfl o8 sp3_13_0 ho (fun _ => rfl) (Or.inl rfl) (hlt) ?_
  refine r_aload_n (pc' := 15) d8_14 rfl rfl rfl ?_
  refine r_iload_n (pc' := 16) d8_15 rfl rfl rfl ?_
  refine r_putI (pc' := 19) d8_16 rfl o8 sp3_16_0 ho (fun _ => rfl) (Or.inl rfl) (hlt) ?_
  refine r_aload_n (pc' := 20) d8_19 rfl rfl rfl ?_
  refine r_iload (pc' := 22) d8_20 rfl rfl ?_
  refine r_putI (pc' := 25) d8_22 rfl o8 sp3_19_0 ho (fun _ => rfl) (Or.inl rfl) (hlt) ?_
  exact r_ret d8_25 rfl k
theorem k_kind_0_0 {d : Nat} {h : Hp} {Q : Option AV → Hp → Prop} {o : Nat} {v0 v1 v2 v3 : Int32} (ho : SH o = (0, 0)) (hlt : o < hn h) (k : Q none (seti (seti (seti (seti h o 0 v0) o 1 v1) o 2 v2) o 3 v3)) : Spec (d + 2) 0 [vR (some o), vI v0, vI v1, vI v2, vI v3] h Q := by
  refine spec_intro (by decide +kernel) rfl (Nat.le_of_ble_eq_true rfl) ?_
  refine r_aload_n (pc' := 1) d0_0 rfl rfl rfl ?_
  refine r_iload_n (pc' := 2) d0_1 rfl rfl rfl ?_
  refine r_iload_n (pc' := 3) d0_2 rfl rfl rfl ?_
  refine r_iload_n (pc' := 4) d0_3 rfl rfl rfl ?_
  refine r_iload (pc' := 6) d0_4 rfl rfl ?_
  refine r_call (pc' := 9) [vR (some o), vI _, vI _, vI _, vI _] [] d0_6 rfl o0 (st0_1 0) (rcv1 ho (hlt)) rfl (by decide) ⟨rfl, rfl⟩ (Nat.le_of_ble_eq_true rfl) rfl (k_kind_3_0 ho hlt ?_)
  exact r_ret d0_9 rfl k
theorem k_kind_3_2 {d : Nat} {h : Hp} {Q : Option AV → Hp → Prop} {o : Nat} {v0 v1 v2 v3 : Int32} (ho : SH o = (0, 2)) (hlt : o < hn h) (k : Q none (seti (seti (seti (seti h o 0 v0) o 1 v1) o 2 v2) o 3 v3)) : Spec (d + 1) 8 [vR (some o), vI v0, vI v1, vI v2, vI v3] h Q := by
  refine spec_intro (by decide +kernel) rfl (Nat.le_of_ble_eq_true rfl) ?_
  refine r_aload_n (pc' := 1) d8_0 rfl rfl rfl ?_
  refine r_objInit (pc' := 4) d8_1 rfl o8 st3_1 jo_2 jo_3 (Nat.le_of_ble_eq_true rfl) ?_
  refine r_aload_n (pc' := 5) d8_4 rfl rfl rfl ?_
  refine r_iload_n (pc' := 6) d8_5 rfl rfl rfl ?_
  refine r_putI (pc' := 9) d8_6 rfl o8 sp3_7_2 ho (fun _ => rfl) (Or.inl rfl) (hlt) ?_
  refine r_aload_n (pc' := 10) d8_9 rfl rfl rfl ?_
  refine r_iload_n (pc' := 11) d8_10 rfl rfl rfl ?_
  refine r_putI (pc' := 14) d8_11 rfl o8 sp3_13_2 ho (fun _ => rfl) (Or.inl rfl) (hlt) ?_
  refine r_aload_n (pc' := 15) d8_14 rfl rfl rfl ?_
  refine r_iload_n (pc' := 16) d8_15 rfl rfl rfl ?_
  refine r_putI (pc' := 19) d8_16 rfl o8 sp3_16_2 ho (fun _ => rfl) (Or.inl rfl) (hlt) ?_
  refine r_aload_n (pc' := 20) d8_19 rfl rfl rfl ?_
  refine r_iload (pc' := 22) d8_20 rfl rfl ?_
  refine r_putI (pc' := 25) d8_22 rfl o8 sp3_19_2 ho (fun _ => rfl) (Or.inl rfl) (hlt) ?_
  exact r_ret d8_25 rfl k
theorem k_kind_0_2 {d : Nat} {h : Hp} {Q : Option AV → Hp → Prop} {o : Nat} {v0 v1 v2 v3 : Int32} (ho : SH o = (0, 2)) (hlt : o < hn h) (k : Q none (seti (seti (seti (seti h o 0 v0) o 1 v1) o 2 v2) o 3 v3)) : Spec (d + 2) 0 [vR (some o), vI v0, vI v1, vI v2, vI v3] h Q := by
  refine spec_intro (by decide +kernel) rfl (Nat.le_of_ble_eq_true rfl) ?_
  refine r_aload_n (pc' := 1) d0_0 rfl rfl rfl ?_
  refine r_iload_n (pc' := 2) d0_1 rfl rfl rfl ?_
  refine r_iload_n (pc' := 3) d0_2 rfl rfl rfl ?_
  refine r_iload_n (pc' := 4) d0_3 rfl rfl rfl ?_
  refine r_iload (pc' := 6) d0_4 rfl rfl ?_
  refine r_call (pc' := 9) [vR (some o), vI _, vI _, vI _, vI _] [] d0_6 rfl o0 (st0_1 2) (rcv1 ho (hlt)) rfl (by decide) ⟨rfl, rfl⟩ (Nat.le_of_ble_eq_true rfl) rfl (k_kind_3_2 ho hlt ?_)
  exact r_ret d0_9 rfl k
theorem k_kind_2_2 {d : Nat} {h : Hp} {Q : Option AV → Hp → Prop} {o : Nat} {v0 v1 v2 v3 : Int32} (ho : SH o = (0, 2)) (hlt : o < hn h) (k : Q none (seti (seti (seti (seti h o 0 v0) o 1 v1) o 2 v2) o 3 v3)) : Spec (d + 3) 6 [vR (some o), vI v0, vI v1, vI v2, vI v3] h Q := by
  refine spec_intro (by decide +kernel) rfl (Nat.le_of_ble_eq_true rfl) ?_
  refine r_aload_n (pc' := 1) d6_0 rfl rfl rfl ?_
  refine r_iload_n (pc' := 2) d6_1 rfl rfl rfl ?_
  refine r_iload_n (pc' := 3) d6_2 rfl rfl rfl ?_
  refine r_iload_n (pc' := 4) d6_3 rfl rfl rfl ?_
  refine r_iload (pc' := 6) d6_4 rfl rfl ?_
  refine r_call (pc' := 9) [vR (some o), vI _, vI _, vI _, vI _] [] d6_6 rfl o6 (st2_1 2) (rcv1 ho (hlt)) rfl (by decide) ⟨rfl, rfl⟩ (Nat.le_of_ble_eq_true rfl) rfl (k_kind_0_2 ho hlt ?_)
  exact r_ret d6_9 rfl k
def hp0 : Hp := (0, fun _ _ => 0, fun _ _ => none)
theorem hn0_ : hn hp0 = 0 := rfl
theorem vl0 : Val hp0 := fun k j x hk _ => absurd hk (Nat.not_lt_zero _)
def hp1 : Hp := grow hp0
theorem hn1_ : hn hp1 = 1 := hn_g hn0_
theorem vl1 : Val hp1 := vl0.grow
def hp2 : Hp := grow hp1
theorem hn2_ : hn hp2 = 2 := hn_g hn1_
theorem vl2 : Val hp2 := vl1.grow
def hp3 : Hp := grow hp2
theorem hn3_ : hn hp3 = 3 := hn_g hn2_
theorem vl3 : Val hp3 := vl2.grow
def hp4 : Hp := setr hp3 1 0 (some 2)
theorem hn4_ : hn hp4 = 3 := by rw [hp4, hn_sr, hn3_]
theorem vl4 : Val hp4 := vl3.setr _ _ _ (ltk hn3_ (by decide))
def hp5 : Hp := grow hp4
theorem hn5_ : hn hp5 = 4 := hn_g hn4_
theorem vl5 : Val hp5 := vl4.grow
def hp6 : Hp := setr hp5 1 1 (some 3)
theorem hn6_ : hn hp6 = 4 := by rw [hp6, hn_sr, hn5_]
theorem vl6 : Val hp6 := vl5.setr _ _ _ (ltk hn5_ (by decide))
def hp7 : Hp := grow hp6
theorem hn7_ : hn hp7 = 5 := hn_g hn6_
theorem vl7 : Val hp7 := vl6.grow
def hp8 : Hp := setr hp7 1 2 (some 4)
theorem hn8_ : hn hp8 = 5 := by rw [hp8, hn_sr, hn7_]
theorem vl8 : Val hp8 := vl7.setr _ _ _ (ltk hn7_ (by decide))
def hp9 : Hp := seti hp8 3 0 (-1)
theorem hn9_ : hn hp9 = 5 := by rw [hp9, hn_si, hn8_]
theorem vl9 : Val hp9 := vl8.seti _ _ _
def hp10 : Hp := seti hp9 3 1 (-1)
theorem hn10_ : hn hp10 = 5 := by rw [hp10, hn_si, hn9_]
theorem vl10 : Val hp10 := vl9.seti _ _ _
def hp11 : Hp := seti hp10 3 2 (-1)
theorem hn11_ : hn hp11 = 5 := by rw [hp11, hn_si, hn10_]
theorem vl11 : Val hp11 := vl10.seti _ _ _
def hp12 : Hp := seti hp11 3 3 (-1)
theorem hn12_ : hn hp12 = 5 := by rw [hp12, hn_si, hn11_]
theorem vl12 : Val hp12 := vl11.seti _ _ _
def hp13 : Hp := seti hp12 3 4 (-1)
theorem hn13_ : hn hp13 = 5 := by rw [hp13, hn_si, hn12_]
theorem vl13 : Val hp13 := vl12.seti _ _ _
def hp14 : Hp := seti hp13 3 5 (-1)
theorem hn14_ : hn hp14 = 5 := by rw [hp14, hn_si, hn13_]
theorem vl14 : Val hp14 := vl13.seti _ _ _
def hp15 : Hp := seti hp14 3 6 (-1)
theorem hn15_ : hn hp15 = 5 := by rw [hp15, hn_si, hn14_]
theorem vl15 : Val hp15 := vl14.seti _ _ _
def hp16 : Hp := seti hp15 3 7 (-1)
theorem hn16_ : hn hp16 = 5 := by rw [hp16, hn_si, hn15_]
theorem vl16 : Val hp16 := vl15.seti _ _ _
theorem k_mk2 {d : Nat} {Q : Option AV → Hp → Prop} (k : Q none hp16) : Spec (d + 1) 27 [vR (some 1)] hp2 Q := by
  refine spec_intro (by decide +kernel) rfl (Nat.le_of_ble_eq_true rfl) ?_
  refine r_aload_n (pc' := 1) d27_0 rfl rfl rfl ?_
  refine r_objInit (pc' := 4) d27_1 rfl o27 st5_1 jo_2 jo_3 (Nat.le_of_ble_eq_true rfl) ?_
  refine r_aload_n (pc' := 5) d27_4 rfl rfl rfl ?_
  refine r_sipush (v := 320) (pc' := 8) d27_5 rfl (by decide) ?_
  refine r_newIk (pc' := 10) hn2_ d27_8 rfl rfl (by decide) (by decide) (by decide) vl2 rfl rfl (Nat.le_of_ble_eq_true rfl) (Nat.le_of_ble_eq_true rfl) ?_
  refine wp_heap (show _ = hp3 from rfl) ?_
  refine r_putR (pc' := 13) d27_10 rfl o27 sp5_9_5 sh1 (fun _ => rfl) (Or.inr ⟨_, rfl⟩) (ltk hn3_ (by decide)) ?_
  refine wp_heap (show _ = hp4 from rfl) ?_
  refine r_aload_n (pc' := 14) d27_13 rfl rfl rfl ?_
  refine r_bipush (v := 8) (pc' := 16) d27_14 rfl (by decide) ?_
  refine r_newIk (pc' := 18) hn4_ d27_16 rfl rfl (by decide) (by decide) (by decide) vl4 rfl rfl (Nat.le_of_ble_eq_true rfl) (Nat.le_of_ble_eq_true rfl) ?_
  refine wp_heap (show _ = hp5 from rfl) ?_
  refine r_putR (pc' := 21) d27_18 rfl o27 sp5_13_5 sh1 (fun _ => rfl) (Or.inr ⟨_, rfl⟩) (ltk hn5_ (by decide)) ?_
  refine wp_heap (show _ = hp6 from rfl) ?_
  refine r_aload_n (pc' := 22) d27_21 rfl rfl rfl ?_
  refine r_bipush (v := 8) (pc' := 24) d27_22 rfl (by decide) ?_
  refine r_newIk (pc' := 26) hn6_ d27_24 rfl rfl (by decide) (by decide) (by decide) vl6 rfl rfl (Nat.le_of_ble_eq_true rfl) (Nat.le_of_ble_eq_true rfl) ?_
  refine wp_heap (show _ = hp7 from rfl) ?_
  refine r_putR (pc' := 29) d27_26 rfl o27 sp5_16_5 sh1 (fun _ => rfl) (Or.inr ⟨_, rfl⟩) (ltk hn7_ (by decide)) ?_
  refine wp_heap (show _ = hp8 from rfl) ?_
  refine r_iconst (v := 0) (pc' := 30) d27_29 rfl (by decide) ?_
  refine r_istore_n (pc' := 31) (ls' := [(1, vI _), (0, vR (some 1))]) d27_30 rfl rfl (by decide) rfl ?_
  refine r_iload_n (pc' := 32) d27_31 rfl rfl rfl ?_
  refine r_bipush (v := 8) (pc' := 34) d27_32 rfl (by decide) ?_
  refine r_icmp_ge 50 (pc' := 37) d27_34 rfl rfl (fun c34 => absurd c34 (by decide)) (fun c34 => ?_)
  refine r_aload_n (pc' := 38) d27_37 rfl rfl rfl ?_
  refine r_getS (pc' := 41) d27_38 rfl o27 sf5_13_5 sh1 (ltk hn8_ (by decide)) (show hr hp8 1 1 = some 3 by decide +kernel) ?_
  refine r_iload_n (pc' := 42) d27_41 rfl rfl rfl ?_
  refine r_iconst (v := (-1)) (pc' := 43) d27_42 rfl (by decide) ?_
  refine r_iastN (pc' := 44) (j := 0) d27_43 rfl sh3 (ltk hn8_ (by decide)) (by decide) (by decide) (by decide) ?_
  refine wp_heap (show _ = hp9 from rfl) ?_
  refine r_iinc (v := _ + 1) (pc' := 47) (ls' := [(1, vI _), (0, vR (some 1))]) d27_44 rfl rfl rfl (by decide) rfl ?_
  refine r_goto 31 d27_47 rfl ?_
  refine r_iload_n (pc' := 32) d27_31 rfl rfl rfl ?_
  refine r_bipush (v := 8) (pc' := 34) d27_32 rfl (by decide) ?_
  refine r_icmp_ge 50 (pc' := 37) d27_34 rfl rfl (fun c34 => absurd c34 (by decide)) (fun c34 => ?_)
  refine r_aload_n (pc' := 38) d27_37 rfl rfl rfl ?_
  refine r_getS (pc' := 41) d27_38 rfl o27 sf5_13_5 sh1 (ltk hn9_ (by decide)) (show hr hp9 1 1 = some 3 by decide +kernel) ?_
  refine r_iload_n (pc' := 42) d27_41 rfl rfl rfl ?_
  refine r_iconst (v := (-1)) (pc' := 43) d27_42 rfl (by decide) ?_
  refine r_iastN (pc' := 44) (j := 1) d27_43 rfl sh3 (ltk hn9_ (by decide)) (by decide) (by decide) (by decide) ?_
  refine wp_heap (show _ = hp10 from rfl) ?_
  refine r_iinc (v := _ + 1) (pc' := 47) (ls' := [(1, vI _), (0, vR (some 1))]) d27_44 rfl rfl rfl (by decide) rfl ?_
  refine r_goto 31 d27_47 rfl ?_
  refine r_iload_n (pc' := 32) d27_31 rfl rfl rfl ?_
  refine r_bipush (v := 8) (pc' := 34) d27_32 rfl (by decide) ?_
  refine r_icmp_ge 50 (pc' := 37) d27_34 rfl rfl (fun c34 => absurd c34 (by decide)) (fun c34 => ?_)
  refine r_aload_n (pc' := 38) d27_37 rfl rfl rfl ?_
  refine r_getS (pc' := 41) d27_38 rfl o27 sf5_13_5 sh1 (ltk hn10_ (by decide)) (show hr hp10 1 1 = some 3 by decide +kernel) ?_
  refine r_iload_n (pc' := 42) d27_41 rfl rfl rfl ?_
  refine r_iconst (v := (-1)) (pc' := 43) d27_42 rfl (by decide) ?_
  refine r_iastN (pc' := 44) (j := 2) d27_43 rfl sh3 (ltk hn10_ (by decide)) (by decide) (by decide) (by decide) ?_
  refine wp_heap (show _ = hp11 from rfl) ?_
  refine r_iinc (v := _ + 1) (pc' := 47) (ls' := [(1, vI _), (0, vR (some 1))]) d27_44 rfl rfl rfl (by decide) rfl ?_
  refine r_goto 31 d27_47 rfl ?_
  refine r_iload_n (pc' := 32) d27_31 rfl rfl rfl ?_
  refine r_bipush (v := 8) (pc' := 34) d27_32 rfl (by decide) ?_
  refine r_icmp_ge 50 (pc' := 37) d27_34 rfl rfl (fun c34 => absurd c34 (by decide)) (fun c34 => ?_)
  refine r_aload_n (pc' := 38) d27_37 rfl rfl rfl ?_
  refine r_getS (pc' := 41) d27_38 rfl o27 sf5_13_5 sh1 (ltk hn11_ (by decide)) (show hr hp11 1 1 = some 3 by decide +kernel) ?_
  refine r_iload_n (pc' := 42) d27_41 rfl rfl rfl ?_
  refine r_iconst (v := (-1)) (pc' := 43) d27_42 rfl (by decide) ?_
  refine r_iastN (pc' := 44) (j := 3) d27_43 rfl sh3 (ltk hn11_ (by decide)) (by decide) (by decide) (by decide) ?_
  refine wp_heap (show _ = hp12 from rfl) ?_
  refine r_iinc (v := _ + 1) (pc' := 47) (ls' := [(1, vI _), (0, vR (some 1))]) d27_44 rfl rfl rfl (by decide) rfl ?_
  refine r_goto 31 d27_47 rfl ?_
  refine r_iload_n (pc' := 32) d27_31 rfl rfl rfl ?_
  refine r_bipush (v := 8) (pc' := 34) d27_32 rfl (by decide) ?_
  refine r_icmp_ge 50 (pc' := 37) d27_34 rfl rfl (fun c34 => absurd c34 (by decide)) (fun c34 => ?_)
  refine r_aload_n (pc' := 38) d27_37 rfl rfl rfl ?_
  refine r_getS (pc' := 41) d27_38 rfl o27 sf5_13_5 sh1 (ltk hn12_ (by decide)) (show hr hp12 1 1 = some 3 by decide +kernel) ?_
  refine r_iload_n (pc' := 42) d27_41 rfl rfl rfl ?_
  refine r_iconst (v := (-1)) (pc' := 43) d27_42 rfl (by decide) ?_
  refine r_iastN (pc' := 44) (j := 4) d27_43 rfl sh3 (ltk hn12_ (by decide)) (by decide) (by decide) (by decide) ?_
  refine wp_heap (show _ = hp13 from rfl) ?_
  refine r_iinc (v := _ + 1) (pc' := 47) (ls' := [(1, vI _), (0, vR (some 1))]) d27_44 rfl rfl rfl (by decide) rfl ?_
  refine r_goto 31 d27_47 rfl ?_
  refine r_iload_n (pc' := 32) d27_31 rfl rfl rfl ?_
  refine r_bipush (v := 8) (pc' := 34) d27_32 rfl (by decide) ?_
  refine r_icmp_ge 50 (pc' := 37) d27_34 rfl rfl (fun c34 => absurd c34 (by decide)) (fun c34 => ?_)
  refine r_aload_n (pc' := 38) d27_37 rfl rfl rfl ?_
  refine r_getS (pc' := 41) d27_38 rfl o27 sf5_13_5 sh1 (ltk hn13_ (by decide)) (show hr hp13 1 1 = some 3 by decide +kernel) ?_
  refine r_iload_n (pc' := 42) d27_41 rfl rfl rfl ?_
  refine r_iconst (v := (-1)) (pc' := 43) d27_42 rfl (by decide) ?_
  refine r_iastN (pc' := 44) (j := 5) d27_43 rfl sh3 (ltk hn13_ (by decide)) (by decide) (by decide) (by decide) ?_
  refine wp_heap (show _ = hp14 from rfl) ?_
  refine r_iinc (v := _ + 1) (pc' := 47) (ls' := [(1, vI _), (0, vR (some 1))]) d27_44 rfl rfl rfl (by decide) rfl ?_
  refine r_goto 31 d27_47 rfl ?_
  refine r_iload_n (pc' := 32) d27_31 rfl rfl rfl ?_
  refine r_bipush (v := 8) (pc' := 34) d27_32 rfl (by decide) ?_
  refine r_icmp_ge 50 (pc' := 37) d27_34 rfl rfl (fun c34 => absurd c34 (by decide)) (fun c34 => ?_)
  refine r_aload_n (pc' := 38) d27_37 rfl rfl rfl ?_
  refine r_getS (pc' := 41) d27_38 rfl o27 sf5_13_5 sh1 (ltk hn14_ (by decide)) (show hr hp14 1 1 = some 3 by decide +kernel) ?_
  refine r_iload_n (pc' := 42) d27_41 rfl rfl rfl ?_
  refine r_iconst (v := (-1)) (pc' := 43) d27_42 rfl (by decide) ?_
  refine r_iastN (pc' := 44) (j := 6) d27_43 rfl sh3 (ltk hn14_ (by decide)) (by decide) (by decide) (by decide) ?_
  refine wp_heap (show _ = hp15 from rfl) ?_
  refine r_iinc (v := _ + 1) (pc' := 47) (ls' := [(1, vI _), (0, vR (some 1))]) d27_44 rfl rfl rfl (by decide) rfl ?_
  refine r_goto 31 d27_47 rfl ?_
  refine r_iload_n (pc' := 32) d27_31 rfl rfl rfl ?_
  refine r_bipush (v := 8) (pc' := 34) d27_32 rfl (by decide) ?_
  refine r_icmp_ge 50 (pc' := 37) d27_34 rfl rfl (fun c34 => absurd c34 (by decide)) (fun c34 => ?_)
  refine r_aload_n (pc' := 38) d27_37 rfl rfl rfl ?_
  refine r_getS (pc' := 41) d27_38 rfl o27 sf5_13_5 sh1 (ltk hn15_ (by decide)) (show hr hp15 1 1 = some 3 by decide +kernel) ?_
  refine r_iload_n (pc' := 42) d27_41 rfl rfl rfl ?_
  refine r_iconst (v := (-1)) (pc' := 43) d27_42 rfl (by decide) ?_
  refine r_iastN (pc' := 44) (j := 7) d27_43 rfl sh3 (ltk hn15_ (by decide)) (by decide) (by decide) (by decide) ?_
  refine wp_heap (show _ = hp16 from rfl) ?_
  refine r_iinc (v := _ + 1) (pc' := 47) (ls' := [(1, vI _), (0, vR (some 1))]) d27_44 rfl rfl rfl (by decide) rfl ?_
  refine r_goto 31 d27_47 rfl ?_
  refine r_iload_n (pc' := 32) d27_31 rfl rfl rfl ?_
  refine r_bipush (v := 8) (pc' := 34) d27_32 rfl (by decide) ?_
  refine r_icmp_ge 50 (pc' := 37) d27_34 rfl rfl (fun c34 => ?_) (fun c34 => absurd (by decide) c34)
  exact r_ret d27_50 rfl k
def hp17 : Hp := setr hp16 0 0 (some 1)
theorem hn17_ : hn hp17 = 5 := by rw [hp17, hn_sr, hn16_]
theorem vl17 : Val hp17 := vl16.setr _ _ _ (ltk hn16_ (by decide))
def hp18 : Hp := grow hp17
theorem hn18_ : hn hp18 = 6 := hn_g hn17_
theorem vl18 : Val hp18 := vl17.grow
def hp19 : Hp := grow hp18
theorem hn19_ : hn hp19 = 7 := hn_g hn18_
theorem vl19 : Val hp19 := vl18.grow
def hp20 : Hp := setr hp19 5 0 (some 6)
theorem hn20_ : hn hp20 = 7 := by rw [hp20, hn_sr, hn19_]
theorem vl20 : Val hp20 := vl19.setr _ _ _ (ltk hn19_ (by decide))
theorem k_mk3 {d : Nat} {Q : Option AV → Hp → Prop} (k : Q none hp20) : Spec (d + 1) 13 [vR (some 5)] hp18 Q := by
  refine spec_intro (by decide +kernel) rfl (Nat.le_of_ble_eq_true rfl) ?_
  refine r_aload_n (pc' := 1) d13_0 rfl rfl rfl ?_
  refine r_objInit (pc' := 4) d13_1 rfl o13 st4_3 jo_2 jo_3 (Nat.le_of_ble_eq_true rfl) ?_
  refine r_aload_n (pc' := 5) d13_4 rfl rfl rfl ?_
  refine r_sipush (v := 160) (pc' := 8) d13_5 rfl (by decide) ?_
  refine r_newIk (pc' := 10) hn18_ d13_8 rfl rfl (by decide) (by decide) (by decide) vl18 rfl rfl (Nat.le_of_ble_eq_true rfl) (Nat.le_of_ble_eq_true rfl) ?_
  refine wp_heap (show _ = hp19 from rfl) ?_
  refine r_putR (pc' := 13) d13_10 rfl o13 sp4_11_4 sh5 (fun _ => rfl) (Or.inr ⟨_, rfl⟩) (ltk hn19_ (by decide)) ?_
  refine wp_heap (show _ = hp20 from rfl) ?_
  exact r_ret d13_13 rfl k
def hp21 : Hp := setr hp20 0 1 (some 5)
theorem hn21_ : hn hp21 = 7 := by rw [hp21, hn_sr, hn20_]
theorem vl21 : Val hp21 := vl20.setr _ _ _ (ltk hn20_ (by decide))
def hp22 : Hp := grow hp21
theorem hn22_ : hn hp22 = 8 := hn_g hn21_
theorem vl22 : Val hp22 := vl21.grow
def hp23 : Hp := grow hp22
theorem hn23_ : hn hp23 = 9 := hn_g hn22_
theorem vl23 : Val hp23 := vl22.grow
def hp24 : Hp := setr hp23 7 0 (some 8)
theorem hn24_ : hn hp24 = 9 := by rw [hp24, hn_sr, hn23_]
theorem vl24 : Val hp24 := vl23.setr _ _ _ (ltk hn23_ (by decide))
theorem k_mk4 {d : Nat} {Q : Option AV → Hp → Prop} (k : Q none hp24) : Spec (d + 1) 57 [vR (some 7)] hp22 Q := by
  refine spec_intro (by decide +kernel) rfl (Nat.le_of_ble_eq_true rfl) ?_
  refine r_aload_n (pc' := 1) d57_0 rfl rfl rfl ?_
  refine r_objInit (pc' := 4) d57_1 rfl o57 st9_1 jo_2 jo_3 (Nat.le_of_ble_eq_true rfl) ?_
  refine r_aload_n (pc' := 5) d57_4 rfl rfl rfl ?_
  refine r_bipush (v := 16) (pc' := 7) d57_5 rfl (by decide) ?_
  refine r_newIk (pc' := 9) hn22_ d57_7 rfl rfl (by decide) (by decide) (by decide) vl22 rfl rfl (Nat.le_of_ble_eq_true rfl) (Nat.le_of_ble_eq_true rfl) ?_
  refine wp_heap (show _ = hp23 from rfl) ?_
  refine r_putR (pc' := 12) d57_9 rfl o57 sp9_7_9 sh7 (fun _ => rfl) (Or.inr ⟨_, rfl⟩) (ltk hn23_ (by decide)) ?_
  refine wp_heap (show _ = hp24 from rfl) ?_
  exact r_ret d57_12 rfl k
def hp25 : Hp := setr hp24 0 2 (some 7)
theorem hn25_ : hn hp25 = 9 := by rw [hp25, hn_sr, hn24_]
theorem vl25 : Val hp25 := vl24.setr _ _ _ (ltk hn24_ (by decide))
def hp26 : Hp := grow hp25
theorem hn26_ : hn hp26 = 10 := hn_g hn25_
theorem vl26 : Val hp26 := vl25.grow
def hp27 : Hp := grow hp26
theorem hn27_ : hn hp27 = 11 := hn_g hn26_
theorem vl27 : Val hp27 := vl26.grow
def hp28 : Hp := seti (seti (seti (seti (hp27) 10 0 (0)) 10 1 (1)) 10 2 (0)) 10 3 (0)
theorem hn28_ : hn hp28 = 11 := by rw [hp28, hn_si, hn_si, hn_si, hn_si, hn27_]
theorem vl28 : Val hp28 := (((vl27.seti _ _ _).seti _ _ _).seti _ _ _).seti _ _ _
def hp29 : Hp := setr hp28 9 0 (some 10)
theorem hn29_ : hn hp29 = 11 := by rw [hp29, hn_sr, hn28_]
theorem vl29 : Val hp29 := vl28.setr _ _ _ (ltk hn28_ (by decide))
def hp30 : Hp := grow hp29
theorem hn30_ : hn hp30 = 12 := hn_g hn29_
theorem vl30 : Val hp30 := vl29.grow
def hp31 : Hp := seti (seti (seti (seti (hp30) 11 0 (1)) 11 1 (8)) 11 2 (40)) 11 3 (90)
theorem hn31_ : hn hp31 = 12 := by rw [hp31, hn_si, hn_si, hn_si, hn_si, hn30_]
theorem vl31 : Val hp31 := (((vl30.seti _ _ _).seti _ _ _).seti _ _ _).seti _ _ _
def hp32 : Hp := setr hp31 9 1 (some 11)
theorem hn32_ : hn hp32 = 12 := by rw [hp32, hn_sr, hn31_]
theorem vl32 : Val hp32 := vl31.setr _ _ _ (ltk hn31_ (by decide))
def hp33 : Hp := grow hp32
theorem hn33_ : hn hp33 = 13 := hn_g hn32_
theorem vl33 : Val hp33 := vl32.grow
def hp34 : Hp := seti (seti (seti (seti (hp33) 12 0 (2)) 12 1 (16)) 12 2 (80)) 12 3 (120)
theorem hn34_ : hn hp34 = 13 := by rw [hp34, hn_si, hn_si, hn_si, hn_si, hn33_]
theorem vl34 : Val hp34 := (((vl33.seti _ _ _).seti _ _ _).seti _ _ _).seti _ _ _
def hp35 : Hp := setr hp34 9 2 (some 12)
theorem hn35_ : hn hp35 = 13 := by rw [hp35, hn_sr, hn34_]
theorem vl35 : Val hp35 := vl34.setr _ _ _ (ltk hn34_ (by decide))
def hp36 : Hp := grow hp35
theorem hn36_ : hn hp36 = 14 := hn_g hn35_
theorem vl36 : Val hp36 := vl35.grow
def hp37 : Hp := seti (seti (seti (seti (hp36) 13 0 (3)) 13 1 (4)) 13 2 (20)) 13 3 (45)
theorem hn37_ : hn hp37 = 14 := by rw [hp37, hn_si, hn_si, hn_si, hn_si, hn36_]
theorem vl37 : Val hp37 := (((vl36.seti _ _ _).seti _ _ _).seti _ _ _).seti _ _ _
def hp38 : Hp := setr hp37 9 3 (some 13)
theorem hn38_ : hn hp38 = 14 := by rw [hp38, hn_sr, hn37_]
theorem vl38 : Val hp38 := vl37.setr _ _ _ (ltk hn37_ (by decide))
def hp39 : Hp := grow hp38
theorem hn39_ : hn hp39 = 15 := hn_g hn38_
theorem vl39 : Val hp39 := vl38.grow
def hp40 : Hp := seti (seti (seti (seti (hp39) 14 0 (4)) 14 1 (6)) 14 2 (15)) 14 3 (70)
theorem hn40_ : hn hp40 = 15 := by rw [hp40, hn_si, hn_si, hn_si, hn_si, hn39_]
theorem vl40 : Val hp40 := (((vl39.seti _ _ _).seti _ _ _).seti _ _ _).seti _ _ _
def hp41 : Hp := setr hp40 9 4 (some 14)
theorem hn41_ : hn hp41 = 15 := by rw [hp41, hn_sr, hn40_]
theorem vl41 : Val hp41 := vl40.setr _ _ _ (ltk hn40_ (by decide))
def hp42 : Hp := grow hp41
theorem hn42_ : hn hp42 = 16 := hn_g hn41_
theorem vl42 : Val hp42 := vl41.grow
def hp43 : Hp := seti (seti (seti (seti (hp42) 15 0 (5)) 15 1 (10)) 15 2 (50)) 15 3 (100)
theorem hn43_ : hn hp43 = 16 := by rw [hp43, hn_si, hn_si, hn_si, hn_si, hn42_]
theorem vl43 : Val hp43 := (((vl42.seti _ _ _).seti _ _ _).seti _ _ _).seti _ _ _
def hp44 : Hp := setr hp43 9 5 (some 15)
theorem hn44_ : hn hp44 = 16 := by rw [hp44, hn_sr, hn43_]
theorem vl44 : Val hp44 := vl43.setr _ _ _ (ltk hn43_ (by decide))
theorem k_mk5 {d : Nat} {Q : Option AV → Hp → Prop} (k : Q (some (vR (some 9))) hp44) : Spec (d + 4) 86 [] hp25 Q := by
  refine spec_intro (by decide +kernel) rfl (Nat.le_of_ble_eq_true rfl) ?_
  refine r_bipush (v := 6) (pc' := 2) d86_0 rfl (by decide) ?_
  refine r_newKk (pc' := 5) hn25_ d86_2 rfl o86 kl11_76 rfl (by decide) (by decide) (by decide) vl25 rfl rfl (Nat.le_of_ble_eq_true rfl) (Nat.le_of_ble_eq_true rfl) ?_
  refine wp_heap (show _ = hp26 from rfl) ?_
  refine r_astore_n (pc' := 6) (ls' := [(0, vR (some 9))]) d86_5 rfl rfl (by decide) rfl ?_
  refine r_aload_n (pc' := 7) d86_6 rfl rfl rfl ?_
  refine r_iconst (v := 0) (pc' := 8) d86_7 rfl (by decide) ?_
  refine r_newk (pc' := 11) hn26_ d86_8 rfl o86 sn11_76 rfl vl26 rfl rfl (Nat.le_of_ble_eq_true rfl) (Nat.le_of_ble_eq_true rfl) ?_
  refine wp_heap (show _ = hp27 from rfl) ?_
  refine r_dupR (pc' := 12) d86_11 rfl ?_
  refine r_iconst (v := 0) (pc' := 13) d86_12 rfl (by decide) ?_
  refine r_iconst (v := 1) (pc' := 14) d86_13 rfl (by decide) ?_
  refine r_iconst (v := 0) (pc' := 15) d86_14 rfl (by decide) ?_
  refine r_iconst (v := 0) (pc' := 16) d86_15 rfl (by decide) ?_
  refine r_callA (pc' := 19) [vR (some 10), vI _, vI _, vI _, vI _] [vR (some 10), vI _, vR (some 9)] d86_16 rfl o86 (st11_78 3) (rcv1 sh10 (ltk hn27_ (by decide))) rfl (by decide) (by decide +kernel) rfl rfl (Nat.le_of_ble_eq_true rfl) rfl (Nat.le_of_ble_eq_true rfl) (Nat.le_of_ble_eq_true rfl) (k_kind_3_3 sh10 (ltk hn27_ (by decide)) ?_)
  refine wp_heap (show _ = hp28 from rfl) ?_
  refine r_aastK (pc' := 20) d86_19 rfl sh9 (ltk hn28_ (by decide)) sh10 (ltk hn28_ (by decide)) (Or.inl rfl) (by unfold vp_in; decide) ?_
  refine wp_heap (show _ = hp29 from rfl) ?_
  refine r_aload_n (pc' := 21) d86_20 rfl rfl rfl ?_
  refine r_iconst (v := 1) (pc' := 22) d86_21 rfl (by decide) ?_
  refine r_newk (pc' := 25) hn29_ d86_22 rfl o86 sn11_81 rfl vl29 rfl rfl (Nat.le_of_ble_eq_true rfl) (Nat.le_of_ble_eq_true rfl) ?_
  refine wp_heap (show _ = hp30 from rfl) ?_
  refine r_dupR (pc' := 26) d86_25 rfl ?_
  refine r_iconst (v := 1) (pc' := 27) d86_26 rfl (by decide) ?_
  refine r_bipush (v := 8) (pc' := 29) d86_27 rfl (by decide) ?_
  refine r_bipush (v := 40) (pc' := 31) d86_29 rfl (by decide) ?_
  refine r_bipush (v := 90) (pc' := 33) d86_31 rfl (by decide) ?_
  refine r_callA (pc' := 36) [vR (some 11), vI _, vI _, vI _, vI _] [vR (some 11), vI _, vR (some 9)] d86_33 rfl o86 (st11_83 6) (rcv1 sh11 (ltk hn30_ (by decide))) rfl (by decide) (by decide +kernel) rfl rfl (Nat.le_of_ble_eq_true rfl) rfl (Nat.le_of_ble_eq_true rfl) (Nat.le_of_ble_eq_true rfl) (k_kind_6_6 sh11 (ltk hn30_ (by decide)) ?_)
  refine wp_heap (show _ = hp31 from rfl) ?_
  refine r_aastK (pc' := 37) d86_36 rfl sh9 (ltk hn31_ (by decide)) sh11 (ltk hn31_ (by decide)) (Or.inr (by decide +kernel)) (by unfold vp_in; decide) ?_
  refine wp_heap (show _ = hp32 from rfl) ?_
  refine r_aload_n (pc' := 38) d86_37 rfl rfl rfl ?_
  refine r_iconst (v := 2) (pc' := 39) d86_38 rfl (by decide) ?_
  refine r_newk (pc' := 42) hn32_ d86_39 rfl o86 sn11_84 rfl vl32 rfl rfl (Nat.le_of_ble_eq_true rfl) (Nat.le_of_ble_eq_true rfl) ?_
  refine wp_heap (show _ = hp33 from rfl) ?_
  refine r_dupR (pc' := 43) d86_42 rfl ?_
  refine r_iconst (v := 2) (pc' := 44) d86_43 rfl (by decide) ?_
  refine r_bipush (v := 16) (pc' := 46) d86_44 rfl (by decide) ?_
  refine r_bipush (v := 80) (pc' := 48) d86_46 rfl (by decide) ?_
  refine r_bipush (v := 120) (pc' := 50) d86_48 rfl (by decide) ?_
  refine r_callA (pc' := 53) [vR (some 12), vI _, vI _, vI _, vI _] [vR (some 12), vI _, vR (some 9)] d86_50 rfl o86 (st11_86 1) (rcv1 sh12 (ltk hn33_ (by decide))) rfl (by decide) (by decide +kernel) rfl rfl (Nat.le_of_ble_eq_true rfl) rfl (Nat.le_of_ble_eq_true rfl) (Nat.le_of_ble_eq_true rfl) (k_kind_1_1 sh12 (ltk hn33_ (by decide)) ?_)
  refine wp_heap (show _ = hp34 from rfl) ?_
  refine r_aastK (pc' := 54) d86_53 rfl sh9 (ltk hn34_ (by decide)) sh12 (ltk hn34_ (by decide)) (Or.inr (by decide +kernel)) (by unfold vp_in; decide) ?_
  refine wp_heap (show _ = hp35 from rfl) ?_
  refine r_aload_n (pc' := 55) d86_54 rfl rfl rfl ?_
  refine r_iconst (v := 3) (pc' := 56) d86_55 rfl (by decide) ?_
  refine r_newk (pc' := 59) hn35_ d86_56 rfl o86 sn11_87 rfl vl35 rfl rfl (Nat.le_of_ble_eq_true rfl) (Nat.le_of_ble_eq_true rfl) ?_
  refine wp_heap (show _ = hp36 from rfl) ?_
  refine r_dupR (pc' := 60) d86_59 rfl ?_
  refine r_iconst (v := 3) (pc' := 61) d86_60 rfl (by decide) ?_
  refine r_iconst (v := 4) (pc' := 62) d86_61 rfl (by decide) ?_
  refine r_bipush (v := 20) (pc' := 64) d86_62 rfl (by decide) ?_
  refine r_bipush (v := 45) (pc' := 66) d86_64 rfl (by decide) ?_
  refine r_callA (pc' := 69) [vR (some 13), vI _, vI _, vI _, vI _] [vR (some 13), vI _, vR (some 9)] d86_66 rfl o86 (st11_89 7) (rcv1 sh13 (ltk hn36_ (by decide))) rfl (by decide) (by decide +kernel) rfl rfl (Nat.le_of_ble_eq_true rfl) rfl (Nat.le_of_ble_eq_true rfl) (Nat.le_of_ble_eq_true rfl) (k_kind_7_7 sh13 (ltk hn36_ (by decide)) ?_)
  refine wp_heap (show _ = hp37 from rfl) ?_
  refine r_aastK (pc' := 70) d86_69 rfl sh9 (ltk hn37_ (by decide)) sh13 (ltk hn37_ (by decide)) (Or.inr (by decide +kernel)) (by unfold vp_in; decide) ?_
  refine wp_heap (show _ = hp38 from rfl) ?_
  refine r_aload_n (pc' := 71) d86_70 rfl rfl rfl ?_
  refine r_iconst (v := 4) (pc' := 72) d86_71 rfl (by decide) ?_
  refine r_newk (pc' := 75) hn38_ d86_72 rfl o86 sn11_90 rfl vl38 rfl rfl (Nat.le_of_ble_eq_true rfl) (Nat.le_of_ble_eq_true rfl) ?_
  refine wp_heap (show _ = hp39 from rfl) ?_
  refine r_dupR (pc' := 76) d86_75 rfl ?_
  refine r_iconst (v := 4) (pc' := 77) d86_76 rfl (by decide) ?_
  refine r_bipush (v := 6) (pc' := 79) d86_77 rfl (by decide) ?_
  refine r_bipush (v := 15) (pc' := 81) d86_79 rfl (by decide) ?_
  refine r_bipush (v := 70) (pc' := 83) d86_81 rfl (by decide) ?_
  refine r_callA (pc' := 86) [vR (some 14), vI _, vI _, vI _, vI _] [vR (some 14), vI _, vR (some 9)] d86_83 rfl o86 (st11_92 0) (rcv1 sh14 (ltk hn39_ (by decide))) rfl (by decide) (by decide +kernel) rfl rfl (Nat.le_of_ble_eq_true rfl) rfl (Nat.le_of_ble_eq_true rfl) (Nat.le_of_ble_eq_true rfl) (k_kind_0_0 sh14 (ltk hn39_ (by decide)) ?_)
  refine wp_heap (show _ = hp40 from rfl) ?_
  refine r_aastK (pc' := 87) d86_86 rfl sh9 (ltk hn40_ (by decide)) sh14 (ltk hn40_ (by decide)) (Or.inr (by decide +kernel)) (by unfold vp_in; decide) ?_
  refine wp_heap (show _ = hp41 from rfl) ?_
  refine r_aload_n (pc' := 88) d86_87 rfl rfl rfl ?_
  refine r_iconst (v := 5) (pc' := 89) d86_88 rfl (by decide) ?_
  refine r_newk (pc' := 92) hn41_ d86_89 rfl o86 sn11_93 rfl vl41 rfl rfl (Nat.le_of_ble_eq_true rfl) (Nat.le_of_ble_eq_true rfl) ?_
  refine wp_heap (show _ = hp42 from rfl) ?_
  refine r_dupR (pc' := 93) d86_92 rfl ?_
  refine r_iconst (v := 5) (pc' := 94) d86_93 rfl (by decide) ?_
  refine r_bipush (v := 10) (pc' := 96) d86_94 rfl (by decide) ?_
  refine r_bipush (v := 50) (pc' := 98) d86_96 rfl (by decide) ?_
  refine r_bipush (v := 100) (pc' := 100) d86_98 rfl (by decide) ?_
  refine r_callA (pc' := 103) [vR (some 15), vI _, vI _, vI _, vI _] [vR (some 15), vI _, vR (some 9)] d86_100 rfl o86 (st11_95 2) (rcv1 sh15 (ltk hn42_ (by decide))) rfl (by decide) (by decide +kernel) rfl rfl (Nat.le_of_ble_eq_true rfl) rfl (Nat.le_of_ble_eq_true rfl) (Nat.le_of_ble_eq_true rfl) (k_kind_2_2 sh15 (ltk hn42_ (by decide)) ?_)
  refine wp_heap (show _ = hp43 from rfl) ?_
  refine r_aastK (pc' := 104) d86_103 rfl sh9 (ltk hn43_ (by decide)) sh15 (ltk hn43_ (by decide)) (Or.inr (by decide +kernel)) (by unfold vp_in; decide) ?_
  refine wp_heap (show _ = hp44 from rfl) ?_
  refine r_aload_n (pc' := 105) d86_104 rfl rfl rfl ?_
  exact r_aret d86_105 rfl (by first | exact Or.inl ⟨_, rfl⟩ | exact Or.inr ⟨_, rfl⟩) k
def hp45 : Hp := setr hp44 0 3 (some 9)
theorem hn45_ : hn hp45 = 16 := by rw [hp45, hn_sr, hn44_]
theorem vl45 : Val hp45 := vl44.setr _ _ _ (ltk hn44_ (by decide))
def hp46 : Hp := grow hp45
theorem hn46_ : hn hp46 = 17 := hn_g hn45_
theorem vl46 : Val hp46 := vl45.grow
def hp47 : Hp := setr (seti hp46 16 0 (0)) 16 1 (some 11)
theorem hn47_ : hn hp47 = 17 := by rw [hp47, hn_sr, hn_si, hn46_]
theorem vl47 : Val hp47 := (vl46.seti _ _ _).setr _ _ _ (by rw [hn_si]; exact ltk hn46_ (by decide))
def hp48 : Hp := setr hp47 0 4 (some 16)
theorem hn48_ : hn hp48 = 17 := by rw [hp48, hn_sr, hn47_]
theorem vl48 : Val hp48 := vl47.setr _ _ _ (ltk hn47_ (by decide))
def hp49 : Hp := grow hp48
theorem hn49_ : hn hp49 = 18 := hn_g hn48_
theorem vl49 : Val hp49 := vl48.grow
def hp50 : Hp := grow hp49
theorem hn50_ : hn hp50 = 19 := hn_g hn49_
theorem vl50 : Val hp50 := vl49.grow
def hp51 : Hp := setr hp50 17 5 (some 18)
theorem hn51_ : hn hp51 = 19 := by rw [hp51, hn_sr, hn50_]
theorem vl51 : Val hp51 := vl50.setr _ _ _ (ltk hn50_ (by decide))
def hp52 : Hp := grow hp51
theorem hn52_ : hn hp52 = 20 := hn_g hn51_
theorem vl52 : Val hp52 := vl51.grow
def hp53 : Hp := setr hp52 17 6 (some 19)
theorem hn53_ : hn hp53 = 20 := by rw [hp53, hn_sr, hn52_]
theorem vl53 : Val hp53 := vl52.setr _ _ _ (ltk hn52_ (by decide))
def hp54 : Hp := grow hp53
theorem hn54_ : hn hp54 = 21 := hn_g hn53_
theorem vl54 : Val hp54 := vl53.grow
def hp55 : Hp := setr hp54 17 7 (some 20)
theorem hn55_ : hn hp55 = 21 := by rw [hp55, hn_sr, hn54_]
theorem vl55 : Val hp55 := vl54.setr _ _ _ (ltk hn54_ (by decide))
def hp56 : Hp := grow hp55
theorem hn56_ : hn hp56 = 22 := hn_g hn55_
theorem vl56 : Val hp56 := vl55.grow
def hp57 : Hp := setr hp56 17 9 (some 21)
theorem hn57_ : hn hp57 = 22 := by rw [hp57, hn_sr, hn56_]
theorem vl57 : Val hp57 := vl56.setr _ _ _ (ltk hn56_ (by decide))
def hp58 : Hp := grow hp57
theorem hn58_ : hn hp58 = 23 := hn_g hn57_
theorem vl58 : Val hp58 := vl57.grow
def hp59 : Hp := setr hp58 17 11 (some 22)
theorem hn59_ : hn hp59 = 23 := by rw [hp59, hn_sr, hn58_]
theorem vl59 : Val hp59 := vl58.setr _ _ _ (ltk hn58_ (by decide))
def hp60 : Hp := grow hp59
theorem hn60_ : hn hp60 = 24 := hn_g hn59_
theorem vl60 : Val hp60 := vl59.grow
def hp61 : Hp := setr hp60 17 12 (some 23)
theorem hn61_ : hn hp61 = 24 := by rw [hp61, hn_sr, hn60_]
theorem vl61 : Val hp61 := vl60.setr _ _ _ (ltk hn60_ (by decide))
def hp62 : Hp := grow hp61
theorem hn62_ : hn hp62 = 25 := hn_g hn61_
theorem vl62 : Val hp62 := vl61.grow
def hp63 : Hp := setr hp62 17 13 (some 24)
theorem hn63_ : hn hp63 = 25 := by rw [hp63, hn_sr, hn62_]
theorem vl63 : Val hp63 := vl62.setr _ _ _ (ltk hn62_ (by decide))
def hp64 : Hp := setr hp63 17 0 (some 9)
theorem hn64_ : hn hp64 = 25 := by rw [hp64, hn_sr, hn63_]
theorem vl64 : Val hp64 := vl63.setr _ _ _ (ltk hn63_ (by decide))
def hp65 : Hp := grow hp64
theorem hn65_ : hn hp65 = 26 := hn_g hn64_
theorem vl65 : Val hp65 := vl64.grow
def hp66 : Hp := setr (seti hp65 25 0 (0)) 25 1 (some 11)
theorem hn66_ : hn hp66 = 26 := by rw [hp66, hn_sr, hn_si, hn65_]
theorem vl66 : Val hp66 := (vl65.seti _ _ _).setr _ _ _ (by rw [hn_si]; exact ltk hn65_ (by decide))
def hp67 : Hp := setr hp66 21 0 (some 25)
theorem hn67_ : hn hp67 = 26 := by rw [hp67, hn_sr, hn66_]
theorem vl67 : Val hp67 := vl66.setr _ _ _ (ltk hn66_ (by decide))
def hp68 : Hp := grow hp67
theorem hn68_ : hn hp68 = 27 := hn_g hn67_
theorem vl68 : Val hp68 := vl67.grow
def hp69 : Hp := setr (seti hp68 26 0 (1)) 26 1 (some 11)
theorem hn69_ : hn hp69 = 27 := by rw [hp69, hn_sr, hn_si, hn68_]
theorem vl69 : Val hp69 := (vl68.seti _ _ _).setr _ _ _ (by rw [hn_si]; exact ltk hn68_ (by decide))
def hp70 : Hp := setr hp69 21 1 (some 26)
theorem hn70_ : hn hp70 = 27 := by rw [hp70, hn_sr, hn69_]
theorem vl70 : Val hp70 := vl69.setr _ _ _ (ltk hn69_ (by decide))
def hp71 : Hp := grow hp70
theorem hn71_ : hn hp71 = 28 := hn_g hn70_
theorem vl71 : Val hp71 := vl70.grow
def hp72 : Hp := setr (seti hp71 27 0 (2)) 27 1 (some 11)
theorem hn72_ : hn hp72 = 28 := by rw [hp72, hn_sr, hn_si, hn71_]
theorem vl72 : Val hp72 := (vl71.seti _ _ _).setr _ _ _ (by rw [hn_si]; exact ltk hn71_ (by decide))
def hp73 : Hp := setr hp72 21 2 (some 27)
theorem hn73_ : hn hp73 = 28 := by rw [hp73, hn_sr, hn72_]
theorem vl73 : Val hp73 := vl72.setr _ _ _ (ltk hn72_ (by decide))
def hp74 : Hp := grow hp73
theorem hn74_ : hn hp74 = 29 := hn_g hn73_
theorem vl74 : Val hp74 := vl73.grow
def hp75 : Hp := setr (seti hp74 28 0 (3)) 28 1 (some 11)
theorem hn75_ : hn hp75 = 29 := by rw [hp75, hn_sr, hn_si, hn74_]
theorem vl75 : Val hp75 := (vl74.seti _ _ _).setr _ _ _ (by rw [hn_si]; exact ltk hn74_ (by decide))
def hp76 : Hp := setr hp75 21 3 (some 28)
theorem hn76_ : hn hp76 = 29 := by rw [hp76, hn_sr, hn75_]
theorem vl76 : Val hp76 := vl75.setr _ _ _ (ltk hn75_ (by decide))
def hp77 : Hp := grow hp76
theorem hn77_ : hn hp77 = 30 := hn_g hn76_
theorem vl77 : Val hp77 := vl76.grow
def hp78 : Hp := setr (seti hp77 29 0 (4)) 29 1 (some 11)
theorem hn78_ : hn hp78 = 30 := by rw [hp78, hn_sr, hn_si, hn77_]
theorem vl78 : Val hp78 := (vl77.seti _ _ _).setr _ _ _ (by rw [hn_si]; exact ltk hn77_ (by decide))
def hp79 : Hp := setr hp78 21 4 (some 29)
theorem hn79_ : hn hp79 = 30 := by rw [hp79, hn_sr, hn78_]
theorem vl79 : Val hp79 := vl78.setr _ _ _ (ltk hn78_ (by decide))
def hp80 : Hp := grow hp79
theorem hn80_ : hn hp80 = 31 := hn_g hn79_
theorem vl80 : Val hp80 := vl79.grow
def hp81 : Hp := setr (seti hp80 30 0 (5)) 30 1 (some 11)
theorem hn81_ : hn hp81 = 31 := by rw [hp81, hn_sr, hn_si, hn80_]
theorem vl81 : Val hp81 := (vl80.seti _ _ _).setr _ _ _ (by rw [hn_si]; exact ltk hn80_ (by decide))
def hp82 : Hp := setr hp81 21 5 (some 30)
theorem hn82_ : hn hp82 = 31 := by rw [hp82, hn_sr, hn81_]
theorem vl82 : Val hp82 := vl81.setr _ _ _ (ltk hn81_ (by decide))
theorem k_mk6 {d : Nat} {Q : Option AV → Hp → Prop} (k : Q none hp82) : Spec (d + 2) 59 [vR (some 17), vR (some 9)] hp49 Q := by
  refine spec_intro (by decide +kernel) rfl (Nat.le_of_ble_eq_true rfl) ?_
  refine r_aload_n (pc' := 1) d59_0 rfl rfl rfl ?_
  refine r_objInit (pc' := 4) d59_1 rfl o59 st10_5 jo_2 jo_3 (Nat.le_of_ble_eq_true rfl) ?_
  refine r_aload_n (pc' := 5) d59_4 rfl rfl rfl ?_
  refine r_bipush (v := 8) (pc' := 7) d59_5 rfl (by decide) ?_
  refine r_newIk (pc' := 9) hn49_ d59_7 rfl rfl (by decide) (by decide) (by decide) vl49 rfl rfl (Nat.le_of_ble_eq_true rfl) (Nat.le_of_ble_eq_true rfl) ?_
  refine wp_heap (show _ = hp50 from rfl) ?_
  refine r_putR (pc' := 12) d59_9 rfl o59 sp10_11_10 sh17 (fun _ => rfl) (Or.inr ⟨_, rfl⟩) (ltk hn50_ (by decide)) ?_
  refine wp_heap (show _ = hp51 from rfl) ?_
  refine r_aload_n (pc' := 13) d59_12 rfl rfl rfl ?_
  refine r_bipush (v := 8) (pc' := 15) d59_13 rfl (by decide) ?_
  refine r_newIk (pc' := 17) hn51_ d59_15 rfl rfl (by decide) (by decide) (by decide) vl51 rfl rfl (Nat.le_of_ble_eq_true rfl) (Nat.le_of_ble_eq_true rfl) ?_
  refine wp_heap (show _ = hp52 from rfl) ?_
  refine r_putR (pc' := 20) d59_17 rfl o59 sp10_17_10 sh17 (fun _ => rfl) (Or.inr ⟨_, rfl⟩) (ltk hn52_ (by decide)) ?_
  refine wp_heap (show _ = hp53 from rfl) ?_
  refine r_aload_n (pc' := 21) d59_20 rfl rfl rfl ?_
  refine r_bipush (v := 8) (pc' := 23) d59_21 rfl (by decide) ?_
  refine r_newIk (pc' := 25) hn53_ d59_23 rfl rfl (by decide) (by decide) (by decide) vl53 rfl rfl (Nat.le_of_ble_eq_true rfl) (Nat.le_of_ble_eq_true rfl) ?_
  refine wp_heap (show _ = hp54 from rfl) ?_
  refine r_putR (pc' := 28) d59_25 rfl o59 sp10_20_10 sh17 (fun _ => rfl) (Or.inr ⟨_, rfl⟩) (ltk hn54_ (by decide)) ?_
  refine wp_heap (show _ = hp55 from rfl) ?_
  refine r_aload_n (pc' := 29) d59_28 rfl rfl rfl ?_
  refine r_bipush (v := 6) (pc' := 31) d59_29 rfl (by decide) ?_
  refine r_newTk (pc' := 34) hn55_ d59_31 rfl o59 kl10_1 rfl (by decide) (by decide) (by decide) vl55 rfl rfl (Nat.le_of_ble_eq_true rfl) (Nat.le_of_ble_eq_true rfl) ?_
  refine wp_heap (show _ = hp56 from rfl) ?_
  refine r_putR (pc' := 37) d59_34 rfl o59 sp10_23_10 sh17 (fun _ => rfl) (Or.inr ⟨_, rfl⟩) (ltk hn56_ (by decide)) ?_
  refine wp_heap (show _ = hp57 from rfl) ?_
  refine r_aload_n (pc' := 38) d59_37 rfl rfl rfl ?_
  refine r_iconst (v := 4) (pc' := 39) d59_38 rfl (by decide) ?_
  refine r_newIk (pc' := 41) hn57_ d59_39 rfl rfl (by decide) (by decide) (by decide) vl57 rfl rfl (Nat.le_of_ble_eq_true rfl) (Nat.le_of_ble_eq_true rfl) ?_
  refine wp_heap (show _ = hp58 from rfl) ?_
  refine r_putR (pc' := 44) d59_41 rfl o59 sp10_27_10 sh17 (fun _ => rfl) (Or.inr ⟨_, rfl⟩) (ltk hn58_ (by decide)) ?_
  refine wp_heap (show _ = hp59 from rfl) ?_
  refine r_aload_n (pc' := 45) d59_44 rfl rfl rfl ?_
  refine r_iconst (v := 4) (pc' := 46) d59_45 rfl (by decide) ?_
  refine r_newIk (pc' := 48) hn59_ d59_46 rfl rfl (by decide) (by decide) (by decide) vl59 rfl rfl (Nat.le_of_ble_eq_true rfl) (Nat.le_of_ble_eq_true rfl) ?_
  refine wp_heap (show _ = hp60 from rfl) ?_
  refine r_putR (pc' := 51) d59_48 rfl o59 sp10_30_10 sh17 (fun _ => rfl) (Or.inr ⟨_, rfl⟩) (ltk hn60_ (by decide)) ?_
  refine wp_heap (show _ = hp61 from rfl) ?_
  refine r_aload_n (pc' := 52) d59_51 rfl rfl rfl ?_
  refine r_iconst (v := 4) (pc' := 53) d59_52 rfl (by decide) ?_
  refine r_newIk (pc' := 55) hn61_ d59_53 rfl rfl (by decide) (by decide) (by decide) vl61 rfl rfl (Nat.le_of_ble_eq_true rfl) (Nat.le_of_ble_eq_true rfl) ?_
  refine wp_heap (show _ = hp62 from rfl) ?_
  refine r_putR (pc' := 58) d59_55 rfl o59 sp10_33_10 sh17 (fun _ => rfl) (Or.inr ⟨_, rfl⟩) (ltk hn62_ (by decide)) ?_
  refine wp_heap (show _ = hp63 from rfl) ?_
  refine r_aload_n (pc' := 59) d59_58 rfl rfl rfl ?_
  refine r_aload_n (pc' := 60) d59_59 rfl rfl rfl ?_
  refine r_putR (pc' := 63) d59_60 rfl o59 sp10_36_10 sh17 (fun _ => rfl) (Or.inr ⟨_, rfl⟩) (ltk hn63_ (by decide)) ?_
  refine wp_heap (show _ = hp64 from rfl) ?_
  refine r_iconst (v := 0) (pc' := 64) d59_63 rfl (by decide) ?_
  refine r_istore_n (pc' := 65) (ls' := [(2, vI _), (0, vR (some 17)), (1, vR (some 9))]) d59_64 rfl rfl (by decide) rfl ?_
  refine r_iload_n (pc' := 66) d59_65 rfl rfl rfl ?_
  refine r_bipush (v := 6) (pc' := 68) d59_66 rfl (by decide) ?_
  refine r_icmp_ge 94 (pc' := 71) d59_68 rfl rfl (fun c68 => absurd c68 (by decide)) (fun c68 => ?_)
  refine r_aload_n (pc' := 72) d59_71 rfl rfl rfl ?_
  refine r_getS (pc' := 75) d59_72 rfl o59 sf10_23_10 sh17 (ltk hn64_ (by decide)) (show hr hp64 17 9 = some 21 by decide +kernel) ?_
  refine r_iload_n (pc' := 76) d59_75 rfl rfl rfl ?_
  refine r_newk (pc' := 79) hn64_ d59_76 rfl o59 sn10_1 rfl vl64 rfl rfl (Nat.le_of_ble_eq_true rfl) (Nat.le_of_ble_eq_true rfl) ?_
  refine wp_heap (show _ = hp65 from rfl) ?_
  refine r_dupR (pc' := 80) d59_79 rfl ?_
  refine r_iload_n (pc' := 81) d59_80 rfl rfl rfl ?_
  refine r_aload_n (pc' := 82) d59_81 rfl rfl rfl ?_
  refine r_iconst (v := 1) (pc' := 83) d59_82 rfl (by decide) ?_
  refine r_aaldKN (pc' := 84) (j := 1) d59_83 rfl sh9 (ltk hn65_ (by decide)) (by decide) (by decide) (by decide) (show hr hp65 9 1 = some 11 by decide +kernel) ?_
  refine r_callA (pc' := 87) [vR (some 25), vI _, vR (some 11)] [vR (some 25), vI _, vR (some 21)] d59_84 rfl o59 (st10_40 8) (rcv1 sh25 (ltk hn65_ (by decide))) rfl (by decide) (by decide +kernel) rfl rfl (Nat.le_of_ble_eq_true rfl) rfl (Nat.le_of_ble_eq_true rfl) (Nat.le_of_ble_eq_true rfl) (k_thing sh25 (ltk hn65_ (by decide)) ?_)
  refine wp_heap (show _ = hp66 from rfl) ?_
  refine r_aastT (pc' := 88) d59_87 rfl sh21 (ltk hn66_ (by decide)) sh25 (ltk hn66_ (by decide)) (Or.inl rfl) (by unfold vp_in; decide) ?_
  refine wp_heap (show _ = hp67 from rfl) ?_
  refine r_iinc (v := _ + 1) (pc' := 91) (ls' := [(2, vI _), (0, vR (some 17)), (1, vR (some 9))]) d59_88 rfl rfl rfl (by decide) rfl ?_
  refine r_goto 65 d59_91 rfl ?_
  refine r_iload_n (pc' := 66) d59_65 rfl rfl rfl ?_
  refine r_bipush (v := 6) (pc' := 68) d59_66 rfl (by decide) ?_
  refine r_icmp_ge 94 (pc' := 71) d59_68 rfl rfl (fun c68 => absurd c68 (by decide)) (fun c68 => ?_)
  refine r_aload_n (pc' := 72) d59_71 rfl rfl rfl ?_
  refine r_getS (pc' := 75) d59_72 rfl o59 sf10_23_10 sh17 (ltk hn67_ (by decide)) (show hr hp67 17 9 = some 21 by decide +kernel) ?_
  refine r_iload_n (pc' := 76) d59_75 rfl rfl rfl ?_
  refine r_newk (pc' := 79) hn67_ d59_76 rfl o59 sn10_1 rfl vl67 rfl rfl (Nat.le_of_ble_eq_true rfl) (Nat.le_of_ble_eq_true rfl) ?_
  refine wp_heap (show _ = hp68 from rfl) ?_
  refine r_dupR (pc' := 80) d59_79 rfl ?_
  refine r_iload_n (pc' := 81) d59_80 rfl rfl rfl ?_
  refine r_aload_n (pc' := 82) d59_81 rfl rfl rfl ?_
  refine r_iconst (v := 1) (pc' := 83) d59_82 rfl (by decide) ?_
  refine r_aaldKN (pc' := 84) (j := 1) d59_83 rfl sh9 (ltk hn68_ (by decide)) (by decide) (by decide) (by decide) (show hr hp68 9 1 = some 11 by decide +kernel) ?_
  refine r_callA (pc' := 87) [vR (some 26), vI _, vR (some 11)] [vR (some 26), vI _, vR (some 21)] d59_84 rfl o59 (st10_40 8) (rcv1 sh26 (ltk hn68_ (by decide))) rfl (by decide) (by decide +kernel) rfl rfl (Nat.le_of_ble_eq_true rfl) rfl (Nat.le_of_ble_eq_true rfl) (Nat.le_of_ble_eq_true rfl) (k_thing sh26 (ltk hn68_ (by decide)) ?_)
  refine wp_heap (show _ = hp69 from rfl) ?_
  refine r_aastT (pc' := 88) d59_87 rfl sh21 (ltk hn69_ (by decide)) sh26 (ltk hn69_ (by decide)) (Or.inl rfl) (by unfold vp_in; decide) ?_
  refine wp_heap (show _ = hp70 from rfl) ?_
  refine r_iinc (v := _ + 1) (pc' := 91) (ls' := [(2, vI _), (0, vR (some 17)), (1, vR (some 9))]) d59_88 rfl rfl rfl (by decide) rfl ?_
  refine r_goto 65 d59_91 rfl ?_
  refine r_iload_n (pc' := 66) d59_65 rfl rfl rfl ?_
  refine r_bipush (v := 6) (pc' := 68) d59_66 rfl (by decide) ?_
  refine r_icmp_ge 94 (pc' := 71) d59_68 rfl rfl (fun c68 => absurd c68 (by decide)) (fun c68 => ?_)
  refine r_aload_n (pc' := 72) d59_71 rfl rfl rfl ?_
  refine r_getS (pc' := 75) d59_72 rfl o59 sf10_23_10 sh17 (ltk hn70_ (by decide)) (show hr hp70 17 9 = some 21 by decide +kernel) ?_
  refine r_iload_n (pc' := 76) d59_75 rfl rfl rfl ?_
  refine r_newk (pc' := 79) hn70_ d59_76 rfl o59 sn10_1 rfl vl70 rfl rfl (Nat.le_of_ble_eq_true rfl) (Nat.le_of_ble_eq_true rfl) ?_
  refine wp_heap (show _ = hp71 from rfl) ?_
  refine r_dupR (pc' := 80) d59_79 rfl ?_
  refine r_iload_n (pc' := 81) d59_80 rfl rfl rfl ?_
  refine r_aload_n (pc' := 82) d59_81 rfl rfl rfl ?_
  refine r_iconst (v := 1) (pc' := 83) d59_82 rfl (by decide) ?_
  refine r_aaldKN (pc' := 84) (j := 1) d59_83 rfl sh9 (ltk hn71_ (by decide)) (by decide) (by decide) (by decide) (show hr hp71 9 1 = some 11 by decide +kernel) ?_
  refine r_callA (pc' := 87) [vR (some 27), vI _, vR (some 11)] [vR (some 27), vI _, vR (some 21)] d59_84 rfl o59 (st10_40 8) (rcv1 sh27 (ltk hn71_ (by decide))) rfl (by decide) (by decide +kernel) rfl rfl (Nat.le_of_ble_eq_true rfl) rfl (Nat.le_of_ble_eq_true rfl) (Nat.le_of_ble_eq_true rfl) (k_thing sh27 (ltk hn71_ (by decide)) ?_)
  refine wp_heap (show _ = hp72 from rfl) ?_
  refine r_aastT (pc' := 88) d59_87 rfl sh21 (ltk hn72_ (by decide)) sh27 (ltk hn72_ (by decide)) (Or.inl rfl) (by unfold vp_in; decide) ?_
  refine wp_heap (show _ = hp73 from rfl) ?_
  refine r_iinc (v := _ + 1) (pc' := 91) (ls' := [(2, vI _), (0, vR (some 17)), (1, vR (some 9))]) d59_88 rfl rfl rfl (by decide) rfl ?_
  refine r_goto 65 d59_91 rfl ?_
  refine r_iload_n (pc' := 66) d59_65 rfl rfl rfl ?_
  refine r_bipush (v := 6) (pc' := 68) d59_66 rfl (by decide) ?_
  refine r_icmp_ge 94 (pc' := 71) d59_68 rfl rfl (fun c68 => absurd c68 (by decide)) (fun c68 => ?_)
  refine r_aload_n (pc' := 72) d59_71 rfl rfl rfl ?_
  refine r_getS (pc' := 75) d59_72 rfl o59 sf10_23_10 sh17 (ltk hn73_ (by decide)) (show hr hp73 17 9 = some 21 by decide +kernel) ?_
  refine r_iload_n (pc' := 76) d59_75 rfl rfl rfl ?_
  refine r_newk (pc' := 79) hn73_ d59_76 rfl o59 sn10_1 rfl vl73 rfl rfl (Nat.le_of_ble_eq_true rfl) (Nat.le_of_ble_eq_true rfl) ?_
  refine wp_heap (show _ = hp74 from rfl) ?_
  refine r_dupR (pc' := 80) d59_79 rfl ?_
  refine r_iload_n (pc' := 81) d59_80 rfl rfl rfl ?_
  refine r_aload_n (pc' := 82) d59_81 rfl rfl rfl ?_
  refine r_iconst (v := 1) (pc' := 83) d59_82 rfl (by decide) ?_
  refine r_aaldKN (pc' := 84) (j := 1) d59_83 rfl sh9 (ltk hn74_ (by decide)) (by decide) (by decide) (by decide) (show hr hp74 9 1 = some 11 by decide +kernel) ?_
  refine r_callA (pc' := 87) [vR (some 28), vI _, vR (some 11)] [vR (some 28), vI _, vR (some 21)] d59_84 rfl o59 (st10_40 8) (rcv1 sh28 (ltk hn74_ (by decide))) rfl (by decide) (by decide +kernel) rfl rfl (Nat.le_of_ble_eq_true rfl) rfl (Nat.le_of_ble_eq_true rfl) (Nat.le_of_ble_eq_true rfl) (k_thing sh28 (ltk hn74_ (by decide)) ?_)
  refine wp_heap (show _ = hp75 from rfl) ?_
  refine r_aastT (pc' := 88) d59_87 rfl sh21 (ltk hn75_ (by decide)) sh28 (ltk hn75_ (by decide)) (Or.inl rfl) (by unfold vp_in; decide) ?_
  refine wp_heap (show _ = hp76 from rfl) ?_
  refine r_iinc (v := _ + 1) (pc' := 91) (ls' := [(2, vI _), (0, vR (some 17)), (1, vR (some 9))]) d59_88 rfl rfl rfl (by decide) rfl ?_
  refine r_goto 65 d59_91 rfl ?_
  refine r_iload_n (pc' := 66) d59_65 rfl rfl rfl ?_
  refine r_bipush (v := 6) (pc' := 68) d59_66 rfl (by decide) ?_
  refine r_icmp_ge 94 (pc' := 71) d59_68 rfl rfl (fun c68 => absurd c68 (by decide)) (fun c68 => ?_)
  refine r_aload_n (pc' := 72) d59_71 rfl rfl rfl ?_
  refine r_getS (pc' := 75) d59_72 rfl o59 sf10_23_10 sh17 (ltk hn76_ (by decide)) (show hr hp76 17 9 = some 21 by decide +kernel) ?_
  refine r_iload_n (pc' := 76) d59_75 rfl rfl rfl ?_
  refine r_newk (pc' := 79) hn76_ d59_76 rfl o59 sn10_1 rfl vl76 rfl rfl (Nat.le_of_ble_eq_true rfl) (Nat.le_of_ble_eq_true rfl) ?_
  refine wp_heap (show _ = hp77 from rfl) ?_
  refine r_dupR (pc' := 80) d59_79 rfl ?_
  refine r_iload_n (pc' := 81) d59_80 rfl rfl rfl ?_
  refine r_aload_n (pc' := 82) d59_81 rfl rfl rfl ?_
  refine r_iconst (v := 1) (pc' := 83) d59_82 rfl (by decide) ?_
  refine r_aaldKN (pc' := 84) (j := 1) d59_83 rfl sh9 (ltk hn77_ (by decide)) (by decide) (by decide) (by decide) (show hr hp77 9 1 = some 11 by decide +kernel) ?_
  refine r_callA (pc' := 87) [vR (some 29), vI _, vR (some 11)] [vR (some 29), vI _, vR (some 21)] d59_84 rfl o59 (st10_40 8) (rcv1 sh29 (ltk hn77_ (by decide))) rfl (by decide) (by decide +kernel) rfl rfl (Nat.le_of_ble_eq_true rfl) rfl (Nat.le_of_ble_eq_true rfl) (Nat.le_of_ble_eq_true rfl) (k_thing sh29 (ltk hn77_ (by decide)) ?_)
  refine wp_heap (show _ = hp78 from rfl) ?_
  refine r_aastT (pc' := 88) d59_87 rfl sh21 (ltk hn78_ (by decide)) sh29 (ltk hn78_ (by decide)) (Or.inl rfl) (by unfold vp_in; decide) ?_
  refine wp_heap (show _ = hp79 from rfl) ?_
  refine r_iinc (v := _ + 1) (pc' := 91) (ls' := [(2, vI _), (0, vR (some 17)), (1, vR (some 9))]) d59_88 rfl rfl rfl (by decide) rfl ?_
  refine r_goto 65 d59_91 rfl ?_
  refine r_iload_n (pc' := 66) d59_65 rfl rfl rfl ?_
  refine r_bipush (v := 6) (pc' := 68) d59_66 rfl (by decide) ?_
  refine r_icmp_ge 94 (pc' := 71) d59_68 rfl rfl (fun c68 => absurd c68 (by decide)) (fun c68 => ?_)
  refine r_aload_n (pc' := 72) d59_71 rfl rfl rfl ?_
  refine r_getS (pc' := 75) d59_72 rfl o59 sf10_23_10 sh17 (ltk hn79_ (by decide)) (show hr hp79 17 9 = some 21 by decide +kernel) ?_
  refine r_iload_n (pc' := 76) d59_75 rfl rfl rfl ?_
  refine r_newk (pc' := 79) hn79_ d59_76 rfl o59 sn10_1 rfl vl79 rfl rfl (Nat.le_of_ble_eq_true rfl) (Nat.le_of_ble_eq_true rfl) ?_
  refine wp_heap (show _ = hp80 from rfl) ?_
  refine r_dupR (pc' := 80) d59_79 rfl ?_
  refine r_iload_n (pc' := 81) d59_80 rfl rfl rfl ?_
  refine r_aload_n (pc' := 82) d59_81 rfl rfl rfl ?_
  refine r_iconst (v := 1) (pc' := 83) d59_82 rfl (by decide) ?_
  refine r_aaldKN (pc' := 84) (j := 1) d59_83 rfl sh9 (ltk hn80_ (by decide)) (by decide) (by decide) (by decide) (show hr hp80 9 1 = some 11 by decide +kernel) ?_
  refine r_callA (pc' := 87) [vR (some 30), vI _, vR (some 11)] [vR (some 30), vI _, vR (some 21)] d59_84 rfl o59 (st10_40 8) (rcv1 sh30 (ltk hn80_ (by decide))) rfl (by decide) (by decide +kernel) rfl rfl (Nat.le_of_ble_eq_true rfl) rfl (Nat.le_of_ble_eq_true rfl) (Nat.le_of_ble_eq_true rfl) (k_thing sh30 (ltk hn80_ (by decide)) ?_)
  refine wp_heap (show _ = hp81 from rfl) ?_
  refine r_aastT (pc' := 88) d59_87 rfl sh21 (ltk hn81_ (by decide)) sh30 (ltk hn81_ (by decide)) (Or.inl rfl) (by unfold vp_in; decide) ?_
  refine wp_heap (show _ = hp82 from rfl) ?_
  refine r_iinc (v := _ + 1) (pc' := 91) (ls' := [(2, vI _), (0, vR (some 17)), (1, vR (some 9))]) d59_88 rfl rfl rfl (by decide) rfl ?_
  refine r_goto 65 d59_91 rfl ?_
  refine r_iload_n (pc' := 66) d59_65 rfl rfl rfl ?_
  refine r_bipush (v := 6) (pc' := 68) d59_66 rfl (by decide) ?_
  refine r_icmp_ge 94 (pc' := 71) d59_68 rfl rfl (fun c68 => ?_) (fun c68 => absurd (by decide) c68)
  exact r_ret d59_94 rfl k
def hp83 : Hp := setr hp82 0 5 (some 17)
theorem hn83_ : hn hp83 = 31 := by rw [hp83, hn_sr, hn82_]
theorem vl83 : Val hp83 := vl82.setr _ _ _ (ltk hn82_ (by decide))
def hp84 : Hp := grow hp83
theorem hn84_ : hn hp84 = 32 := hn_g hn83_
theorem vl84 : Val hp84 := vl83.grow
def hp85 : Hp := grow hp84
theorem hn85_ : hn hp85 = 33 := hn_g hn84_
theorem vl85 : Val hp85 := vl84.grow
def hp86 : Hp := setr hp85 31 5 (some 32)
theorem hn86_ : hn hp86 = 33 := by rw [hp86, hn_sr, hn85_]
theorem vl86 : Val hp86 := vl85.setr _ _ _ (ltk hn85_ (by decide))
def hp87 : Hp := grow hp86
theorem hn87_ : hn hp87 = 34 := hn_g hn86_
theorem vl87 : Val hp87 := vl86.grow
def hp88 : Hp := setr hp87 31 6 (some 33)
theorem hn88_ : hn hp88 = 34 := by rw [hp88, hn_sr, hn87_]
theorem vl88 : Val hp88 := vl87.setr _ _ _ (ltk hn87_ (by decide))
def hp89 : Hp := grow hp88
theorem hn89_ : hn hp89 = 35 := hn_g hn88_
theorem vl89 : Val hp89 := vl88.grow
def hp90 : Hp := setr hp89 31 7 (some 34)
theorem hn90_ : hn hp90 = 35 := by rw [hp90, hn_sr, hn89_]
theorem vl90 : Val hp90 := vl89.setr _ _ _ (ltk hn89_ (by decide))
def hp91 : Hp := grow hp90
theorem hn91_ : hn hp91 = 36 := hn_g hn90_
theorem vl91 : Val hp91 := vl90.grow
def hp92 : Hp := setr hp91 31 9 (some 35)
theorem hn92_ : hn hp92 = 36 := by rw [hp92, hn_sr, hn91_]
theorem vl92 : Val hp92 := vl91.setr _ _ _ (ltk hn91_ (by decide))
def hp93 : Hp := grow hp92
theorem hn93_ : hn hp93 = 37 := hn_g hn92_
theorem vl93 : Val hp93 := vl92.grow
def hp94 : Hp := setr hp93 31 11 (some 36)
theorem hn94_ : hn hp94 = 37 := by rw [hp94, hn_sr, hn93_]
theorem vl94 : Val hp94 := vl93.setr _ _ _ (ltk hn93_ (by decide))
def hp95 : Hp := grow hp94
theorem hn95_ : hn hp95 = 38 := hn_g hn94_
theorem vl95 : Val hp95 := vl94.grow
def hp96 : Hp := setr hp95 31 12 (some 37)
theorem hn96_ : hn hp96 = 38 := by rw [hp96, hn_sr, hn95_]
theorem vl96 : Val hp96 := vl95.setr _ _ _ (ltk hn95_ (by decide))
def hp97 : Hp := grow hp96
theorem hn97_ : hn hp97 = 39 := hn_g hn96_
theorem vl97 : Val hp97 := vl96.grow
def hp98 : Hp := setr hp97 31 13 (some 38)
theorem hn98_ : hn hp98 = 39 := by rw [hp98, hn_sr, hn97_]
theorem vl98 : Val hp98 := vl97.setr _ _ _ (ltk hn97_ (by decide))
def hp99 : Hp := setr hp98 31 0 (some 9)
theorem hn99_ : hn hp99 = 39 := by rw [hp99, hn_sr, hn98_]
theorem vl99 : Val hp99 := vl98.setr _ _ _ (ltk hn98_ (by decide))
def hp100 : Hp := grow hp99
theorem hn100_ : hn hp100 = 40 := hn_g hn99_
theorem vl100 : Val hp100 := vl99.grow
def hp101 : Hp := setr (seti hp100 39 0 (0)) 39 1 (some 11)
theorem hn101_ : hn hp101 = 40 := by rw [hp101, hn_sr, hn_si, hn100_]
theorem vl101 : Val hp101 := (vl100.seti _ _ _).setr _ _ _ (by rw [hn_si]; exact ltk hn100_ (by decide))
def hp102 : Hp := setr hp101 35 0 (some 39)
theorem hn102_ : hn hp102 = 40 := by rw [hp102, hn_sr, hn101_]
theorem vl102 : Val hp102 := vl101.setr _ _ _ (ltk hn101_ (by decide))
def hp103 : Hp := grow hp102
theorem hn103_ : hn hp103 = 41 := hn_g hn102_
theorem vl103 : Val hp103 := vl102.grow
def hp104 : Hp := setr (seti hp103 40 0 (1)) 40 1 (some 11)
theorem hn104_ : hn hp104 = 41 := by rw [hp104, hn_sr, hn_si, hn103_]
theorem vl104 : Val hp104 := (vl103.seti _ _ _).setr _ _ _ (by rw [hn_si]; exact ltk hn103_ (by decide))
def hp105 : Hp := setr hp104 35 1 (some 40)
theorem hn105_ : hn hp105 = 41 := by rw [hp105, hn_sr, hn104_]
theorem vl105 : Val hp105 := vl104.setr _ _ _ (ltk hn104_ (by decide))
def hp106 : Hp := grow hp105
theorem hn106_ : hn hp106 = 42 := hn_g hn105_
theorem vl106 : Val hp106 := vl105.grow
def hp107 : Hp := setr (seti hp106 41 0 (2)) 41 1 (some 11)
theorem hn107_ : hn hp107 = 42 := by rw [hp107, hn_sr, hn_si, hn106_]
theorem vl107 : Val hp107 := (vl106.seti _ _ _).setr _ _ _ (by rw [hn_si]; exact ltk hn106_ (by decide))
def hp108 : Hp := setr hp107 35 2 (some 41)
theorem hn108_ : hn hp108 = 42 := by rw [hp108, hn_sr, hn107_]
theorem vl108 : Val hp108 := vl107.setr _ _ _ (ltk hn107_ (by decide))
def hp109 : Hp := grow hp108
theorem hn109_ : hn hp109 = 43 := hn_g hn108_
theorem vl109 : Val hp109 := vl108.grow
def hp110 : Hp := setr (seti hp109 42 0 (3)) 42 1 (some 11)
theorem hn110_ : hn hp110 = 43 := by rw [hp110, hn_sr, hn_si, hn109_]
theorem vl110 : Val hp110 := (vl109.seti _ _ _).setr _ _ _ (by rw [hn_si]; exact ltk hn109_ (by decide))
def hp111 : Hp := setr hp110 35 3 (some 42)
theorem hn111_ : hn hp111 = 43 := by rw [hp111, hn_sr, hn110_]
theorem vl111 : Val hp111 := vl110.setr _ _ _ (ltk hn110_ (by decide))
def hp112 : Hp := grow hp111
theorem hn112_ : hn hp112 = 44 := hn_g hn111_
theorem vl112 : Val hp112 := vl111.grow
def hp113 : Hp := setr (seti hp112 43 0 (4)) 43 1 (some 11)
theorem hn113_ : hn hp113 = 44 := by rw [hp113, hn_sr, hn_si, hn112_]
theorem vl113 : Val hp113 := (vl112.seti _ _ _).setr _ _ _ (by rw [hn_si]; exact ltk hn112_ (by decide))
def hp114 : Hp := setr hp113 35 4 (some 43)
theorem hn114_ : hn hp114 = 44 := by rw [hp114, hn_sr, hn113_]
theorem vl114 : Val hp114 := vl113.setr _ _ _ (ltk hn113_ (by decide))
def hp115 : Hp := grow hp114
theorem hn115_ : hn hp115 = 45 := hn_g hn114_
theorem vl115 : Val hp115 := vl114.grow
def hp116 : Hp := setr (seti hp115 44 0 (5)) 44 1 (some 11)
theorem hn116_ : hn hp116 = 45 := by rw [hp116, hn_sr, hn_si, hn115_]
theorem vl116 : Val hp116 := (vl115.seti _ _ _).setr _ _ _ (by rw [hn_si]; exact ltk hn115_ (by decide))
def hp117 : Hp := setr hp116 35 5 (some 44)
theorem hn117_ : hn hp117 = 45 := by rw [hp117, hn_sr, hn116_]
theorem vl117 : Val hp117 := vl116.setr _ _ _ (ltk hn116_ (by decide))
theorem k_mk7 {d : Nat} {Q : Option AV → Hp → Prop} (k : Q none hp117) : Spec (d + 2) 59 [vR (some 31), vR (some 9)] hp84 Q := by
  refine spec_intro (by decide +kernel) rfl (Nat.le_of_ble_eq_true rfl) ?_
  refine r_aload_n (pc' := 1) d59_0 rfl rfl rfl ?_
  refine r_objInit (pc' := 4) d59_1 rfl o59 st10_5 jo_2 jo_3 (Nat.le_of_ble_eq_true rfl) ?_
  refine r_aload_n (pc' := 5) d59_4 rfl rfl rfl ?_
  refine r_bipush (v := 8) (pc' := 7) d59_5 rfl (by decide) ?_
  refine r_newIk (pc' := 9) hn84_ d59_7 rfl rfl (by decide) (by decide) (by decide) vl84 rfl rfl (Nat.le_of_ble_eq_true rfl) (Nat.le_of_ble_eq_true rfl) ?_
  refine wp_heap (show _ = hp85 from rfl) ?_
  refine r_putR (pc' := 12) d59_9 rfl o59 sp10_11_10 sh31 (fun _ => rfl) (Or.inr ⟨_, rfl⟩) (ltk hn85_ (by decide)) ?_
  refine wp_heap (show _ = hp86 from rfl) ?_
  refine r_aload_n (pc' := 13) d59_12 rfl rfl rfl ?_
  refine r_bipush (v := 8) (pc' := 15) d59_13 rfl (by decide) ?_
  refine r_newIk (pc' := 17) hn86_ d59_15 rfl rfl (by decide) (by decide) (by decide) vl86 rfl rfl (Nat.le_of_ble_eq_true rfl) (Nat.le_of_ble_eq_true rfl) ?_
  refine wp_heap (show _ = hp87 from rfl) ?_
  refine r_putR (pc' := 20) d59_17 rfl o59 sp10_17_10 sh31 (fun _ => rfl) (Or.inr ⟨_, rfl⟩) (ltk hn87_ (by decide)) ?_
  refine wp_heap (show _ = hp88 from rfl) ?_
  refine r_aload_n (pc' := 21) d59_20 rfl rfl rfl ?_
  refine r_bipush (v := 8) (pc' := 23) d59_21 rfl (by decide) ?_
  refine r_newIk (pc' := 25) hn88_ d59_23 rfl rfl (by decide) (by decide) (by decide) vl88 rfl rfl (Nat.le_of_ble_eq_true rfl) (Nat.le_of_ble_eq_true rfl) ?_
  refine wp_heap (show _ = hp89 from rfl) ?_
  refine r_putR (pc' := 28) d59_25 rfl o59 sp10_20_10 sh31 (fun _ => rfl) (Or.inr ⟨_, rfl⟩) (ltk hn89_ (by decide)) ?_
  refine wp_heap (show _ = hp90 from rfl) ?_
  refine r_aload_n (pc' := 29) d59_28 rfl rfl rfl ?_
  refine r_bipush (v := 6) (pc' := 31) d59_29 rfl (by decide) ?_
  refine r_newTk (pc' := 34) hn90_ d59_31 rfl o59 kl10_1 rfl (by decide) (by decide) (by decide) vl90 rfl rfl (Nat.le_of_ble_eq_true rfl) (Nat.le_of_ble_eq_true rfl) ?_
  refine wp_heap (show _ = hp91 from rfl) ?_
  refine r_putR (pc' := 37) d59_34 rfl o59 sp10_23_10 sh31 (fun _ => rfl) (Or.inr ⟨_, rfl⟩) (ltk hn91_ (by decide)) ?_
  refine wp_heap (show _ = hp92 from rfl) ?_
  refine r_aload_n (pc' := 38) d59_37 rfl rfl rfl ?_
  refine r_iconst (v := 4) (pc' := 39) d59_38 rfl (by decide) ?_
  refine r_newIk (pc' := 41) hn92_ d59_39 rfl rfl (by decide) (by decide) (by decide) vl92 rfl rfl (Nat.le_of_ble_eq_true rfl) (Nat.le_of_ble_eq_true rfl) ?_
  refine wp_heap (show _ = hp93 from rfl) ?_
  refine r_putR (pc' := 44) d59_41 rfl o59 sp10_27_10 sh31 (fun _ => rfl) (Or.inr ⟨_, rfl⟩) (ltk hn93_ (by decide)) ?_
  refine wp_heap (show _ = hp94 from rfl) ?_
  refine r_aload_n (pc' := 45) d59_44 rfl rfl rfl ?_
  refine r_iconst (v := 4) (pc' := 46) d59_45 rfl (by decide) ?_
  refine r_newIk (pc' := 48) hn94_ d59_46 rfl rfl (by decide) (by decide) (by decide) vl94 rfl rfl (Nat.le_of_ble_eq_true rfl) (Nat.le_of_ble_eq_true rfl) ?_
  refine wp_heap (show _ = hp95 from rfl) ?_
  refine r_putR (pc' := 51) d59_48 rfl o59 sp10_30_10 sh31 (fun _ => rfl) (Or.inr ⟨_, rfl⟩) (ltk hn95_ (by decide)) ?_
  refine wp_heap (show _ = hp96 from rfl) ?_
  refine r_aload_n (pc' := 52) d59_51 rfl rfl rfl ?_
  refine r_iconst (v := 4) (pc' := 53) d59_52 rfl (by decide) ?_
  refine r_newIk (pc' := 55) hn96_ d59_53 rfl rfl (by decide) (by decide) (by decide) vl96 rfl rfl (Nat.le_of_ble_eq_true rfl) (Nat.le_of_ble_eq_true rfl) ?_
  refine wp_heap (show _ = hp97 from rfl) ?_
  refine r_putR (pc' := 58) d59_55 rfl o59 sp10_33_10 sh31 (fun _ => rfl) (Or.inr ⟨_, rfl⟩) (ltk hn97_ (by decide)) ?_
  refine wp_heap (show _ = hp98 from rfl) ?_
  refine r_aload_n (pc' := 59) d59_58 rfl rfl rfl ?_
  refine r_aload_n (pc' := 60) d59_59 rfl rfl rfl ?_
  refine r_putR (pc' := 63) d59_60 rfl o59 sp10_36_10 sh31 (fun _ => rfl) (Or.inr ⟨_, rfl⟩) (ltk hn98_ (by decide)) ?_
  refine wp_heap (show _ = hp99 from rfl) ?_
  refine r_iconst (v := 0) (pc' := 64) d59_63 rfl (by decide) ?_
  refine r_istore_n (pc' := 65) (ls' := [(2, vI _), (0, vR (some 31)), (1, vR (some 9))]) d59_64 rfl rfl (by decide) rfl ?_
  refine r_iload_n (pc' := 66) d59_65 rfl rfl rfl ?_
  refine r_bipush (v := 6) (pc' := 68) d59_66 rfl (by decide) ?_
  refine r_icmp_ge 94 (pc' := 71) d59_68 rfl rfl (fun c68 => absurd c68 (by decide)) (fun c68 => ?_)
  refine r_aload_n (pc' := 72) d59_71 rfl rfl rfl ?_
  refine r_getS (pc' := 75) d59_72 rfl o59 sf10_23_10 sh31 (ltk hn99_ (by decide)) (show hr hp99 31 9 = some 35 by decide +kernel) ?_
  refine r_iload_n (pc' := 76) d59_75 rfl rfl rfl ?_
  refine r_newk (pc' := 79) hn99_ d59_76 rfl o59 sn10_1 rfl vl99 rfl rfl (Nat.le_of_ble_eq_true rfl) (Nat.le_of_ble_eq_true rfl) ?_
  refine wp_heap (show _ = hp100 from rfl) ?_
  refine r_dupR (pc' := 80) d59_79 rfl ?_
  refine r_iload_n (pc' := 81) d59_80 rfl rfl rfl ?_
  refine r_aload_n (pc' := 82) d59_81 rfl rfl rfl ?_
  refine r_iconst (v := 1) (pc' := 83) d59_82 rfl (by decide) ?_
  refine r_aaldKN (pc' := 84) (j := 1) d59_83 rfl sh9 (ltk hn100_ (by decide)) (by decide) (by decide) (by decide) (show hr hp100 9 1 = some 11 by decide +kernel) ?_
  refine r_callA (pc' := 87) [vR (some 39), vI _, vR (some 11)] [vR (some 39), vI _, vR (some 35)] d59_84 rfl o59 (st10_40 8) (rcv1 sh39 (ltk hn100_ (by decide))) rfl (by decide) (by decide +kernel) rfl rfl (Nat.le_of_ble_eq_true rfl) rfl (Nat.le_of_ble_eq_true rfl) (Nat.le_of_ble_eq_true rfl) (k_thing sh39 (ltk hn100_ (by decide)) ?_)
  refine wp_heap (show _ = hp101 from rfl) ?_
  refine r_aastT (pc' := 88) d59_87 rfl sh35 (ltk hn101_ (by decide)) sh39 (ltk hn101_ (by decide)) (Or.inl rfl) (by unfold vp_in; decide) ?_
  refine wp_heap (show _ = hp102 from rfl) ?_
  refine r_iinc (v := _ + 1) (pc' := 91) (ls' := [(2, vI _), (0, vR (some 31)), (1, vR (some 9))]) d59_88 rfl rfl rfl (by decide) rfl ?_
  refine r_goto 65 d59_91 rfl ?_
  refine r_iload_n (pc' := 66) d59_65 rfl rfl rfl ?_
  refine r_bipush (v := 6) (pc' := 68) d59_66 rfl (by decide) ?_
  refine r_icmp_ge 94 (pc' := 71) d59_68 rfl rfl (fun c68 => absurd c68 (by decide)) (fun c68 => ?_)
  refine r_aload_n (pc' := 72) d59_71 rfl rfl rfl ?_
  refine r_getS (pc' := 75) d59_72 rfl o59 sf10_23_10 sh31 (ltk hn102_ (by decide)) (show hr hp102 31 9 = some 35 by decide +kernel) ?_
  refine r_iload_n (pc' := 76) d59_75 rfl rfl rfl ?_
  refine r_newk (pc' := 79) hn102_ d59_76 rfl o59 sn10_1 rfl vl102 rfl rfl (Nat.le_of_ble_eq_true rfl) (Nat.le_of_ble_eq_true rfl) ?_
  refine wp_heap (show _ = hp103 from rfl) ?_
  refine r_dupR (pc' := 80) d59_79 rfl ?_
  refine r_iload_n (pc' := 81) d59_80 rfl rfl rfl ?_
  refine r_aload_n (pc' := 82) d59_81 rfl rfl rfl ?_
  refine r_iconst (v := 1) (pc' := 83) d59_82 rfl (by decide) ?_
  refine r_aaldKN (pc' := 84) (j := 1) d59_83 rfl sh9 (ltk hn103_ (by decide)) (by decide) (by decide) (by decide) (show hr hp103 9 1 = some 11 by decide +kernel) ?_
  refine r_callA (pc' := 87) [vR (some 40), vI _, vR (some 11)] [vR (some 40), vI _, vR (some 35)] d59_84 rfl o59 (st10_40 8) (rcv1 sh40 (ltk hn103_ (by decide))) rfl (by decide) (by decide +kernel) rfl rfl (Nat.le_of_ble_eq_true rfl) rfl (Nat.le_of_ble_eq_true rfl) (Nat.le_of_ble_eq_true rfl) (k_thing sh40 (ltk hn103_ (by decide)) ?_)
  refine wp_heap (show _ = hp104 from rfl) ?_
  refine r_aastT (pc' := 88) d59_87 rfl sh35 (ltk hn104_ (by decide)) sh40 (ltk hn104_ (by decide)) (Or.inl rfl) (by unfold vp_in; decide) ?_
  refine wp_heap (show _ = hp105 from rfl) ?_
  refine r_iinc (v := _ + 1) (pc' := 91) (ls' := [(2, vI _), (0, vR (some 31)), (1, vR (some 9))]) d59_88 rfl rfl rfl (by decide) rfl ?_
  refine r_goto 65 d59_91 rfl ?_
  refine r_iload_n (pc' := 66) d59_65 rfl rfl rfl ?_
  refine r_bipush (v := 6) (pc' := 68) d59_66 rfl (by decide) ?_
  refine r_icmp_ge 94 (pc' := 71) d59_68 rfl rfl (fun c68 => absurd c68 (by decide)) (fun c68 => ?_)
  refine r_aload_n (pc' := 72) d59_71 rfl rfl rfl ?_
  refine r_getS (pc' := 75) d59_72 rfl o59 sf10_23_10 sh31 (ltk hn105_ (by decide)) (show hr hp105 31 9 = some 35 by decide +kernel) ?_
  refine r_iload_n (pc' := 76) d59_75 rfl rfl rfl ?_
  refine r_newk (pc' := 79) hn105_ d59_76 rfl o59 sn10_1 rfl vl105 rfl rfl (Nat.le_of_ble_eq_true rfl) (Nat.le_of_ble_eq_true rfl) ?_
  refine wp_heap (show _ = hp106 from rfl) ?_
  refine r_dupR (pc' := 80) d59_79 rfl ?_
  refine r_iload_n (pc' := 81) d59_80 rfl rfl rfl ?_
  refine r_aload_n (pc' := 82) d59_81 rfl rfl rfl ?_
  refine r_iconst (v := 1) (pc' := 83) d59_82 rfl (by decide) ?_
  refine r_aaldKN (pc' := 84) (j := 1) d59_83 rfl sh9 (ltk hn106_ (by decide)) (by decide) (by decide) (by decide) (show hr hp106 9 1 = some 11 by decide +kernel) ?_
  refine r_callA (pc' := 87) [vR (some 41), vI _, vR (some 11)] [vR (some 41), vI _, vR (some 35)] d59_84 rfl o59 (st10_40 8) (rcv1 sh41 (ltk hn106_ (by decide))) rfl (by decide) (by decide +kernel) rfl rfl (Nat.le_of_ble_eq_true rfl) rfl (Nat.le_of_ble_eq_true rfl) (Nat.le_of_ble_eq_true rfl) (k_thing sh41 (ltk hn106_ (by decide)) ?_)
  refine wp_heap (show _ = hp107 from rfl) ?_
  refine r_aastT (pc' := 88) d59_87 rfl sh35 (ltk hn107_ (by decide)) sh41 (ltk hn107_ (by decide)) (Or.inl rfl) (by unfold vp_in; decide) ?_
  refine wp_heap (show _ = hp108 from rfl) ?_
  refine r_iinc (v := _ + 1) (pc' := 91) (ls' := [(2, vI _), (0, vR (some 31)), (1, vR (some 9))]) d59_88 rfl rfl rfl (by decide) rfl ?_
  refine r_goto 65 d59_91 rfl ?_
  refine r_iload_n (pc' := 66) d59_65 rfl rfl rfl ?_
  refine r_bipush (v := 6) (pc' := 68) d59_66 rfl (by decide) ?_
  refine r_icmp_ge 94 (pc' := 71) d59_68 rfl rfl (fun c68 => absurd c68 (by decide)) (fun c68 => ?_)
  refine r_aload_n (pc' := 72) d59_71 rfl rfl rfl ?_
  refine r_getS (pc' := 75) d59_72 rfl o59 sf10_23_10 sh31 (ltk hn108_ (by decide)) (show hr hp108 31 9 = some 35 by decide +kernel) ?_
  refine r_iload_n (pc' := 76) d59_75 rfl rfl rfl ?_
  refine r_newk (pc' := 79) hn108_ d59_76 rfl o59 sn10_1 rfl vl108 rfl rfl (Nat.le_of_ble_eq_true rfl) (Nat.le_of_ble_eq_true rfl) ?_
  refine wp_heap (show _ = hp109 from rfl) ?_
  refine r_dupR (pc' := 80) d59_79 rfl ?_
  refine r_iload_n (pc' := 81) d59_80 rfl rfl rfl ?_
  refine r_aload_n (pc' := 82) d59_81 rfl rfl rfl ?_
  refine r_iconst (v := 1) (pc' := 83) d59_82 rfl (by decide) ?_
  refine r_aaldKN (pc' := 84) (j := 1) d59_83 rfl sh9 (ltk hn109_ (by decide)) (by decide) (by decide) (by decide) (show hr hp109 9 1 = some 11 by decide +kernel) ?_
  refine r_callA (pc' := 87) [vR (some 42), vI _, vR (some 11)] [vR (some 42), vI _, vR (some 35)] d59_84 rfl o59 (st10_40 8) (rcv1 sh42 (ltk hn109_ (by decide))) rfl (by decide) (by decide +kernel) rfl rfl (Nat.le_of_ble_eq_true rfl) rfl (Nat.le_of_ble_eq_true rfl) (Nat.le_of_ble_eq_true rfl) (k_thing sh42 (ltk hn109_ (by decide)) ?_)
  refine wp_heap (show _ = hp110 from rfl) ?_
  refine r_aastT (pc' := 88) d59_87 rfl sh35 (ltk hn110_ (by decide)) sh42 (ltk hn110_ (by decide)) (Or.inl rfl) (by unfold vp_in; decide) ?_
  refine wp_heap (show _ = hp111 from rfl) ?_
  refine r_iinc (v := _ + 1) (pc' := 91) (ls' := [(2, vI _), (0, vR (some 31)), (1, vR (some 9))]) d59_88 rfl rfl rfl (by decide) rfl ?_
  refine r_goto 65 d59_91 rfl ?_
  refine r_iload_n (pc' := 66) d59_65 rfl rfl rfl ?_
  refine r_bipush (v := 6) (pc' := 68) d59_66 rfl (by decide) ?_
  refine r_icmp_ge 94 (pc' := 71) d59_68 rfl rfl (fun c68 => absurd c68 (by decide)) (fun c68 => ?_)
  refine r_aload_n (pc' := 72) d59_71 rfl rfl rfl ?_
  refine r_getS (pc' := 75) d59_72 rfl o59 sf10_23_10 sh31 (ltk hn111_ (by decide)) (show hr hp111 31 9 = some 35 by decide +kernel) ?_
  refine r_iload_n (pc' := 76) d59_75 rfl rfl rfl ?_
  refine r_newk (pc' := 79) hn111_ d59_76 rfl o59 sn10_1 rfl vl111 rfl rfl (Nat.le_of_ble_eq_true rfl) (Nat.le_of_ble_eq_true rfl) ?_
  refine wp_heap (show _ = hp112 from rfl) ?_
  refine r_dupR (pc' := 80) d59_79 rfl ?_
  refine r_iload_n (pc' := 81) d59_80 rfl rfl rfl ?_
  refine r_aload_n (pc' := 82) d59_81 rfl rfl rfl ?_
  refine r_iconst (v := 1) (pc' := 83) d59_82 rfl (by decide) ?_
  refine r_aaldKN (pc' := 84) (j := 1) d59_83 rfl sh9 (ltk hn112_ (by decide)) (by decide) (by decide) (by decide) (show hr hp112 9 1 = some 11 by decide +kernel) ?_
  refine r_callA (pc' := 87) [vR (some 43), vI _, vR (some 11)] [vR (some 43), vI _, vR (some 35)] d59_84 rfl o59 (st10_40 8) (rcv1 sh43 (ltk hn112_ (by decide))) rfl (by decide) (by decide +kernel) rfl rfl (Nat.le_of_ble_eq_true rfl) rfl (Nat.le_of_ble_eq_true rfl) (Nat.le_of_ble_eq_true rfl) (k_thing sh43 (ltk hn112_ (by decide)) ?_)
  refine wp_heap (show _ = hp113 from rfl) ?_
  refine r_aastT (pc' := 88) d59_87 rfl sh35 (ltk hn113_ (by decide)) sh43 (ltk hn113_ (by decide)) (Or.inl rfl) (by unfold vp_in; decide) ?_
  refine wp_heap (show _ = hp114 from rfl) ?_
  refine r_iinc (v := _ + 1) (pc' := 91) (ls' := [(2, vI _), (0, vR (some 31)), (1, vR (some 9))]) d59_88 rfl rfl rfl (by decide) rfl ?_
  refine r_goto 65 d59_91 rfl ?_
  refine r_iload_n (pc' := 66) d59_65 rfl rfl rfl ?_
  refine r_bipush (v := 6) (pc' := 68) d59_66 rfl (by decide) ?_
  refine r_icmp_ge 94 (pc' := 71) d59_68 rfl rfl (fun c68 => absurd c68 (by decide)) (fun c68 => ?_)
  refine r_aload_n (pc' := 72) d59_71 rfl rfl rfl ?_
  refine r_getS (pc' := 75) d59_72 rfl o59 sf10_23_10 sh31 (ltk hn114_ (by decide)) (show hr hp114 31 9 = some 35 by decide +kernel) ?_
  refine r_iload_n (pc' := 76) d59_75 rfl rfl rfl ?_
  refine r_newk (pc' := 79) hn114_ d59_76 rfl o59 sn10_1 rfl vl114 rfl rfl (Nat.le_of_ble_eq_true rfl) (Nat.le_of_ble_eq_true rfl) ?_
  refine wp_heap (show _ = hp115 from rfl) ?_
  refine r_dupR (pc' := 80) d59_79 rfl ?_
  refine r_iload_n (pc' := 81) d59_80 rfl rfl rfl ?_
  refine r_aload_n (pc' := 82) d59_81 rfl rfl rfl ?_
  refine r_iconst (v := 1) (pc' := 83) d59_82 rfl (by decide) ?_
  refine r_aaldKN (pc' := 84) (j := 1) d59_83 rfl sh9 (ltk hn115_ (by decide)) (by decide) (by decide) (by decide) (show hr hp115 9 1 = some 11 by decide +kernel) ?_
  refine r_callA (pc' := 87) [vR (some 44), vI _, vR (some 11)] [vR (some 44), vI _, vR (some 35)] d59_84 rfl o59 (st10_40 8) (rcv1 sh44 (ltk hn115_ (by decide))) rfl (by decide) (by decide +kernel) rfl rfl (Nat.le_of_ble_eq_true rfl) rfl (Nat.le_of_ble_eq_true rfl) (Nat.le_of_ble_eq_true rfl) (k_thing sh44 (ltk hn115_ (by decide)) ?_)
  refine wp_heap (show _ = hp116 from rfl) ?_
  refine r_aastT (pc' := 88) d59_87 rfl sh35 (ltk hn116_ (by decide)) sh44 (ltk hn116_ (by decide)) (Or.inl rfl) (by unfold vp_in; decide) ?_
  refine wp_heap (show _ = hp117 from rfl) ?_
  refine r_iinc (v := _ + 1) (pc' := 91) (ls' := [(2, vI _), (0, vR (some 31)), (1, vR (some 9))]) d59_88 rfl rfl rfl (by decide) rfl ?_
  refine r_goto 65 d59_91 rfl ?_
  refine r_iload_n (pc' := 66) d59_65 rfl rfl rfl ?_
  refine r_bipush (v := 6) (pc' := 68) d59_66 rfl (by decide) ?_
  refine r_icmp_ge 94 (pc' := 71) d59_68 rfl rfl (fun c68 => ?_) (fun c68 => absurd (by decide) c68)
  exact r_ret d59_94 rfl k
def hp118 : Hp := setr hp117 0 6 (some 31)
theorem hn118_ : hn hp118 = 45 := by rw [hp118, hn_sr, hn117_]
theorem vl118 : Val hp118 := vl117.setr _ _ _ (ltk hn117_ (by decide))
def hp119 : Hp := grow hp118
theorem hn119_ : hn hp119 = 46 := hn_g hn118_
theorem vl119 : Val hp119 := vl118.grow
def hp120 : Hp := setr hp119 0 8 (some 45)
theorem hn120_ : hn hp120 = 46 := by rw [hp120, hn_sr, hn119_]
theorem vl120 : Val hp120 := vl119.setr _ _ _ (ltk hn119_ (by decide))
def hp121 : Hp := grow hp120
theorem hn121_ : hn hp121 = 47 := hn_g hn120_
theorem vl121 : Val hp121 := vl120.grow
def hp122 : Hp := setr hp121 0 11 (some 46)
theorem hn122_ : hn hp122 = 47 := by rw [hp122, hn_sr, hn121_]
theorem vl122 : Val hp122 := vl121.setr _ _ _ (ltk hn121_ (by decide))
def hp123 : Hp := grow hp122
theorem hn123_ : hn hp123 = 48 := hn_g hn122_
theorem vl123 : Val hp123 := vl122.grow
def hp124 : Hp := setr hp123 0 12 (some 47)
theorem hn124_ : hn hp124 = 48 := by rw [hp124, hn_sr, hn123_]
theorem vl124 : Val hp124 := vl123.setr _ _ _ (ltk hn123_ (by decide))
def hp125 : Hp := grow hp124
theorem hn125_ : hn hp125 = 49 := hn_g hn124_
theorem vl125 : Val hp125 := vl124.grow
def hp126 : Hp := setr hp125 0 13 (some 48)
theorem hn126_ : hn hp126 = 49 := by rw [hp126, hn_sr, hn125_]
theorem vl126 : Val hp126 := vl125.setr _ _ _ (ltk hn125_ (by decide))
def hp127 : Hp := grow hp126
theorem hn127_ : hn hp127 = 50 := hn_g hn126_
theorem vl127 : Val hp127 := vl126.grow
def hp128 : Hp := setr hp127 0 14 (some 49)
theorem hn128_ : hn hp128 = 50 := by rw [hp128, hn_sr, hn127_]
theorem vl128 : Val hp128 := vl127.setr _ _ _ (ltk hn127_ (by decide))
theorem k_mk1 {d : Nat} {Q : Option AV → Hp → Prop} (k : Q none hp128) : Spec (d + 5) 85 [vR (some 0)] hp1 Q := by
  refine spec_intro (by decide +kernel) rfl (Nat.le_of_ble_eq_true rfl) ?_
  refine r_aload_n (pc' := 1) d85_0 rfl rfl rfl ?_
  refine r_objInit (pc' := 4) d85_1 rfl o85 st11_1 jo_2 jo_3 (Nat.le_of_ble_eq_true rfl) ?_
  refine r_aload_n (pc' := 5) d85_4 rfl rfl rfl ?_
  refine r_newk (pc' := 8) hn1_ d85_5 rfl o85 sn11_7 rfl vl1 rfl rfl (Nat.le_of_ble_eq_true rfl) (Nat.le_of_ble_eq_true rfl) ?_
  refine wp_heap (show _ = hp2 from rfl) ?_
  refine r_dupR (pc' := 9) d85_8 rfl ?_
  refine r_callA (pc' := 12) [vR (some 1)] [vR (some 1), vR (some 0)] d85_9 rfl o85 (st11_9 5) (rcv1 sh1 (ltk hn2_ (by decide))) rfl (by decide) (by decide +kernel) rfl rfl (Nat.le_of_ble_eq_true rfl) rfl (Nat.le_of_ble_eq_true rfl) (Nat.le_of_ble_eq_true rfl) (k_mk2 ?_)
  refine r_putR (pc' := 15) d85_12 rfl o85 sp11_10_11 sh0 (fun _ => rfl) (Or.inl ⟨_, rfl⟩) (ltk hn16_ (by decide)) ?_
  refine wp_heap (show _ = hp17 from rfl) ?_
  refine r_aload_n (pc' := 16) d85_15 rfl rfl rfl ?_
  refine r_newk (pc' := 19) hn17_ d85_16 rfl o85 sn11_16 rfl vl17 rfl rfl (Nat.le_of_ble_eq_true rfl) (Nat.le_of_ble_eq_true rfl) ?_
  refine wp_heap (show _ = hp18 from rfl) ?_
  refine r_dupR (pc' := 20) d85_19 rfl ?_
  refine r_callA (pc' := 23) [vR (some 5)] [vR (some 5), vR (some 0)] d85_20 rfl o85 (st11_18 4) (rcv1 sh5 (ltk hn18_ (by decide))) rfl (by decide) (by decide +kernel) rfl rfl (Nat.le_of_ble_eq_true rfl) rfl (Nat.le_of_ble_eq_true rfl) (Nat.le_of_ble_eq_true rfl) (k_mk3 ?_)
  refine r_putR (pc' := 26) d85_23 rfl o85 sp11_19_11 sh0 (fun _ => rfl) (Or.inl ⟨_, rfl⟩) (ltk hn20_ (by decide)) ?_
  refine wp_heap (show _ = hp21 from rfl) ?_
  refine r_aload_n (pc' := 27) d85_26 rfl rfl rfl ?_
  refine r_newk (pc' := 30) hn21_ d85_27 rfl o85 sn11_23 rfl vl21 rfl rfl (Nat.le_of_ble_eq_true rfl) (Nat.le_of_ble_eq_true rfl) ?_
  refine wp_heap (show _ = hp22 from rfl) ?_
  refine r_dupR (pc' := 31) d85_30 rfl ?_
  refine r_callA (pc' := 34) [vR (some 7)] [vR (some 7), vR (some 0)] d85_31 rfl o85 (st11_25 9) (rcv1 sh7 (ltk hn22_ (by decide))) rfl (by decide) (by decide +kernel) rfl rfl (Nat.le_of_ble_eq_true rfl) rfl (Nat.le_of_ble_eq_true rfl) (Nat.le_of_ble_eq_true rfl) (k_mk4 ?_)
  refine r_putR (pc' := 37) d85_34 rfl o85 sp11_26_11 sh0 (fun _ => rfl) (Or.inl ⟨_, rfl⟩) (ltk hn24_ (by decide)) ?_
  refine wp_heap (show _ = hp25 from rfl) ?_
  refine r_aload_n (pc' := 38) d85_37 rfl rfl rfl ?_
  refine r_callA (pc' := 41) [] [vR (some 0)] d85_38 rfl o85 st11_30 rcv0 rfl (by decide) (by decide +kernel) rfl rfl (Nat.le_of_ble_eq_true rfl) rfl (Nat.le_of_ble_eq_true rfl) (Nat.le_of_ble_eq_true rfl) (k_mk5 ?_)
  refine r_putR (pc' := 44) d85_41 rfl o85 sp11_34_11 sh0 (fun _ => rfl) (Or.inr ⟨_, rfl⟩) (ltk hn44_ (by decide)) ?_
  refine wp_heap (show _ = hp45 from rfl) ?_
  refine r_aload_n (pc' := 45) d85_44 rfl rfl rfl ?_
  refine r_newk (pc' := 48) hn45_ d85_45 rfl o85 sn11_38 rfl vl45 rfl rfl (Nat.le_of_ble_eq_true rfl) (Nat.le_of_ble_eq_true rfl) ?_
  refine wp_heap (show _ = hp46 from rfl) ?_
  refine r_dupR (pc' := 49) d85_48 rfl ?_
  refine r_iconst (v := 0) (pc' := 50) d85_49 rfl (by decide) ?_
  refine r_aload_n (pc' := 51) d85_50 rfl rfl rfl ?_
  refine r_getS (pc' := 54) d85_51 rfl o85 sf11_34_11 sh0 (ltk hn46_ (by decide)) (show hr hp46 0 3 = some 9 by decide +kernel) ?_
  refine r_iconst (v := 1) (pc' := 55) d85_54 rfl (by decide) ?_
  refine r_aaldKN (pc' := 56) (j := 1) d85_55 rfl sh9 (ltk hn46_ (by decide)) (by decide) (by decide) (by decide) (show hr hp46 9 1 = some 11 by decide +kernel) ?_
  refine r_callA (pc' := 59) [vR (some 16), vI _, vR (some 11)] [vR (some 16), vR (some 0)] d85_56 rfl o85 (st11_40 8) (rcv1 sh16 (ltk hn46_ (by decide))) rfl (by decide) (by decide +kernel) rfl rfl (Nat.le_of_ble_eq_true rfl) rfl (Nat.le_of_ble_eq_true rfl) (Nat.le_of_ble_eq_true rfl) (k_thing sh16 (ltk hn46_ (by decide)) ?_)
  refine wp_heap (show _ = hp47 from rfl) ?_
  refine r_putR (pc' := 62) d85_59 rfl o85 sp11_43_11 sh0 (fun _ => rfl) (Or.inl ⟨_, rfl⟩) (ltk hn47_ (by decide)) ?_
  refine wp_heap (show _ = hp48 from rfl) ?_
  refine r_aload_n (pc' := 63) d85_62 rfl rfl rfl ?_
  refine r_newk (pc' := 66) hn48_ d85_63 rfl o85 sn11_47 rfl vl48 rfl rfl (Nat.le_of_ble_eq_true rfl) (Nat.le_of_ble_eq_true rfl) ?_
  refine wp_heap (show _ = hp49 from rfl) ?_
  refine r_dupR (pc' := 67) d85_66 rfl ?_
  refine r_aload_n (pc' := 68) d85_67 rfl rfl rfl ?_
  refine r_getS (pc' := 71) d85_68 rfl o85 sf11_34_11 sh0 (ltk hn49_ (by decide)) (show hr hp49 0 3 = some 9 by decide +kernel) ?_
  refine r_callA (pc' := 74) [vR (some 17), vR (some 9)] [vR (some 17), vR (some 0)] d85_71 rfl o85 (st11_49 10) (rcv1 sh17 (ltk hn49_ (by decide))) rfl (by decide) (by decide +kernel) rfl rfl (Nat.le_of_ble_eq_true rfl) rfl (Nat.le_of_ble_eq_true rfl) (Nat.le_of_ble_eq_true rfl) (k_mk6 ?_)
  refine r_putR (pc' := 77) d85_74 rfl o85 sp11_52_11 sh0 (fun w => absurd w (by decide)) (Or.inl ⟨_, rfl⟩) (ltk hn82_ (by decide)) ?_
  refine wp_heap (show _ = hp83 from rfl) ?_
  refine r_aload_n (pc' := 78) d85_77 rfl rfl rfl ?_
  refine r_newk (pc' := 81) hn83_ d85_78 rfl o85 sn11_47 rfl vl83 rfl rfl (Nat.le_of_ble_eq_true rfl) (Nat.le_of_ble_eq_true rfl) ?_
  refine wp_heap (show _ = hp84 from rfl) ?_
  refine r_dupR (pc' := 82) d85_81 rfl ?_
  refine r_aload_n (pc' := 83) d85_82 rfl rfl rfl ?_
  refine r_getS (pc' := 86) d85_83 rfl o85 sf11_34_11 sh0 (ltk hn84_ (by decide)) (show hr hp84 0 3 = some 9 by decide +kernel) ?_
  refine r_callA (pc' := 89) [vR (some 31), vR (some 9)] [vR (some 31), vR (some 0)] d85_86 rfl o85 (st11_49 10) (rcv1 sh31 (ltk hn84_ (by decide))) rfl (by decide) (by decide +kernel) rfl rfl (Nat.le_of_ble_eq_true rfl) rfl (Nat.le_of_ble_eq_true rfl) (Nat.le_of_ble_eq_true rfl) (k_mk7 ?_)
  refine r_putR (pc' := 92) d85_89 rfl o85 sp11_56_11 sh0 (fun w => absurd w (by decide)) (Or.inl ⟨_, rfl⟩) (ltk hn117_ (by decide)) ?_
  refine wp_heap (show _ = hp118 from rfl) ?_
  refine r_aload_n (pc' := 93) d85_92 rfl rfl rfl ?_
  refine r_sipush (v := 2016) (pc' := 96) d85_93 rfl (by decide) ?_
  refine r_newIk (pc' := 98) hn118_ d85_96 rfl rfl (by decide) (by decide) (by decide) vl118 rfl rfl (Nat.le_of_ble_eq_true rfl) (Nat.le_of_ble_eq_true rfl) ?_
  refine wp_heap (show _ = hp119 from rfl) ?_
  refine r_putR (pc' := 101) d85_98 rfl o85 sp11_59_11 sh0 (fun _ => rfl) (Or.inr ⟨_, rfl⟩) (ltk hn119_ (by decide)) ?_
  refine wp_heap (show _ = hp120 from rfl) ?_
  refine r_aload_n (pc' := 102) d85_101 rfl rfl rfl ?_
  refine r_sipush (v := 168) (pc' := 105) d85_102 rfl (by decide) ?_
  refine r_newIk (pc' := 107) hn120_ d85_105 rfl rfl (by decide) (by decide) (by decide) vl120 rfl rfl (Nat.le_of_ble_eq_true rfl) (Nat.le_of_ble_eq_true rfl) ?_
  refine wp_heap (show _ = hp121 from rfl) ?_
  refine r_putR (pc' := 110) d85_107 rfl o85 sp11_63_11 sh0 (fun _ => rfl) (Or.inr ⟨_, rfl⟩) (ltk hn121_ (by decide)) ?_
  refine wp_heap (show _ = hp122 from rfl) ?_
  refine r_aload_n (pc' := 111) d85_110 rfl rfl rfl ?_
  refine r_iconst (v := 2) (pc' := 112) d85_111 rfl (by decide) ?_
  refine r_newZk (pc' := 114) hn122_ d85_112 rfl rfl (by decide) (by decide) (by decide) vl122 rfl rfl (Nat.le_of_ble_eq_true rfl) (Nat.le_of_ble_eq_true rfl) ?_
  refine wp_heap (show _ = hp123 from rfl) ?_
  refine r_putR (pc' := 117) d85_114 rfl o85 sp11_66_11 sh0 (fun _ => rfl) (Or.inr ⟨_, rfl⟩) (ltk hn123_ (by decide)) ?_
  refine wp_heap (show _ = hp124 from rfl) ?_
  refine r_aload_n (pc' := 118) d85_117 rfl rfl rfl ?_
  refine r_bipush (v := 84) (pc' := 120) d85_118 rfl (by decide) ?_
  refine r_newIk (pc' := 122) hn124_ d85_120 rfl rfl (by decide) (by decide) (by decide) vl124 rfl rfl (Nat.le_of_ble_eq_true rfl) (Nat.le_of_ble_eq_true rfl) ?_
  refine wp_heap (show _ = hp125 from rfl) ?_
  refine r_putR (pc' := 125) d85_122 rfl o85 sp11_70_11 sh0 (fun _ => rfl) (Or.inr ⟨_, rfl⟩) (ltk hn125_ (by decide)) ?_
  refine wp_heap (show _ = hp126 from rfl) ?_
  refine r_aload_n (pc' := 126) d85_125 rfl rfl rfl ?_
  refine r_bipush (v := 60) (pc' := 128) d85_126 rfl (by decide) ?_
  refine r_newIk (pc' := 130) hn126_ d85_128 rfl rfl (by decide) (by decide) (by decide) vl126 rfl rfl (Nat.le_of_ble_eq_true rfl) (Nat.le_of_ble_eq_true rfl) ?_
  refine wp_heap (show _ = hp127 from rfl) ?_
  refine r_putR (pc' := 133) d85_130 rfl o85 sp11_73_11 sh0 (fun _ => rfl) (Or.inr ⟨_, rfl⟩) (ltk hn127_ (by decide)) ?_
  refine wp_heap (show _ = hp128 from rfl) ?_
  exact r_ret d85_133 rfl k
def hp129 : Hp := grow hp128
theorem hn129_ : hn hp129 = 51 := hn_g hn128_
theorem vl129 : Val hp129 := vl128.grow
def hp130 : Hp := grow hp129
theorem hn130_ : hn hp130 = 52 := hn_g hn129_
theorem vl130 : Val hp130 := vl129.grow
def hp131 : Hp := setr hp130 50 0 (some 51)
theorem hn131_ : hn hp131 = 52 := by rw [hp131, hn_sr, hn130_]
theorem vl131 : Val hp131 := vl130.setr _ _ _ (ltk hn130_ (by decide))
def hp132 : Hp := grow hp131
theorem hn132_ : hn hp132 = 53 := hn_g hn131_
theorem vl132 : Val hp132 := vl131.grow
def hp133 : Hp := setr hp132 50 1 (some 52)
theorem hn133_ : hn hp133 = 53 := by rw [hp133, hn_sr, hn132_]
theorem vl133 : Val hp133 := vl132.setr _ _ _ (ltk hn132_ (by decide))
def hp134 : Hp := grow hp133
theorem hn134_ : hn hp134 = 54 := hn_g hn133_
theorem vl134 : Val hp134 := vl133.grow
def hp135 : Hp := setr hp134 50 2 (some 53)
theorem hn135_ : hn hp135 = 54 := by rw [hp135, hn_sr, hn134_]
theorem vl135 : Val hp135 := vl134.setr _ _ _ (ltk hn134_ (by decide))
def hp136 : Hp := grow hp135
theorem hn136_ : hn hp136 = 55 := hn_g hn135_
theorem vl136 : Val hp136 := vl135.grow
def hp137 : Hp := setr hp136 50 3 (some 54)
theorem hn137_ : hn hp137 = 55 := by rw [hp137, hn_sr, hn136_]
theorem vl137 : Val hp137 := vl136.setr _ _ _ (ltk hn136_ (by decide))
def hp138 : Hp := grow hp137
theorem hn138_ : hn hp138 = 56 := hn_g hn137_
theorem vl138 : Val hp138 := vl137.grow
def hp139 : Hp := setr hp138 50 5 (some 55)
theorem hn139_ : hn hp139 = 56 := by rw [hp139, hn_sr, hn138_]
theorem vl139 : Val hp139 := vl138.setr _ _ _ (ltk hn138_ (by decide))
def hp140 : Hp := grow hp139
theorem hn140_ : hn hp140 = 57 := hn_g hn139_
theorem vl140 : Val hp140 := vl139.grow
def hp141 : Hp := setr hp140 50 6 (some 56)
theorem hn141_ : hn hp141 = 57 := by rw [hp141, hn_sr, hn140_]
theorem vl141 : Val hp141 := vl140.setr _ _ _ (ltk hn140_ (by decide))
def hp142 : Hp := grow hp141
theorem hn142_ : hn hp142 = 58 := hn_g hn141_
theorem vl142 : Val hp142 := vl141.grow
def hp143 : Hp := setr hp142 50 7 (some 57)
theorem hn143_ : hn hp143 = 58 := by rw [hp143, hn_sr, hn142_]
theorem vl143 : Val hp143 := vl142.setr _ _ _ (ltk hn142_ (by decide))
def hp144 : Hp := grow hp143
theorem hn144_ : hn hp144 = 59 := hn_g hn143_
theorem vl144 : Val hp144 := vl143.grow
def hp145 : Hp := setr hp144 50 9 (some 58)
theorem hn145_ : hn hp145 = 59 := by rw [hp145, hn_sr, hn144_]
theorem vl145 : Val hp145 := vl144.setr _ _ _ (ltk hn144_ (by decide))
def hp146 : Hp := grow hp145
theorem hn146_ : hn hp146 = 60 := hn_g hn145_
theorem vl146 : Val hp146 := vl145.grow
def hp147 : Hp := setr hp146 50 17 (some 59)
theorem hn147_ : hn hp147 = 60 := by rw [hp147, hn_sr, hn146_]
theorem vl147 : Val hp147 := vl146.setr _ _ _ (ltk hn146_ (by decide))
def hp148 : Hp := grow hp147
theorem hn148_ : hn hp148 = 61 := hn_g hn147_
theorem vl148 : Val hp148 := vl147.grow
def hp149 : Hp := setr hp148 50 18 (some 60)
theorem hn149_ : hn hp149 = 61 := by rw [hp149, hn_sr, hn148_]
theorem vl149 : Val hp149 := vl148.setr _ _ _ (ltk hn148_ (by decide))
def hp150 : Hp := grow hp149
theorem hn150_ : hn hp150 = 62 := hn_g hn149_
theorem vl150 : Val hp150 := vl149.grow
def hp151 : Hp := setr hp150 50 19 (some 61)
theorem hn151_ : hn hp151 = 62 := by rw [hp151, hn_sr, hn150_]
theorem vl151 : Val hp151 := vl150.setr _ _ _ (ltk hn150_ (by decide))
def hp152 : Hp := grow hp151
theorem hn152_ : hn hp152 = 63 := hn_g hn151_
theorem vl152 : Val hp152 := vl151.grow
def hp153 : Hp := setr hp152 50 20 (some 62)
theorem hn153_ : hn hp153 = 63 := by rw [hp153, hn_sr, hn152_]
theorem vl153 : Val hp153 := vl152.setr _ _ _ (ltk hn152_ (by decide))
def hp154 : Hp := grow hp153
theorem hn154_ : hn hp154 = 64 := hn_g hn153_
theorem vl154 : Val hp154 := vl153.grow
def hp155 : Hp := setr hp154 50 21 (some 63)
theorem hn155_ : hn hp155 = 64 := by rw [hp155, hn_sr, hn154_]
theorem vl155 : Val hp155 := vl154.setr _ _ _ (ltk hn154_ (by decide))
def hp156 : Hp := grow hp155
theorem hn156_ : hn hp156 = 65 := hn_g hn155_
theorem vl156 : Val hp156 := vl155.grow
def hp157 : Hp := setr hp156 50 22 (some 64)
theorem hn157_ : hn hp157 = 65 := by rw [hp157, hn_sr, hn156_]
theorem vl157 : Val hp157 := vl156.setr _ _ _ (ltk hn156_ (by decide))
def hp158 : Hp := seti hp157 55 0 (-1000000)
theorem hn158_ : hn hp158 = 65 := by rw [hp158, hn_si, hn157_]
theorem vl158 : Val hp158 := vl157.seti _ _ _
def hp159 : Hp := seti hp158 55 1 (-1000000)
theorem hn159_ : hn hp159 = 65 := by rw [hp159, hn_si, hn158_]
theorem vl159 : Val hp159 := vl158.seti _ _ _
def hp160 : Hp := seti hp159 55 2 (-1000000)
theorem hn160_ : hn hp160 = 65 := by rw [hp160, hn_si, hn159_]
theorem vl160 : Val hp160 := vl159.seti _ _ _
def hp161 : Hp := seti hp160 55 3 (-1000000)
theorem hn161_ : hn hp161 = 65 := by rw [hp161, hn_si, hn160_]
theorem vl161 : Val hp161 := vl160.seti _ _ _
def hp162 : Hp := seti hp161 55 4 (-1000000)
theorem hn162_ : hn hp162 = 65 := by rw [hp162, hn_si, hn161_]
theorem vl162 : Val hp162 := vl161.seti _ _ _
def hp163 : Hp := seti hp162 55 5 (-1000000)
theorem hn163_ : hn hp163 = 65 := by rw [hp163, hn_si, hn162_]
theorem vl163 : Val hp163 := vl162.seti _ _ _
def hp164 : Hp := seti hp163 55 6 (-1000000)
theorem hn164_ : hn hp164 = 65 := by rw [hp164, hn_si, hn163_]
theorem vl164 : Val hp164 := vl163.seti _ _ _
def hp165 : Hp := seti hp164 55 7 (-1000000)
theorem hn165_ : hn hp165 = 65 := by rw [hp165, hn_si, hn164_]
theorem vl165 : Val hp165 := vl164.seti _ _ _
theorem k_mk8 {d : Nat} {Q : Option AV → Hp → Prop} (k : Q none hp165) : Spec (d + 1) 145 [vR (some 50)] hp129 Q := by
  refine spec_intro (by decide +kernel) rfl (Nat.le_of_ble_eq_true rfl) ?_
  refine r_aload_n (pc' := 1) d145_0 rfl rfl rfl ?_
  refine r_objInit (pc' := 4) d145_1 rfl o145 st12_1 jo_2 jo_3 (Nat.le_of_ble_eq_true rfl) ?_
  refine r_aload_n (pc' := 5) d145_4 rfl rfl rfl ?_
  refine r_bipush (v := 85) (pc' := 7) d145_5 rfl (by decide) ?_
  refine r_newIk (pc' := 9) hn129_ d145_7 rfl rfl (by decide) (by decide) (by decide) vl129 rfl rfl (Nat.le_of_ble_eq_true rfl) (Nat.le_of_ble_eq_true rfl) ?_
  refine wp_heap (show _ = hp130 from rfl) ?_
  refine r_putR (pc' := 12) d145_9 rfl o145 sp12_7_12 sh50 (fun _ => rfl) (Or.inr ⟨_, rfl⟩) (ltk hn130_ (by decide)) ?_
  refine wp_heap (show _ = hp131 from rfl) ?_
  refine r_aload_n (pc' := 13) d145_12 rfl rfl rfl ?_
  refine r_sipush (v := 170) (pc' := 16) d145_13 rfl (by decide) ?_
  refine r_newIk (pc' := 18) hn131_ d145_16 rfl rfl (by decide) (by decide) (by decide) vl131 rfl rfl (Nat.le_of_ble_eq_true rfl) (Nat.le_of_ble_eq_true rfl) ?_
  refine wp_heap (show _ = hp132 from rfl) ?_
  refine r_putR (pc' := 21) d145_18 rfl o145 sp12_13_12 sh50 (fun _ => rfl) (Or.inr ⟨_, rfl⟩) (ltk hn132_ (by decide)) ?_
  refine wp_heap (show _ = hp133 from rfl) ?_
  refine r_aload_n (pc' := 22) d145_21 rfl rfl rfl ?_
  refine r_iconst (v := 2) (pc' := 23) d145_22 rfl (by decide) ?_
  refine r_newZk (pc' := 25) hn133_ d145_23 rfl rfl (by decide) (by decide) (by decide) vl133 rfl rfl (Nat.le_of_ble_eq_true rfl) (Nat.le_of_ble_eq_true rfl) ?_
  refine wp_heap (show _ = hp134 from rfl) ?_
  refine r_putR (pc' := 28) d145_25 rfl o145 sp12_16_12 sh50 (fun _ => rfl) (Or.inr ⟨_, rfl⟩) (ltk hn134_ (by decide)) ?_
  refine wp_heap (show _ = hp135 from rfl) ?_
  refine r_aload_n (pc' := 29) d145_28 rfl rfl rfl ?_
  refine r_sipush (v := 1584) (pc' := 32) d145_29 rfl (by decide) ?_
  refine r_newIk (pc' := 34) hn135_ d145_32 rfl rfl (by decide) (by decide) (by decide) vl135 rfl rfl (Nat.le_of_ble_eq_true rfl) (Nat.le_of_ble_eq_true rfl) ?_
  refine wp_heap (show _ = hp136 from rfl) ?_
  refine r_putR (pc' := 37) d145_34 rfl o145 sp12_20_12 sh50 (fun _ => rfl) (Or.inr ⟨_, rfl⟩) (ltk hn136_ (by decide)) ?_
  refine wp_heap (show _ = hp137 from rfl) ?_
  refine r_aload_n (pc' := 38) d145_37 rfl rfl rfl ?_
  refine r_bipush (v := 8) (pc' := 40) d145_38 rfl (by decide) ?_
  refine r_newIk (pc' := 42) hn137_ d145_40 rfl rfl (by decide) (by decide) (by decide) vl137 rfl rfl (Nat.le_of_ble_eq_true rfl) (Nat.le_of_ble_eq_true rfl) ?_
  refine wp_heap (show _ = hp138 from rfl) ?_
  refine r_putR (pc' := 45) d145_42 rfl o145 sp12_23_12 sh50 (fun _ => rfl) (Or.inr ⟨_, rfl⟩) (ltk hn138_ (by decide)) ?_
  refine wp_heap (show _ = hp139 from rfl) ?_
  refine r_aload_n (pc' := 46) d145_45 rfl rfl rfl ?_
  refine r_bipush (v := 8) (pc' := 48) d145_46 rfl (by decide) ?_
  refine r_newIk (pc' := 50) hn139_ d145_48 rfl rfl (by decide) (by decide) (by decide) vl139 rfl rfl (Nat.le_of_ble_eq_true rfl) (Nat.le_of_ble_eq_true rfl) ?_
  refine wp_heap (show _ = hp140 from rfl) ?_
  refine r_putR (pc' := 53) d145_50 rfl o145 sp12_26_12 sh50 (fun _ => rfl) (Or.inr ⟨_, rfl⟩) (ltk hn140_ (by decide)) ?_
  refine wp_heap (show _ = hp141 from rfl) ?_
  refine r_aload_n (pc' := 54) d145_53 rfl rfl rfl ?_
  refine r_sipush (v := 320) (pc' := 57) d145_54 rfl (by decide) ?_
  refine r_newIk (pc' := 59) hn141_ d145_57 rfl rfl (by decide) (by decide) (by decide) vl141 rfl rfl (Nat.le_of_ble_eq_true rfl) (Nat.le_of_ble_eq_true rfl) ?_
  refine wp_heap (show _ = hp142 from rfl) ?_
  refine r_putR (pc' := 62) d145_59 rfl o145 sp12_29_12 sh50 (fun _ => rfl) (Or.inr ⟨_, rfl⟩) (ltk hn142_ (by decide)) ?_
  refine wp_heap (show _ = hp143 from rfl) ?_
  refine r_aload_n (pc' := 63) d145_62 rfl rfl rfl ?_
  refine r_sipush (v := 160) (pc' := 66) d145_63 rfl (by decide) ?_
  refine r_newIk (pc' := 68) hn143_ d145_66 rfl rfl (by decide) (by decide) (by decide) vl143 rfl rfl (Nat.le_of_ble_eq_true rfl) (Nat.le_of_ble_eq_true rfl) ?_
  refine wp_heap (show _ = hp144 from rfl) ?_
  refine r_putR (pc' := 71) d145_68 rfl o145 sp12_32_12 sh50 (fun _ => rfl) (Or.inr ⟨_, rfl⟩) (ltk hn144_ (by decide)) ?_
  refine wp_heap (show _ = hp145 from rfl) ?_
  refine r_aload_n (pc' := 72) d145_71 rfl rfl rfl ?_
  refine r_bipush (v := 85) (pc' := 74) d145_72 rfl (by decide) ?_
  refine r_newIk (pc' := 76) hn145_ d145_74 rfl rfl (by decide) (by decide) (by decide) vl145 rfl rfl (Nat.le_of_ble_eq_true rfl) (Nat.le_of_ble_eq_true rfl) ?_
  refine wp_heap (show _ = hp146 from rfl) ?_
  refine r_putR (pc' := 79) d145_76 rfl o145 sp12_35_12 sh50 (fun _ => rfl) (Or.inr ⟨_, rfl⟩) (ltk hn146_ (by decide)) ?_
  refine wp_heap (show _ = hp147 from rfl) ?_
  refine r_aload_n (pc' := 80) d145_79 rfl rfl rfl ?_
  refine r_bipush (v := 6) (pc' := 82) d145_80 rfl (by decide) ?_
  refine r_newIk (pc' := 84) hn147_ d145_82 rfl rfl (by decide) (by decide) (by decide) vl147 rfl rfl (Nat.le_of_ble_eq_true rfl) (Nat.le_of_ble_eq_true rfl) ?_
  refine wp_heap (show _ = hp148 from rfl) ?_
  refine r_putR (pc' := 87) d145_84 rfl o145 sp12_38_12 sh50 (fun _ => rfl) (Or.inr ⟨_, rfl⟩) (ltk hn148_ (by decide)) ?_
  refine wp_heap (show _ = hp149 from rfl) ?_
  refine r_aload_n (pc' := 88) d145_87 rfl rfl rfl ?_
  refine r_bipush (v := 66) (pc' := 90) d145_88 rfl (by decide) ?_
  refine r_newIk (pc' := 92) hn149_ d145_90 rfl rfl (by decide) (by decide) (by decide) vl149 rfl rfl (Nat.le_of_ble_eq_true rfl) (Nat.le_of_ble_eq_true rfl) ?_
  refine wp_heap (show _ = hp150 from rfl) ?_
  refine r_putR (pc' := 95) d145_92 rfl o145 sp12_41_12 sh50 (fun _ => rfl) (Or.inr ⟨_, rfl⟩) (ltk hn150_ (by decide)) ?_
  refine wp_heap (show _ = hp151 from rfl) ?_
  refine r_aload_n (pc' := 96) d145_95 rfl rfl rfl ?_
  refine r_bipush (v := 6) (pc' := 98) d145_96 rfl (by decide) ?_
  refine r_newZk (pc' := 100) hn151_ d145_98 rfl rfl (by decide) (by decide) (by decide) vl151 rfl rfl (Nat.le_of_ble_eq_true rfl) (Nat.le_of_ble_eq_true rfl) ?_
  refine wp_heap (show _ = hp152 from rfl) ?_
  refine r_putR (pc' := 103) d145_100 rfl o145 sp12_44_12 sh50 (fun _ => rfl) (Or.inr ⟨_, rfl⟩) (ltk hn152_ (by decide)) ?_
  refine wp_heap (show _ = hp153 from rfl) ?_
  refine r_aload_n (pc' := 104) d145_103 rfl rfl rfl ?_
  refine r_iconst (v := 4) (pc' := 105) d145_104 rfl (by decide) ?_
  refine r_newIk (pc' := 107) hn153_ d145_105 rfl rfl (by decide) (by decide) (by decide) vl153 rfl rfl (Nat.le_of_ble_eq_true rfl) (Nat.le_of_ble_eq_true rfl) ?_
  refine wp_heap (show _ = hp154 from rfl) ?_
  refine r_putR (pc' := 110) d145_107 rfl o145 sp12_47_12 sh50 (fun _ => rfl) (Or.inr ⟨_, rfl⟩) (ltk hn154_ (by decide)) ?_
  refine wp_heap (show _ = hp155 from rfl) ?_
  refine r_aload_n (pc' := 111) d145_110 rfl rfl rfl ?_
  refine r_bipush (v := 16) (pc' := 113) d145_111 rfl (by decide) ?_
  refine r_newIk (pc' := 115) hn155_ d145_113 rfl rfl (by decide) (by decide) (by decide) vl155 rfl rfl (Nat.le_of_ble_eq_true rfl) (Nat.le_of_ble_eq_true rfl) ?_
  refine wp_heap (show _ = hp156 from rfl) ?_
  refine r_putR (pc' := 118) d145_115 rfl o145 sp12_50_12 sh50 (fun _ => rfl) (Or.inr ⟨_, rfl⟩) (ltk hn156_ (by decide)) ?_
  refine wp_heap (show _ = hp157 from rfl) ?_
  refine r_iconst (v := 0) (pc' := 119) d145_118 rfl (by decide) ?_
  refine r_istore_n (pc' := 120) (ls' := [(1, vI _), (0, vR (some 50))]) d145_119 rfl rfl (by decide) rfl ?_
  refine r_iload_n (pc' := 121) d145_120 rfl rfl rfl ?_
  refine r_bipush (v := 8) (pc' := 123) d145_121 rfl (by decide) ?_
  refine r_icmp_ge 140 (pc' := 126) d145_123 rfl rfl (fun c123 => absurd c123 (by decide)) (fun c123 => ?_)
  refine r_aload_n (pc' := 127) d145_126 rfl rfl rfl ?_
  refine r_getS (pc' := 130) d145_127 rfl o145 sf12_23_12 sh50 (ltk hn157_ (by decide)) (show hr hp157 50 5 = some 55 by decide +kernel) ?_
  refine r_iload_n (pc' := 131) d145_130 rfl rfl rfl ?_
  refine r_ldc (pc' := 133) d145_131 rfl o145 kc12_53 ?_
  refine r_iastN (pc' := 134) (j := 0) d145_133 rfl sh55 (ltk hn157_ (by decide)) (by decide) (by decide) (by decide) ?_
  refine wp_heap (show _ = hp158 from rfl) ?_
  refine r_iinc (v := _ + 1) (pc' := 137) (ls' := [(1, vI _), (0, vR (some 50))]) d145_134 rfl rfl rfl (by decide) rfl ?_
  refine r_goto 120 d145_137 rfl ?_
  refine r_iload_n (pc' := 121) d145_120 rfl rfl rfl ?_
  refine r_bipush (v := 8) (pc' := 123) d145_121 rfl (by decide) ?_
  refine r_icmp_ge 140 (pc' := 126) d145_123 rfl rfl (fun c123 => absurd c123 (by decide)) (fun c123 => ?_)
  refine r_aload_n (pc' := 127) d145_126 rfl rfl rfl ?_
  refine r_getS (pc' := 130) d145_127 rfl o145 sf12_23_12 sh50 (ltk hn158_ (by decide)) (show hr hp158 50 5 = some 55 by decide +kernel) ?_
  refine r_iload_n (pc' := 131) d145_130 rfl rfl rfl ?_
  refine r_ldc (pc' := 133) d145_131 rfl o145 kc12_53 ?_
  refine r_iastN (pc' := 134) (j := 1) d145_133 rfl sh55 (ltk hn158_ (by decide)) (by decide) (by decide) (by decide) ?_
  refine wp_heap (show _ = hp159 from rfl) ?_
  refine r_iinc (v := _ + 1) (pc' := 137) (ls' := [(1, vI _), (0, vR (some 50))]) d145_134 rfl rfl rfl (by decide) rfl ?_
  refine r_goto 120 d145_137 rfl ?_
  refine r_iload_n (pc' := 121) d145_120 rfl rfl rfl ?_
  refine r_bipush (v := 8) (pc' := 123) d145_121 rfl (by decide) ?_
  refine r_icmp_ge 140 (pc' := 126) d145_123 rfl rfl (fun c123 => absurd c123 (by decide)) (fun c123 => ?_)
  refine r_aload_n (pc' := 127) d145_126 rfl rfl rfl ?_
  refine r_getS (pc' := 130) d145_127 rfl o145 sf12_23_12 sh50 (ltk hn159_ (by decide)) (show hr hp159 50 5 = some 55 by decide +kernel) ?_
  refine r_iload_n (pc' := 131) d145_130 rfl rfl rfl ?_
  refine r_ldc (pc' := 133) d145_131 rfl o145 kc12_53 ?_
  refine r_iastN (pc' := 134) (j := 2) d145_133 rfl sh55 (ltk hn159_ (by decide)) (by decide) (by decide) (by decide) ?_
  refine wp_heap (show _ = hp160 from rfl) ?_
  refine r_iinc (v := _ + 1) (pc' := 137) (ls' := [(1, vI _), (0, vR (some 50))]) d145_134 rfl rfl rfl (by decide) rfl ?_
  refine r_goto 120 d145_137 rfl ?_
  refine r_iload_n (pc' := 121) d145_120 rfl rfl rfl ?_
  refine r_bipush (v := 8) (pc' := 123) d145_121 rfl (by decide) ?_
  refine r_icmp_ge 140 (pc' := 126) d145_123 rfl rfl (fun c123 => absurd c123 (by decide)) (fun c123 => ?_)
  refine r_aload_n (pc' := 127) d145_126 rfl rfl rfl ?_
  refine r_getS (pc' := 130) d145_127 rfl o145 sf12_23_12 sh50 (ltk hn160_ (by decide)) (show hr hp160 50 5 = some 55 by decide +kernel) ?_
  refine r_iload_n (pc' := 131) d145_130 rfl rfl rfl ?_
  refine r_ldc (pc' := 133) d145_131 rfl o145 kc12_53 ?_
  refine r_iastN (pc' := 134) (j := 3) d145_133 rfl sh55 (ltk hn160_ (by decide)) (by decide) (by decide) (by decide) ?_
  refine wp_heap (show _ = hp161 from rfl) ?_
  refine r_iinc (v := _ + 1) (pc' := 137) (ls' := [(1, vI _), (0, vR (some 50))]) d145_134 rfl rfl rfl (by decide) rfl ?_
  refine r_goto 120 d145_137 rfl ?_
  refine r_iload_n (pc' := 121) d145_120 rfl rfl rfl ?_
  refine r_bipush (v := 8) (pc' := 123) d145_121 rfl (by decide) ?_
  refine r_icmp_ge 140 (pc' := 126) d145_123 rfl rfl (fun c123 => absurd c123 (by decide)) (fun c123 => ?_)
  refine r_aload_n (pc' := 127) d145_126 rfl rfl rfl ?_
  refine r_getS (pc' := 130) d145_127 rfl o145 sf12_23_12 sh50 (ltk hn161_ (by decide)) (show hr hp161 50 5 = some 55 by decide +kernel) ?_
  refine r_iload_n (pc' := 131) d145_130 rfl rfl rfl ?_
  refine r_ldc (pc' := 133) d145_131 rfl o145 kc12_53 ?_
  refine r_iastN (pc' := 134) (j := 4) d145_133 rfl sh55 (ltk hn161_ (by decide)) (by decide) (by decide) (by decide) ?_
  refine wp_heap (show _ = hp162 from rfl) ?_
  refine r_iinc (v := _ + 1) (pc' := 137) (ls' := [(1, vI _), (0, vR (some 50))]) d145_134 rfl rfl rfl (by decide) rfl ?_
  refine r_goto 120 d145_137 rfl ?_
  refine r_iload_n (pc' := 121) d145_120 rfl rfl rfl ?_
  refine r_bipush (v := 8) (pc' := 123) d145_121 rfl (by decide) ?_
  refine r_icmp_ge 140 (pc' := 126) d145_123 rfl rfl (fun c123 => absurd c123 (by decide)) (fun c123 => ?_)
  refine r_aload_n (pc' := 127) d145_126 rfl rfl rfl ?_
  refine r_getS (pc' := 130) d145_127 rfl o145 sf12_23_12 sh50 (ltk hn162_ (by decide)) (show hr hp162 50 5 = some 55 by decide +kernel) ?_
  refine r_iload_n (pc' := 131) d145_130 rfl rfl rfl ?_
  refine r_ldc (pc' := 133) d145_131 rfl o145 kc12_53 ?_
  refine r_iastN (pc' := 134) (j := 5) d145_133 rfl sh55 (ltk hn162_ (by decide)) (by decide) (by decide) (by decide) ?_
  refine wp_heap (show _ = hp163 from rfl) ?_
  refine r_iinc (v := _ + 1) (pc' := 137) (ls' := [(1, vI _), (0, vR (some 50))]) d145_134 rfl rfl rfl (by decide) rfl ?_
  refine r_goto 120 d145_137 rfl ?_
  refine r_iload_n (pc' := 121) d145_120 rfl rfl rfl ?_
  refine r_bipush (v := 8) (pc' := 123) d145_121 rfl (by decide) ?_
  refine r_icmp_ge 140 (pc' := 126) d145_123 rfl rfl (fun c123 => absurd c123 (by decide)) (fun c123 => ?_)
  refine r_aload_n (pc' := 127) d145_126 rfl rfl rfl ?_
  refine r_getS (pc' := 130) d145_127 rfl o145 sf12_23_12 sh50 (ltk hn163_ (by decide)) (show hr hp163 50 5 = some 55 by decide +kernel) ?_
  refine r_iload_n (pc' := 131) d145_130 rfl rfl rfl ?_
  refine r_ldc (pc' := 133) d145_131 rfl o145 kc12_53 ?_
  refine r_iastN (pc' := 134) (j := 6) d145_133 rfl sh55 (ltk hn163_ (by decide)) (by decide) (by decide) (by decide) ?_
  refine wp_heap (show _ = hp164 from rfl) ?_
  refine r_iinc (v := _ + 1) (pc' := 137) (ls' := [(1, vI _), (0, vR (some 50))]) d145_134 rfl rfl rfl (by decide) rfl ?_
  refine r_goto 120 d145_137 rfl ?_
  refine r_iload_n (pc' := 121) d145_120 rfl rfl rfl ?_
  refine r_bipush (v := 8) (pc' := 123) d145_121 rfl (by decide) ?_
  refine r_icmp_ge 140 (pc' := 126) d145_123 rfl rfl (fun c123 => absurd c123 (by decide)) (fun c123 => ?_)
  refine r_aload_n (pc' := 127) d145_126 rfl rfl rfl ?_
  refine r_getS (pc' := 130) d145_127 rfl o145 sf12_23_12 sh50 (ltk hn164_ (by decide)) (show hr hp164 50 5 = some 55 by decide +kernel) ?_
  refine r_iload_n (pc' := 131) d145_130 rfl rfl rfl ?_
  refine r_ldc (pc' := 133) d145_131 rfl o145 kc12_53 ?_
  refine r_iastN (pc' := 134) (j := 7) d145_133 rfl sh55 (ltk hn164_ (by decide)) (by decide) (by decide) (by decide) ?_
  refine wp_heap (show _ = hp165 from rfl) ?_
  refine r_iinc (v := _ + 1) (pc' := 137) (ls' := [(1, vI _), (0, vR (some 50))]) d145_134 rfl rfl rfl (by decide) rfl ?_
  refine r_goto 120 d145_137 rfl ?_
  refine r_iload_n (pc' := 121) d145_120 rfl rfl rfl ?_
  refine r_bipush (v := 8) (pc' := 123) d145_121 rfl (by decide) ?_
  refine r_icmp_ge 140 (pc' := 126) d145_123 rfl rfl (fun c123 => ?_) (fun c123 => absurd (by decide) c123)
  exact r_ret d145_140 rfl k
abbrev hpZ : Hp := hp165
