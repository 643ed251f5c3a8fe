/-! pairs: as, ask (by hand) -/
theorem as_iff {q w : Nat} (h1 : 1 ≤ q) (h5 : q ≤ 5) (hw : w ≤ 5) : oneC q w ↔ isAI (nI q) (nI w) := by
  rcases (show w = 0 ∨ w = 1 ∨ w = 2 ∨ w = 3 ∨ w = 4 ∨ w = 5 by omega) with rfl | rfl | rfl | rfl | rfl | rfl <;> rcases (show q = 1 ∨ q = 2 ∨ q = 3 ∨ q = 4 ∨ q = 5 by omega) with rfl | rfl | rfl | rfl | rfl <;> decide
theorem trL_e : ∀ (l : List Nat) (h : Hp) (a : Nat), hi h 7 1 = nI a → hi (trL h a l) 7 1 = nI (a + l.length) ∧ ∀ k, hi (trL h a l) 8 k = if a ≤ k ∧ k < a + l.length then nI (l.getD (k - a) 0) else hi h 8 k := by
  intro l
  induction l with
  | nil => intro h a ha; exact ⟨ha, fun k => by rw [if_neg (by show ¬ (a ≤ k ∧ k < a + 0); omega)]; rfl⟩
  | cons b t ih =>
    intro h a ha
    obtain ⟨i1, i2⟩ := ih (seti (seti h 8 a (nI b)) 7 1 (nI (a + 1))) (a + 1) (by rw [hi_seti, if_pos ⟨rfl, rfl⟩])
    show hi (trL (seti (seti h 8 a (nI b)) 7 1 (nI (a + 1))) (a + 1) t) 7 1 = nI (a + (t.length + 1)) ∧ ∀ k, hi (trL (seti (seti h 8 a (nI b)) 7 1 (nI (a + 1))) (a + 1) t) 8 k = if a ≤ k ∧ k < a + (t.length + 1) then nI ((b :: t).getD (k - a) 0) else hi h 8 k
    refine ⟨by rw [i1, show a + 1 + t.length = a + (t.length + 1) by omega], fun k => ?_⟩
    rw [i2 k, hi_seti_ne _ _ _ _ _ (by decide), hi_seti_row, upd_ap]
    by_cases w : k = a
    · rw [if_neg (by omega), if_pos w, if_pos (by omega), w, Nat.sub_self]; rfl
    · rw [if_neg w]
      by_cases v : a + 1 ≤ k ∧ k < a + 1 + t.length
      · rw [if_pos v, if_pos (by omega), show k - a = (k - (a + 1)) + 1 by omega]; rfl
      · rw [if_neg v, if_neg (by omega)]
theorem trA_e : ∀ (l : List Nat) (h : Hp) (a : Nat), hi h 50 23 = nI a → hi (trA h a l) 50 23 = nI (a + l.length) ∧ ∀ k, hi (trA h a l) 64 k = if a ≤ k ∧ k < a + l.length then nI (l.getD (k - a) 0) else hi h 64 k := by
  intro l
  induction l with
  | nil => intro h a ha; exact ⟨ha, fun k => by rw [if_neg (by show ¬ (a ≤ k ∧ k < a + 0); omega)]; rfl⟩
  | cons b t ih =>
    intro h a ha
    obtain ⟨i1, i2⟩ := ih (seti (seti h 64 a (nI b)) 50 23 (nI (a + 1))) (a + 1) (by rw [hi_seti, if_pos ⟨rfl, rfl⟩])
    show hi (trA (seti (seti h 64 a (nI b)) 50 23 (nI (a + 1))) (a + 1) t) 50 23 = nI (a + (t.length + 1)) ∧ ∀ k, hi (trA (seti (seti h 64 a (nI b)) 50 23 (nI (a + 1))) (a + 1) t) 64 k = if a ≤ k ∧ k < a + (t.length + 1) then nI ((b :: t).getD (k - a) 0) else hi h 64 k
    refine ⟨by rw [i1, show a + 1 + t.length = a + (t.length + 1) by omega], fun k => ?_⟩
    rw [i2 k, hi_seti_ne _ _ _ _ _ (by decide), hi_seti_row, upd_ap]
    by_cases w : k = a
    · rw [if_neg (by omega), if_pos w, if_pos (by omega), w, Nat.sub_self]; rfl
    · rw [if_neg w]
      by_cases v : a + 1 ≤ k ∧ k < a + 1 + t.length
      · rw [if_pos v, if_pos (by omega), show k - a = (k - (a + 1)) + 1 by omega]; rfl
      · rw [if_neg v, if_neg (by omega)]
theorem trA_k : ∀ (l : List Nat) (h : Hp) (a : Nat), hn (trA h a l) = hn h ∧ hr (trA h a l) = hr h ∧ (∀ x, x ≠ 64 → x ≠ 50 → hi (trA h a l) x = hi h x) ∧ ∀ j, j ≠ 23 → hi (trA h a l) 50 j = hi h 50 j := by
  intro l
  induction l with
  | nil => intro h a; exact ⟨rfl, rfl, fun _ _ _ => rfl, fun _ _ => rfl⟩
  | cons b t ih =>
    intro h a
    obtain ⟨i1, i2, i3, i4⟩ := ih (seti (seti h 64 a (nI b)) 50 23 (nI (a + 1))) (a + 1)
    refine ⟨i1, i2, fun x x1 x2 => ?_, fun j hj => ?_⟩
    · exact (i3 x x1 x2).trans (by rw [hi_seti_ne _ _ _ _ _ x2, hi_seti_ne _ _ _ _ _ x1])
    · exact (i4 j hj).trans (by rw [hi_seti, if_neg (by omega), hi_seti_ne _ _ _ _ _ (by decide)])
theorem trL_n : ∀ (l : List Nat) (h : Hp) (a : Nat), hn (trL h a l) = hn h := by
  intro l
  induction l with
  | nil => intro h a; rfl
  | cons b t ih => intro h a; exact ih (seti (seti h 8 a (nI b)) 7 1 (nI (a + 1))) (a + 1)
theorem asl_eq {q w : Nat} (h1 : 1 ≤ q) (h5 : q ≤ 5) (hw : w ≤ 1) : casL q w = asL (nI q) (nI w) ∧ (casL q w).length ≤ 16 := by
  rcases (show w = 0 ∨ w = 1 by omega) with rfl | rfl <;> rcases (show q = 1 ∨ q = 2 ∨ q = 3 ∨ q = 4 ∨ q = 5 by omega) with rfl | rfl | rfl | rfl | rfl <;> decide
section Sw
variable {h h' : Hp} {b c : Nat}
theorem P_as {t u : Int32} (S : SimAt h b c) : Pair 139 233 [vI t, vI u] h := by
  obtain ⟨m, L, e, mi, y2, g⟩ := S.y
  have hm := g.2.1.1
  have bad : (¬ inR t m ∨ ¬ (0 ≤ u ∧ u ≤ 5)) → ∀ j, j < m → t = nI j → (0 ≤ u ∧ u ≤ 5) → False := fun y j hj ht hu => y.elim (fun z => nin z (by omega) hj ht) (fun z => z hu)
  have ia : ∀ j, j < m → ∀ w : Nat, w ≤ 5 → (oneC (kq h (b + 8 + j)) w ↔ isAI (hi h 51 (5 + j)) (nI w)) := fun j hj w hw => by
    obtain ⟨a1, a2, a3⟩ := (g.tr j hj).1
    rw [a3]; exact as_iff a1 a2 hw
  refine C_as (g.gi S.1) S.1.b (fun y => ⟨_, rfl, ?_⟩) (fun j hj ht w hw hu hg => ⟨_, rfl, ?_⟩) (fun j hj ht w hw hu hg => ⟨_, rfl, ?_⟩)
  · exact M_as S.1.1 S.1.2.2.1 g.cnt (fun _ => ⟨rfl, S.s⟩) (fun j hj ht hu _ => (bad y j hj ht hu).elim) (fun j hj ht hu _ => (bad y j hj ht hu).elim)
  · have e51 : hi (seti h 0 16 3) 51 = hi h 51 := rfl
    refine M_as (h := seti h 0 16 3) S.1.1 S.1.2.2.1 (by rw [e51]; exact g.cnt) (fun y => (bad y j hj ht (rng hu hw (by decide))).elim) (fun _ _ _ _ _ => ⟨rfl, S.st2.s⟩) (fun j2 hj2 ht2 _ hg2 => ?_)
    rw [nI_inj (ht2.symm.trans ht) (by omega) (by omega), e51, hu] at hg2
    exact (hg ((ia j hj w hw).mpr hg2)).elim
  · have e51 : hi (seti h 0 16 0) 51 = hi h 51 := rfl
    refine M_as (h := seti h 0 16 0) S.1.1 S.1.2.2.1 (by rw [e51]; exact g.cnt) (fun y => (bad y j hj ht (rng hu hw (by decide))).elim) (fun j2 hj2 ht2 _ hg2 => ?_) (fun _ _ _ _ _ => ⟨rfl, S.st2.s⟩)
    rw [nI_inj (ht2.symm.trans ht) (by omega) (by omega), e51, hu] at hg2
    exact (hg2 ((ia j hj w hw).mp hg)).elim
theorem asv_eq {q w x : Nat} {f s : Nat → Int32} (h1 : 1 ≤ q) (h5 : q ≤ 5) (hw : w ≤ 1) (a0 : f 0 = nI x) (a3 : s (51 + x) = f 3) (a4 : belowI s x = f 4) (a5 : s (5 + x) = nI q) : casV q w f = asV s x (nI w) := by
  unfold casV asV cMk cCh mkV chV
  rw [a0, a3, a4, a5]
  generalize f 3 = A
  generalize f 4 = B
  generalize nI x = X
  rcases (show w = 0 ∨ w = 1 by omega) with rfl | rfl <;> rcases (show q = 1 ∨ q = 2 ∨ q = 3 ∨ q = 4 ∨ q = 5 by omega) with rfl | rfl | rfl | rfl | rfl <;> rfl
theorem P_ask {t u : Int32} (S : SimAt h b c) : Pair 141 244 [vI t, vI u] h := by
  obtain ⟨m, L, e, mi, y2, g⟩ := S.y
  have hm := g.2.1.1
  have hb := S.1.b
  have n0 : ∀ j, j < 6 → hi h (b + 8 + j) 0 = nI j := fun j hj => by
    have z := S.1.2.2.2.2.2.2.2.2.2.2 j hj
    rcases hb with w | w
    · rw [w]; exact z.1
    · rw [w]; exact z.2
  have bad : (¬ inR t m ∨ ¬ (0 ≤ u ∧ u ≤ 1)) → ∀ j, j < m → t = nI j → (0 ≤ u ∧ u ≤ 1) → False := fun y j hj ht hu => y.elim (fun z => nin z (by omega) hj ht) (fun z => z hu)
  refine C_ask (g.gi S.1) S.1.b (fun j hj => (g.tr j hj).1.1) (fun y => ⟨_, rfl, ?_⟩) (fun j hj ht w hw hu => ⟨_, rfl, ?_⟩)
  · exact M_ask S.1.1 S.1.2.2.1 g.cnt (fun _ => ⟨rfl, S.s⟩) (fun j hj ht hu => (bad y j hj ht hu).elim)
  · have t0 := g.tr j hj
    obtain ⟨a1, a2, a3⟩ := t0.1
    obtain ⟨lo, up, _, ⟨f4, _⟩, ⟨g4, _⟩, _⟩ := t0.2.2.2.2.1
    have vv := asv_eq (s := hi h 51) (x := j) a1 a2 hw (n0 j (by omega)) t0.2.2.1 (g4.trans f4.symm) a3
    obtain ⟨el, ll⟩ := asl_eq a1 a2 hw
    rw [vv, el]
    rw [el] at ll
    have k1 := trL_n (asL (nI (kq h (b + 8 + j))) (nI w)) (seti h 7 1 0) 0
    have k2 := trL_hr (asL (nI (kq h (b + 8 + j))) (nI w)) (seti h 7 1 0) 0
    have k3 : ∀ x, x ≠ 7 → x ≠ 8 → hi (trL (seti h 7 1 0) 0 (asL (nI (kq h (b + 8 + j))) (nI w))) x = hi h x := fun x x1 x2 => (trL_o x1 x2 _ _ _).trans (hi_seti_ne _ _ _ _ _ x1)
    have k4 := trL_e (asL (nI (kq h (b + 8 + j))) (nI w)) (seti h 7 1 0) 0 rfl
    have kn : hn (seti h 7 1 0) = hn h := rfl
    have kh : hr (seti h 7 1 0) = hr h := rfl
    rw [kn] at k1
    rw [kh] at k2
    generalize trL (seti h 7 1 0) 0 (asL (nI (kq h (b + 8 + j))) (nI w)) = hc at *
    have e51 := k3 51 (by decide) (by decide)
    refine M_ask (k1.trans S.1.1) (fun q hq => by rw [k2]; exact S.1.2.2.1 q hq) (by rw [e51]; exact g.cnt) (fun y => (bad y j hj ht (rng hu hw (by decide))).elim) (fun j2 hj2 ht2 _ => ?_)
    rw [nI_inj (ht2.symm.trans ht) (by omega) (by omega), e51, a3, hu]
    refine ⟨rfl, b, c, ?_⟩
    obtain ⟨r1, r2, r3, r4⟩ := trA_k (asL (nI (kq h (b + 8 + j))) (nI w)) (seti hc 50 23 0) 0
    obtain ⟨r5, r6⟩ := trA_e (asL (nI (kq h (b + 8 + j))) (nI w)) (seti hc 50 23 0) 0 rfl
    have rn : hn (seti hc 50 23 0) = hn hc := rfl
    have rh : hr (seti hc 50 23 0) = hr hc := rfl
    rw [rn] at r1
    rw [rh] at r2
    generalize trA (seti hc 50 23 0) 0 (asL (nI (kq h (b + 8 + j))) (nI w)) = h2 at *
    have d : ∀ x, x ≠ 7 → x ≠ 8 → x ≠ 50 → x ≠ 64 → hi h2 x = hi h x := fun x x7 x8 x50 x64 => (r3 x x64 x50).trans ((hi_seti_ne _ _ _ _ _ x50).trans (k3 x x7 x8))
    have d50 : ∀ k, k ≠ 23 → hi h2 50 k = hi h 50 k := fun k hk => by rw [r4 k hk, hi_seti, if_neg (by omega), k3 50 (by decide) (by decide)]
    have d7 : hi h2 7 = hi hc 7 := (r3 7 (by decide) (by decide)).trans (hi_seti_ne _ _ _ _ _ (by decide))
    have d8 : hi h2 8 = hi hc 8 := (r3 8 (by decide) (by decide)).trans (hi_seti_ne _ _ _ _ _ (by decide))
    have f : ∀ x, x < 7 → hi h2 x = hi h x := fun x hx => d x (by omega) (by omega) (by omega) (by omega)
    have f2 : ∀ x, 8 < x → x < 50 → hi h2 x = hi h x := fun x hx hx2 => d x (by omega) (by omega) (by omega) (by omega)
    have f3 : ∀ x, 50 < x → x < 64 → hi h2 x = hi h x := fun x hx hx2 => d x (by omega) (by omega) (by omega) (by omega)
    obtain ⟨sB, sR, sS, sT, sP, sY, sU, sI⟩ := S
    refine ⟨sB.cg (r1.trans k1) (r2.trans k2) (fun x hx => f2 _ (by omega) (by omega)) (fun x hx => by rw [f2 x (by omega) (by omega)]), sR.cg (f _ (by decide)) (f _ (by decide)) (f _ (by decide)) (f3 _ (by decide) (by decide)) (f3 _ (by decide) (by decide)) (f3 _ (by decide) (by decide)), by rw [f 0 (by decide), d50 8 (by decide)]; exact sS, sT.cg (by rw [f 5 (by decide)]) (f _ (by decide)) (f3 _ (by decide) (by decide)) (d50 _ (by decide)) (d50 _ (by decide)) (by rw [f 5 (by decide)]), ⟨(asL (nI (kq h (b + 8 + j))) (nI w)).length, ll, ?_, ?_, fun k hk => ?_⟩, sY.cg (by rw [f 0 (by decide)]) (f3 _ (by decide) (by decide)) (fun x x1 x2 => f2 _ (by omega) (by omega)) (r2.trans k2), sU.cg (by rw [f 0 (by decide)]) (by rw [f 0 (by decide)]) (d50 _ (by decide)) (f2 _ (by decide) (by decide)) (f3 _ (by decide) (by decide)) (f3 _ (by decide) (by decide)), sI.cg (f2 _ (by decide) (by decide)) (f2 _ (by decide) (by decide)) (by rw [f3 51 (by decide) (by decide)]) (f3 _ (by decide) (by decide)) (f3 _ (by decide) (by decide))⟩
    · rw [d7, k4.1, Nat.zero_add (asL (nI (kq h (b + 8 + j))) (nI w)).length]
    · rw [r5, Nat.zero_add (asL (nI (kq h (b + 8 + j))) (nI w)).length]
    · rw [d8, k4.2 k, r6 k, if_pos (by omega), if_pos (by omega)]
end Sw
