/-! pairs: what is asked and changes nothing (by hand) -/
theorem nI_inj {a b : Nat} (h : nI a = nI b) (ha : a < 1000000) (hb : b < 1000000) : a = b := (nI_eq (by omega) (by omega)).mp h
theorem nin {t : Int32} {m j : Nat} (hB : ¬ inR t m) (hm : m < 1000) (hj : j < m) (ht : t = nI j) : False := hB (inr2 hm ⟨j, hj, ht⟩)
theorem rng {v : Int32} {w k : Nat} (hv : v = nI w) (hw : w ≤ k) (hk : k < 1000000) : 0 ≤ v ∧ v ≤ nI k := by rw [hv]; exact ⟨nI_pos' (by omega), nI_le hw (by omega)⟩
section Sm
variable {h : Hp} {b c : Nat}
theorem SimAt.s (S : SimAt h b c) : Sim h := ⟨b, c, S⟩
theorem SimAt.y (S : SimAt h b c) : ∃ m L e mi : Nat, mi ≤ 400 ∧ HS h b (hi h 51) m L e mi := S.2.2.2.2.2.1.2
theorem SimAt.st (S : SimAt h b c) : hi h 0 7 = hi h 51 0 := S.2.2.2.2.2.1.1
theorem st01 {m L e mi : Nat} (S : SimAt h b c) (g : HS h b (hi h 51) m L e mi) : (hi h 0 7 = 0 ↔ ¬ hi h 51 0 = 1) := by
  rw [S.st]
  rcases g.2.2.1.2.2.2 with z | z
  · rw [z]; exact ⟨fun _ => by decide, fun _ => rfl⟩
  · rw [z]; exact ⟨fun y => absurd y (by decide), fun y => absurd rfl y⟩
theorem P_fault (S : SimAt h b c) : Pair 95 172 [] h := C_fault S.1.1 S.1.2.1 ⟨_, rfl, M_fault S.1.1 ⟨by rw [S.2.2.2.1.2], S.s⟩⟩
theorem P_status (S : SimAt h b c) : Pair 144 247 [] h := C_status S.1.1 ⟨_, rfl, M_status S.1.1 ⟨by rw [S.2.2.1], S.s⟩⟩
theorem P_trace {t : Int32} (S : SimAt h b c) : Pair 142 245 [vI t] h := by
  obtain ⟨a, a1, a2, a3, a4⟩ := S.2.2.2.2.1
  refine C_trace S.1.1 S.1.2.1 a2 a1 (fun hB => ⟨_, rfl, ?_⟩) (fun j hj ht => ⟨_, rfl, ?_⟩)
  · exact M_trace S.1.1 S.1.2.2.1 a3 a1 (fun _ => ⟨rfl, S.s⟩) (fun j hj ht => (nin hB (by omega) hj ht).elim)
  · refine M_trace S.1.1 S.1.2.2.1 a3 a1 (fun hB => (nin hB (by omega) hj ht).elim) (fun j2 hj2 ht2 => ⟨?_, S.s⟩)
    rw [nI_inj (ht2.symm.trans ht) (by omega) (by omega), a4 j hj]
theorem P_kind {t : Int32} (S : SimAt h b c) : Pair 138 232 [vI t] h := by
  obtain ⟨m, L, e, mi, y2, g⟩ := S.y
  have hm := g.2.1.1
  refine C_kind (g.gi S.1) S.1.b (fun hB => ⟨_, rfl, ?_⟩) (fun j hj ht => ⟨_, rfl, ?_⟩)
  · exact M_kind S.1.1 S.1.2.2.1 g.cnt (fun _ => ⟨rfl, S.s⟩) (fun j hj ht => (nin hB (by omega) hj ht).elim)
  · refine M_kind S.1.1 S.1.2.2.1 g.cnt (fun hB => (nin hB (by omega) hj ht).elim) (fun j2 hj2 ht2 => ⟨?_, S.s⟩)
    rw [nI_inj (ht2.symm.trans ht) (by omega) (by omega), (g.tr j hj).1.2.2]
theorem P_thing {t w : Int32} (S : SimAt h b c) : Pair 104 202 [vI t, vI w] h := by
  obtain ⟨m, L, e, mi, y2, g⟩ := S.y
  have hm := g.2.1.1
  refine C_thing (g.gi S.1) S.1.b (fun hB => ⟨_, rfl, ?_⟩) (fun j hj ht q hq hw => ⟨_, rfl, ?_⟩)
  · refine M_thing S.1.1 S.1.2.2.1 g.cnt (fun _ => ⟨rfl, S.s⟩) (fun j hj ht q hq hw v hv => ?_)
    exact (hB.elim (fun y => nin y (by omega) hj ht) (fun y => y (rng hw hq (by decide)))).elim
  · refine M_thing S.1.1 S.1.2.2.1 g.cnt (fun hB => ?_) (fun j2 hj2 ht2 q2 hq2 hw2 v hv => ⟨?_, S.s⟩)
    · exact (hB.elim (fun y => nin y (by omega) hj ht) (fun y => y (rng hw hq (by decide)))).elim
    · rw [← hv, nI_inj (ht2.symm.trans ht) (by omega) (by omega), nI_inj (hw2.symm.trans hw) (by omega) (by omega)]
      have t0 := g.tr j hj
      have t6 : hi h 51 (69 + j) = hi h (b + 8 + j) 6 := (g.2.2.2.2.2.1 j hj).2
      congr 2
      unfold cThQ
      obtain ⟨lo, up, _, ⟨f4, f5⟩, ⟨g4, g5⟩, _⟩ := t0.2.2.2.2.1
      rcases (show q = 0 ∨ q = 1 ∨ q = 2 ∨ q = 3 ∨ q = 4 ∨ q = 5 ∨ q = 6 by omega) with rfl | rfl | rfl | rfl | rfl | rfl | rfl
      · rw [if_neg (by decide), if_pos rfl]
        show hi h 51 (45 + j) = _
        rcases t0.2.1 with ⟨p1, p2⟩ | ⟨x, hx, p1, p2⟩
        · rw [if_pos p1, p2]
        · rw [if_neg (fun z => by rw [p1] at z; have := nI_inj (a := x) (b := 13) z (by omega) (by omega); omega), p1, p2]
      · rw [if_neg (by decide), if_neg (by decide), if_pos rfl]
        show hi h 51 (51 + j) = _
        exact t0.2.2.1
      · rw [if_neg (by decide), if_neg (by decide), if_neg (by decide), if_pos rfl]
        show hi h 51 (57 + j) = _
        rw [← t6, f4, f5]
        rcases t0.2.2.2.1 with z | z
        · rw [if_pos z.symm, ← g4, (TR.below0 z).1]
        · rw [if_neg (by rw [z]; decide), ← g5, (TR.below1 z).2]
      · rw [if_neg (by decide), if_neg (by decide), if_neg (by decide), if_neg (by decide), if_pos rfl]
        show hi h 51 (63 + j) = _
        rw [← t6, f4, f5]
        rcases t0.2.2.2.1 with z | z
        · rw [if_neg (by rw [z]; decide), ← g5, (TR.below0 z).2]
        · rw [if_pos z.symm, ← g4, (TR.below1 z).1]
      · rw [if_neg (by decide), if_neg (by decide), if_neg (by decide), if_neg (by decide), if_neg (by decide), if_pos rfl]
        exact t6
      · rw [if_neg (by decide), if_neg (by decide), if_neg (by decide), if_neg (by decide), if_neg (by decide), if_neg (by decide), if_pos rfl]
        show hi h 51 (75 + j) = _
        rw [t0.2.2.2.2.2.1]
        rcases t0.2.2.2.2.2.2 with z | z
        · rw [z, if_pos rfl]
        · rw [z, if_neg (by decide)]
      · rw [if_pos rfl, if_neg (by decide), if_neg (by decide), if_neg (by decide), if_neg (by decide), if_neg (by decide), if_neg (by decide)]
        exact bI_iff t0.thr.symm
theorem P_eater {t w : Int32} (S : SimAt h b c) : Pair 105 203 [vI t, vI w] h := by
  obtain ⟨m, L, e, mi, y2, g⟩ := S.y
  have he := g.2.1.2.2
  refine C_eater (g.gi S.1) S.1.b (fun hB => ⟨_, rfl, ?_⟩) (fun j hj ht q hq hw => ⟨_, rfl, ?_⟩)
  · refine M_eater S.1.1 S.1.2.2.1 g.cnt (fun _ => ⟨rfl, S.s⟩) (fun j hj ht hw v hv => ?_)
    exact (hB.elim (fun y => nin y (by omega) hj ht) (fun y => y hw)).elim
  · refine M_eater S.1.1 S.1.2.2.1 g.cnt (fun hB => ?_) (fun j2 hj2 ht2 hw2 v hv => ⟨?_, S.s⟩)
    · exact (hB.elim (fun y => nin y (by omega) hj ht) (fun y => y (rng hw hq (by decide)))).elim
    · rw [← hv, nI_inj (ht2.symm.trans ht) (by omega) (by omega), hw]
      obtain ⟨u1, u2, u3, _⟩ := g.2.2.2.2.1 j hj
      congr 2
      rcases (show q = 0 ∨ q = 1 ∨ q = 2 by omega) with rfl | rfl | rfl
      · rw [if_pos rfl, if_pos (show nI 0 = 0 from rfl)]; exact u1.symm
      · rw [if_neg (show ¬ nI 1 = 0 by decide), if_pos (show nI 1 = 1 from rfl), if_neg (show ¬ (1:Nat) = 0 by decide), if_pos rfl]; exact u2.symm
      · rw [if_neg (show ¬ nI 2 = 0 by decide), if_neg (show ¬ nI 2 = 1 by decide), if_neg (show ¬ (2:Nat) = 0 by decide), if_neg (show ¬ (2:Nat) = 1 by decide)]; exact u3.symm
theorem P_ember {t w : Int32} (S : SimAt h b c) : Pair 106 204 [vI t, vI w] h := by
  obtain ⟨m, L, e, mi, y2, g⟩ := S.y
  have hL := g.2.1.2.1
  refine C_ember (g.gi S.1) S.1.b (fun hB => ⟨_, rfl, ?_⟩) (fun j hj ht q hq hw => ⟨_, rfl, ?_⟩)
  · refine M_ember S.1.1 S.1.2.2.1 g.cnt (fun _ => ⟨rfl, S.s⟩) (fun j hj ht q hq hw => ?_)
    exact (hB.elim (fun y => nin y (by omega) hj ht) (fun y => y (rng hw hq (by decide)))).elim
  · refine M_ember S.1.1 S.1.2.2.1 g.cnt (fun hB => ?_) (fun j2 hj2 ht2 q2 hq2 hw2 => ⟨?_, S.s⟩)
    · exact (hB.elim (fun y => nin y (by omega) hj ht) (fun y => y (rng hw hq (by decide)))).elim
    · rw [nI_inj (ht2.symm.trans ht) (by omega) (by omega), nI_inj (hw2.symm.trans hw) (by omega) (by omega)]
      obtain ⟨x, f, r, _, ⟨x1, x2⟩, ⟨z1, z2⟩, ⟨w1, w2⟩⟩ := g.2.2.2.1 j hj
      congr 2
      rcases (show q = 0 ∨ q = 1 ∨ q = 2 by omega) with rfl | rfl | rfl
      · rw [if_pos rfl, x1]; exact x2
      · rw [if_neg (by decide), if_pos rfl, z1]; exact z2
      · rw [if_neg (by decide), if_neg (by decide), w1]; exact w2
theorem rows_eq (S : SimAt h b c) : ∀ k, k ≤ 8 → rpS (hi h 3) k = rwS (hi h 55) k := by
  intro k
  induction k with
  | zero => intro _; rfl
  | succ k ih =>
    intro hk
    unfold rpS rwS
    rw [ih (by omega)]
    obtain ⟨z, _, _, _, hz⟩ := S.2.1 k (by omega)
    rcases hz with ⟨z1, z2⟩ | ⟨⟨l, hl, l1, l2⟩, _⟩
    · rw [z1, z2, b0 (fun y => y rfl), if_pos rfl]
    · rw [b1 (by rw [l1]; intro y; rcases (show l = 0 ∨ l = 1 ∨ l = 2 by omega) with rfl | rfl | rfl <;> exact absurd y (by decide)), if_neg (by rw [l2]; exact nI_none (by omega))]
theorem fires_eq {m L e mi : Nat} {s : Nat → Int32} (g : HS h b s m L e mi) : ∀ k, k ≤ L → fiS (hi h (b + 2)) k = fireS s k := by
  intro k
  induction k with
  | zero => intro _; rfl
  | succ k ih =>
    intro hk
    obtain ⟨x, f, r, _, _, ⟨z1, z2⟩, _⟩ := g.2.2.2.1 k (by omega)
    unfold fiS fireS
    rw [ih (by omega), z1, z2]
theorem P_count {w : Int32} (S : SimAt h b c) : Pair 143 246 [vI w] h := by
  obtain ⟨m, L, e, mi, y2, g⟩ := S.y
  obtain ⟨p, u, ⟨u1, u2, u3, u4, u5⟩, _⟩ := S.2.2.2.2.2.2.1
  obtain ⟨⟨n, n1, n2, n3, _⟩, _⟩ := S.2.2.2.1
  refine C_count (g.gi S.1) S.1.b (fun hB => ⟨_, rfl, ?_⟩) (fun q hq hw => ⟨_, rfl, ?_⟩)
  · exact M_count S.1.1 S.1.2.2.1 g.cnt (fun _ => ⟨rfl, S.s⟩) (fun q hq hw => (hB (rng hw hq (by decide))).elim)
  · refine M_count S.1.1 S.1.2.2.1 g.cnt (fun hB => (hB (rng hw hq (by decide))).elim) (fun q2 hq2 hw2 => ⟨?_, S.s⟩)
    rw [nI_inj (hw2.symm.trans hw) (by omega) (by omega)]
    refine congrArg some (congrArg vI ?_)
    have cy := g.cntY
    have cs := g.cnt
    have hmi : hi h b 3 = hi h 51 19 := g.1.2.2.1.trans g.1.2.2.2.1.symm
    have q0 := (rows_eq S 8 (Nat.le_refl _)).symm
    have q1 : hi h 51 1 = hi h b 8 := by rw [cs.1, cy.1]
    have q2 : hi h 51 20 = hi h b 4 := by rw [cs.2.2.1, cy.2.2.1]
    have q3 : hi h 51 2 = hi h b 10 := by rw [cs.2.2.2.2.1, cy.2.2.2.2.1]
    have q5 : servS (hi h 51) e = sdS (plF h b) m := g.2.2.2.2.2.2.2.symm
    have q6 := (fires_eq g L (Nat.le_refl _)).symm
    have q7 : hi h 50 4 = hi h 0 10 := by rw [u4, u5]
    have q8 : hi h 50 10 = hi h 5 1 := by rw [n2, n3]
    unfold cnQ ccQ
    rw [q0, q1, q2, q3, hmi, q5, q6, q7, q8]
end Sm
