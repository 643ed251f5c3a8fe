/-! a yard of the class against the reference's vector (by hand) -/
def RY (A cc cf cr ek em es : Nat → Int32) (K : Nat → Nat) (F : Nat → Nat → Int32) (s : Nat → Int32) (m L e mi : Nat) : Prop :=
  (A 0 = s 3 ∧ A 1 = s 4 ∧ A 2 = nI mi ∧ s 19 = nI mi ∧ A 3 = nI L ∧ s 20 = nI L ∧ A 4 = nI m ∧ s 1 = nI m ∧ A 5 = nI e ∧ s 2 = nI e) ∧ (m ≤ 6 ∧ L ≤ 8 ∧ e ≤ 4) ∧
  ((∃ sk : Nat, s 3 = nI sk ∧ sk ≤ 30 ∧ (s 0 = 1 → 1 ≤ sk)) ∧ (∃ wd : Nat, wd ≤ 9 ∧ s 4 = nI wd) ∧ (s 0 = 0 → m = 0 ∧ L = 0 ∧ e = 0) ∧ (s 0 = 0 ∨ s 0 = 1)) ∧
  (∀ c, c < L → ∃ x f r : Nat, (x ≤ 11 ∧ f ≤ 30 ∧ r ≤ 2) ∧ (cc c = nI x ∧ s (21 + c) = nI x) ∧ (cf c = nI f ∧ s (29 + c) = nI f) ∧ (cr c = nI r ∧ s (37 + c) = nI r)) ∧
  (∀ i, i < e → ek i = s (11 + i) ∧ em i = s (15 + i) ∧ es i = s (81 + i) ∧ ∃ k : Nat, 1 ≤ k ∧ k ≤ 5 ∧ s (11 + i) = nI k) ∧
  (∀ i, i < m → TR (K i) (F i) s i mi ∧ s (69 + i) = F i 6) ∧ (∀ i, i < m → AL s m i) ∧ sdS (fun i => F i 2) m = servS s e
theorem sdS_cg {f g : Nat → Int32} : ∀ k, (∀ i, i < k → f i = g i) → sdS f k = sdS g k := by
  intro k
  induction k with
  | zero => intro _; rfl
  | succ k ih => intro h; unfold sdS; rw [ih (fun i hi0 => h i (by omega)), h k (by omega)]
theorem servS_cg {f g : Nat → Int32} : ∀ k, (∀ i, i < k → f (81 + i) = g (81 + i)) → servS f k = servS g k := by
  intro k
  induction k with
  | zero => intro _; rfl
  | succ k ih => intro h; unfold servS; rw [ih (fun i hi0 => h i (by omega)), h k (by omega)]
theorem TR.cg {q : Nat} {f f' s s' : Nat → Int32} {i mi : Nat} (h : TR q f s i mi) (hf : ∀ k, 2 ≤ k → k ≤ 7 → k ≠ 6 → f' k = f k) (hs : ∀ j, (j = 5 + i ∨ j = 45 + i ∨ j = 51 + i ∨ j = 57 + i ∨ j = 63 + i ∨ j = 69 + i ∨ j = 75 + i) → s' j = s j) : TR q f' s' i mi := by
  have eb : belowI s' i = belowI s i := by unfold belowI; rw [hs (69 + i) (by omega), hs (57 + i) (by omega), hs (63 + i) (by omega)]
  have ea : aboveI s' i = aboveI s i := by unfold aboveI; rw [hs (69 + i) (by omega), hs (57 + i) (by omega), hs (63 + i) (by omega)]
  unfold TR at *
  rw [hs (5 + i) (by omega), hs (45 + i) (by omega), hs (51 + i) (by omega), hs (69 + i) (by omega), hs (75 + i) (by omega), eb, ea, hf 2 (by decide) (by decide) (by decide), hf 3 (by decide) (by decide) (by decide), hf 4 (by decide) (by decide) (by decide), hf 5 (by decide) (by decide) (by decide), hf 7 (by decide) (by decide) (by decide)]
  exact h
theorem AL.cg {s s' : Nat → Int32} {m i : Nat} (h : AL s m i) (hi0 : i < m) (hs : ∀ t, t < m → s' (45 + t) = s (45 + t)) : AL s' m i := by
  intro k hk hki hon
  rw [hs k hk, hs i hi0]
  unfold onI at hon
  rw [hs i hi0] at hon
  exact h k hk hki hon
theorem RY.cg {A cc cf cr ek em es A' cc' cf' cr' ek' em' es' s : Nat → Int32} {K K' : Nat → Nat} {F F' : Nat → Nat → Int32} {m L e mi : Nat} (h : RY A cc cf cr ek em es K F s m L e mi) (h1 : ∀ r, r < 6 → A' r = A r) (h2 : ∀ c, c < L → cc' c = cc c ∧ cf' c = cf c ∧ cr' c = cr c) (h3 : ∀ i, i < e → ek' i = ek i ∧ em' i = em i ∧ es' i = es i) (h4 : ∀ i, i < m → K' i = K i ∧ ∀ k, 2 ≤ k → k ≤ 7 → F' i k = F i k) : RY A' cc' cf' cr' ek' em' es' K' F' s m L e mi := by
  obtain ⟨ha, hb, hc, hd, he, hf, hg, hh⟩ := h
  refine ⟨?_, hb, hc, fun c hc0 => ?_, fun i hi0 => ?_, fun i hi0 => ?_, hg, ?_⟩
  · rw [h1 0 (by decide), h1 1 (by decide), h1 2 (by decide), h1 3 (by decide), h1 4 (by decide), h1 5 (by decide)]; exact ha
  · obtain ⟨e1, e2, e3⟩ := h2 c hc0
    rw [e1, e2, e3]; exact hd c hc0
  · obtain ⟨e1, e2, e3⟩ := h3 i hi0
    rw [e1, e2, e3]; exact he i hi0
  · obtain ⟨e1, e2⟩ := h4 i hi0
    obtain ⟨t1, t2⟩ := hf i hi0
    rw [e1, e2 6 (by decide) (by decide)]
    exact ⟨t1.cg (fun k a b _ => e2 k a b) (fun _ _ => rfl), t2⟩
  · rw [← hh]; exact sdS_cg m (fun i hi0 => (h4 i hi0).2 2 (by decide) (by decide))
abbrev HS (h : Hp) (b : Nat) (s : Nat → Int32) (m L e mi : Nat) : Prop := RY (yv h b) (hi h (b + 1)) (hi h (b + 2)) (hi h (b + 3)) (hi h (b + 5)) (hi h (b + 6)) (hi h (b + 7)) (fun i => kq h (b + 8 + i)) (fun i => hi h (b + 8 + i)) s m L e mi
def tf (y : Nat → Int32) (i : Nat) : Nat → Int32 := fun k => y (42 + 7 * i + (k - 1))
abbrev IM (y s : Nat → Int32) (m L e mi : Nat) : Prop := RY y (fun c => y (6 + c)) (fun c => y (14 + c)) (fun c => y (22 + c)) (fun i => y (30 + i)) (fun i => y (34 + i)) (fun i => y (38 + i)) (fun i => kO (y (42 + 7 * i))) (tf y) s m L e mi
theorem yv_0 (h : Hp) (b : Nat) : yv h b 0 = hi h b 1 ∧ yv h b 1 = hi h b 2 ∧ yv h b 2 = hi h b 3 ∧ yv h b 3 = hi h b 4 ∧ yv h b 4 = hi h b 8 ∧ yv h b 5 = hi h b 10 := ⟨rfl, rfl, rfl, rfl, rfl, rfl⟩
section HSs
variable {h : Hp} {b m L e mi : Nat} {s : Nat → Int32}
theorem HS.cnt (g : HS h b s m L e mi) : Cnt s m L e := ⟨g.1.2.2.2.2.2.2.2.1, g.2.1.1, g.1.2.2.2.2.2.1, g.2.1.2.1, g.1.2.2.2.2.2.2.2.2.2, g.2.1.2.2⟩
theorem HS.cntY (g : HS h b s m L e mi) : CntY h b m L e := ⟨g.1.2.2.2.2.2.2.1, g.2.1.1, g.1.2.2.2.2.1, g.2.1.2.1, g.1.2.2.2.2.2.2.2.2.1, g.2.1.2.2⟩
theorem HS.wd (g : HS h b s m L e mi) : ∃ wd : Nat, wd ≤ 9 ∧ s 4 = nI wd := g.2.2.1.2.1
theorem HS.cw (g : HS h b s m L e mi) (h0 : s 0 = 1) (hmi : mi ≤ 1000) : ∃ sk, CW (hi h b) (hi h (b + 1)) (hi h (b + 2)) (hi h (b + 3)) s L mi sk := by
  obtain ⟨⟨a1, a2, a3, a4, a5, a6, a7, a8, a9, a10⟩, ⟨b1, b2, b3⟩, ⟨⟨sk, c1, c2, c3⟩, c4, c5, c6⟩, hd, he, hf, hg, hh⟩ := g
  exact ⟨sk, ⟨c3 h0, c2, a1.trans c1, c1, a2, a3, a4, hmi, b2⟩, hd⟩
theorem HS.tr (g : HS h b s m L e mi) (i : Nat) (hi0 : i < m) : TR (kq h (b + 8 + i)) (hi h (b + 8 + i)) s i mi := (g.2.2.2.2.2.1 i hi0).1
theorem HS.bz (g : HS h b s m L e mi) (i : Nat) (hi0 : i < m) : hi h (b + 8 + i) 7 = 0 ∨ hi h (b + 8 + i) 7 = 1 := (g.tr i hi0).2.2.2.2.2.2
theorem HS.is1 (g : HS h b s m L e mi) (hm : 0 < m) : s 0 = 1 := by
  rcases g.2.2.1.2.2.2 with z | z
  · have := (g.2.2.1.2.2.1 z).1; omega
  · exact z
theorem HS.sk (g : HS h b s m L e mi) (h0 : s 0 = 1) : ¬ s 3 = 0 := by
  obtain ⟨sk, c1, c2, c3⟩ := g.2.2.1.1
  rw [c1]; exact nI_ne0 (c3 h0) (by omega)
theorem HS.skm (g : HS h b s m L e mi) (j : Nat) (hj : j < m) : ¬ s 3 = 0 := g.sk (g.is1 (by omega))
/-- gone there, served here -/
theorem TR.gone {q : Nat} {f : Nat → Int32} {i : Nat} (t : TR q f s i mi) : f 2 = 13 ↔ goneI s i := by
  unfold goneI
  rcases t.2.1 with ⟨p1, p2⟩ | ⟨x, hx, p1, p2⟩
  · exact ⟨fun _ => p2, fun _ => p1⟩
  · rw [p1, p2]
    exact ⟨fun z => by have := (nI_eq (a := x) (b := 13) (by omega) (by decide)).mp z; omega, fun z => absurd z (nI_none (by omega))⟩
theorem TR.on {q : Nat} {f : Nat → Int32} {i : Nat} (t : TR q f s i mi) : inC (f 2) ↔ onI s i := by
  rcases t.2.1 with ⟨p1, p2⟩ | ⟨x, hx, p1, p2⟩
  · unfold inC onI; rw [p1, p2]; exact ⟨fun z => absurd z.2 (by decide), fun z => absurd z.1 (by decide)⟩
  · rw [inC_n p1 hx, on_n p2 hx]
theorem TR.well {q : Nat} {f : Nat → Int32} {i : Nat} (t : TR q f s i mi) : dnV q f ↔ wellI s i := by
  unfold dnV wellI thrI
  rw [t.1.2.2, t.2.2.1, t.2.2.2.2.2.1, ndK_n t.1.1 t.1.2.1]
theorem TR.thr {q : Nat} {f : Nat → Int32} {i : Nat} (t : TR q f s i mi) : ndK q ≤ f 3 ↔ thrI s i := by
  unfold thrI
  rw [t.1.2.2, t.2.2.1, ndK_n t.1.1 t.1.2.1]
end HSs
theorem RY.sk0 {A cc cf cr ek em es s : Nat → Int32} {K : Nat → Nat} {F : Nat → Nat → Int32} {m L e mi : Nat} (h : RY A cc cf cr ek em es K F s m L e mi) : m ≤ 6 := h.2.1.1
/-- an image taken -/
theorem HS.im {h : Hp} {b m L e mi : Nat} {s y : Nat → Int32} (g : HS h b s m L e mi) (hT : KT h b) (hy : ∀ r, r < 84 → y r = yv h b r) : IM y s m L e mi := by
  have hm := g.2.1.1
  have hL := g.2.1.2.1
  have he := g.2.1.2.2
  refine g.cg (fun r hr => hy r (by omega)) (fun c hc => ⟨?_, ?_, ?_⟩) (fun i hi0 => ⟨?_, ?_, ?_⟩) (fun i hi0 => ⟨?_, fun k k2 k7 => ?_⟩)
  · show y (6 + c) = _; rw [hy _ (by omega), yv_c (by omega)]
  · show y (14 + c) = _; rw [hy _ (by omega), yv_f (by omega)]
  · show y (22 + c) = _; rw [hy _ (by omega), yv_r (by omega)]
  · show y (30 + i) = _; rw [hy _ (by omega), yv_k (by omega)]
  · show y (34 + i) = _; rw [hy _ (by omega), yv_m (by omega)]
  · show y (38 + i) = _; rw [hy _ (by omega), yv_s (by omega)]
  · show kO (y (42 + 7 * i)) = _
    rw [hy _ (by omega), show 42 + 7 * i = 42 + 7 * i + 0 from rfl, yv_t (by decide)]
    show kO (nI (kq h (b + 8 + i))) = _
    exact kO_n (hT i (by omega)).2
  · show y (42 + 7 * i + (k - 1)) = _
    rw [hy _ (by omega), yv_t (by omega)]
    unfold ytV
    rw [if_neg (by omega)]
    by_cases z : k = 7
    · subst z
      rw [if_pos (by decide)]
      rcases g.bz i hi0 with w | w
      · rw [w, if_pos rfl]
      · rw [w, if_neg (by decide)]
    · rw [if_neg (by omega), show k - 1 + 1 = k by omega]
/-- an image brought back -/
theorem IM.hs {h : Hp} {b a j m L e mi : Nat} {s : Nat → Int32} (hb : b = 17 ∨ b = 31) (ha : 45 ≤ a) (g : IM (fun r => hi h a (j + r)) s m L e mi) : HS (ldH h b a j 6) b s m L e mi := by
  have hm := g.2.1.1
  have hL := g.2.1.2.1
  have he := g.2.1.2.2
  have eb : hi (ldH h b a j 6) b = ldB (hi h b) (ldG h a j) := ldH_b hb
  have e1 : ∀ x, b < x → x < b + 8 → hi (ldH h b a j 6) x = hi (ldA h b a j) x := fun x h1 h2 => by unfold ldH; rw [thR_out _ _ _ _ _ _ (by omega)]
  have et : ∀ i, i < 6 → hi (ldH h b a j 6) (b + 8 + i) = ldF h b a j i := fun i hi0 => by unfold ldH; exact thR_in _ _ _ _ _ _ hi0
  have ek : ∀ i, i < 6 → kq (ldH h b a j 6) (b + 8 + i) = kO (hi h a (j + (42 + 7 * i))) := fun i hi0 => by
    unfold kq ldH; rw [thR_kd _ _ _ _ _ _ hi0]; show 10 + _ - 10 = _; omega
  refine g.cg (fun r hr => ?_) (fun c hc => ⟨?_, ?_, ?_⟩) (fun i hi0 => ⟨?_, ?_, ?_⟩) (fun i hi0 => ⟨?_, fun k k2 k7 => ?_⟩)
  · obtain ⟨z0, z1, z2, z3, z4, z5⟩ := yv_0 (ldH h b a j 6) b
    rcases (show r = 0 ∨ r = 1 ∨ r = 2 ∨ r = 3 ∨ r = 4 ∨ r = 5 by omega) with rfl | rfl | rfl | rfl | rfl | rfl
    · rw [z0, eb]; rfl
    · rw [z1, eb]; rfl
    · rw [z2, eb]; rfl
    · rw [z3, eb]; rfl
    · rw [z4, eb]; rfl
    · rw [z5, eb]; rfl
  · show hi (ldH h b a j 6) (b + 1) c = hi h a (j + (6 + c))
    rw [e1 _ (by omega) (by omega)]; unfold ldA
    rw [hi_setw_ne _ _ _ _ (by omega), hi_setw_ne _ _ _ _ (by omega), hi_setw_ne _ _ _ _ (by omega), hi_setw_ne _ _ _ _ (by omega), hi_setw_ne _ _ _ _ (by omega), hi_setw_row, pk_cpy_in (by omega) (by omega)]
    congr 1; omega
  · show hi (ldH h b a j 6) (b + 2) c = hi h a (j + (14 + c))
    rw [e1 _ (by omega) (by omega)]; unfold ldA
    rw [hi_setw_ne _ _ _ _ (by omega), hi_setw_ne _ _ _ _ (by omega), hi_setw_ne _ _ _ _ (by omega), hi_setw_ne _ _ _ _ (by omega), hi_setw_row, pk_cpy_in (by omega) (by omega)]
    congr 1; omega
  · show hi (ldH h b a j 6) (b + 3) c = hi h a (j + (22 + c))
    rw [e1 _ (by omega) (by omega)]; unfold ldA
    rw [hi_setw_ne _ _ _ _ (by omega), hi_setw_ne _ _ _ _ (by omega), hi_setw_ne _ _ _ _ (by omega), hi_setw_row, pk_cpy_in (by omega) (by omega)]
    congr 1; omega
  · show hi (ldH h b a j 6) (b + 5) i = hi h a (j + (30 + i))
    rw [e1 _ (by omega) (by omega)]; unfold ldA
    rw [hi_setw_ne _ _ _ _ (by omega), hi_setw_ne _ _ _ _ (by omega), hi_setw_row, pk_cpy_in (by omega) (by omega)]
    congr 1; omega
  · show hi (ldH h b a j 6) (b + 6) i = hi h a (j + (34 + i))
    rw [e1 _ (by omega) (by omega)]; unfold ldA
    rw [hi_setw_ne _ _ _ _ (by omega), hi_setw_row, pk_cpy_in (by omega) (by omega)]
    congr 1; omega
  · show hi (ldH h b a j 6) (b + 7) i = hi h a (j + (38 + i))
    rw [e1 _ (by omega) (by omega)]; unfold ldA
    rw [hi_setw_row, pk_cpy_in (by omega) (by omega)]
    congr 1; omega
  · exact ek i (by omega)
  · show hi (ldH h b a j 6) (b + 8 + i) k = hi h a (j + (42 + 7 * i + (k - 1)))
    rw [et i (by omega)]
    have hb7 : hi h a (j + (42 + 7 * i) + 6) = 0 ∨ hi h a (j + (42 + 7 * i) + 6) = 1 := by
      have z := (g.2.2.2.2.2.1 i hi0).1.2.2.2.2.2.2
      have e9 : tf (fun r => hi h a (j + r)) i 7 = hi h a (j + (42 + 7 * i) + 6) := rfl
      rw [e9] at z; exact z
    rcases (show k = 2 ∨ k = 3 ∨ k = 4 ∨ k = 5 ∨ k = 6 ∨ k = 7 by omega) with rfl | rfl | rfl | rfl | rfl | rfl
    · rfl
    · rfl
    · rfl
    · rfl
    · rfl
    · show (if hi h a (j + (42 + 7 * i) + 6) = 0 then (0 : Int32) else 1) = hi h a (j + (42 + 7 * i) + 6)
      rcases hb7 with w | w
      · rw [w, if_pos rfl]
      · rw [w, if_neg (by decide)]
