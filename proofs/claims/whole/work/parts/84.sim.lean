/-! the one relation on a heap (by hand) -/
theorem RY.cgs {A cc cf cr ek em es s s' : Nat → Int32} {K : Nat → Nat} {F : Nat → Nat → Int32} {m L e mi : Nat} (h : RY A cc cf cr ek em es K F s m L e mi) (hs : ∀ i, i < 85 → s' i = s i) : RY A cc cf cr ek em es K F s' m L e mi := by
  obtain ⟨ha, ⟨b1, b2, b3⟩, hc, hd, he, hf, hg, hh⟩ := h
  refine ⟨?_, ⟨b1, b2, b3⟩, ?_, fun c hc0 => ?_, fun i hi0 => ?_, fun i hi0 => ?_, fun i hi0 => ?_, ?_⟩
  · rw [hs 3 (by decide), hs 4 (by decide), hs 19 (by decide), hs 20 (by decide), hs 1 (by decide), hs 2 (by decide)]; exact ha
  · rw [hs 3 (by decide), hs 4 (by decide), hs 0 (by decide)]; exact hc
  · rw [hs (21 + c) (by omega), hs (29 + c) (by omega), hs (37 + c) (by omega)]; exact hd c hc0
  · rw [hs (11 + i) (by omega), hs (15 + i) (by omega), hs (81 + i) (by omega)]; exact he i hi0
  · rw [hs (69 + i) (by omega)]
    exact ⟨(hf i hi0).1.cg (fun _ _ _ _ => rfl) (fun j hj => hs j (by omega)), (hf i hi0).2⟩
  · exact (hg i hi0).cg hi0 (fun t ht => hs _ (by omega))
  · rw [hh]; exact (servS_cg e (fun i hi0 => hs _ (by omega))).symm
def N0 (h : Hp) : Prop := ∀ i, i < 6 → hi h (25 + i) 0 = nI i ∧ hi h (39 + i) 0 = nI i
def ST (h h' : Hp) : Prop := ∀ x, (25 ≤ x ∧ x < 31) ∨ (39 ≤ x ∧ x < 45) → hi h' x 0 = hi h x 0
theorem N0.st {h h' : Hp} (g : N0 h) (s : ST h h') : N0 h' := fun i hi0 => ⟨(s _ (by omega)).trans (g i hi0).1, (s _ (by omega)).trans (g i hi0).2⟩
def SimB (h : Hp) (b c : Nat) : Prop := hn h = 65 ∧ RC h ∧ RM h ∧ KC h ∧ hr h 0 5 = some b ∧ hr h 0 6 = some c ∧ ((b = 17 ∧ c = 31) ∨ (b = 31 ∧ c = 17)) ∧ KT h b ∧ KT h c ∧ T16 h ∧ N0 h
def SimR (h : Hp) : Prop := ∀ j, j < 8 → ∃ z : Nat, z ≤ 40 ∧ hi h 4 j = nI z ∧ hi h 56 j = nI z ∧ ((hi h 3 j = -1 ∧ hi h 55 j = -1000000) ∨ ((∃ l : Nat, l ≤ 2 ∧ hi h 3 j = nI l ∧ hi h 55 j = nI l) ∧ ∀ q, q < z → hi h 2 (40 * j + q) = hi h 57 (40 * j + q)))
def SimT (h : Hp) : Prop := (∃ n : Nat, n ≤ 160 ∧ hi h 5 1 = nI n ∧ hi h 50 10 = nI n ∧ ∀ k, k < n → hi h 6 k = hi h 58 k ∧ 0 ≤ hi h 58 k ∧ hi h 58 k ≤ 255) ∧ hi h 5 5 = hi h 50 16
def SimP (h : Hp) : Prop := ∃ a : Nat, a ≤ 16 ∧ hi h 7 1 = nI a ∧ hi h 50 23 = nI a ∧ ∀ k, k < a → hi h 8 k = hi h 64 k
def SimY (h : Hp) (b : Nat) : Prop := hi h 0 7 = hi h 51 0 ∧ ∃ m L e mi : Nat, mi ≤ 400 ∧ HS h b (hi h 51) m L e mi
def PastR (R : Nat → Int32) (p a : Nat) (W s : Nat → Int32) : Prop := ∀ k, k < a → ∃ m L e mi : Nat, mi ≤ 400 ∧ IM (fun r => R (84 * ((p + 23 - k) % 24) + r)) (mix (fun i => W (66 * (a - 1 - k) + (i - 19))) s 19 66) m L e mi
def SimU (h : Hp) : Prop := ∃ p a : Nat, (p < 24 ∧ a ≤ 24 ∧ hi h 0 9 = nI p ∧ hi h 0 10 = nI a ∧ hi h 50 4 = nI a) ∧ PastR (hi h 45) p a (hi h 54) (hi h 51)
def SimI (h : Hp) : Prop := ∀ k, k < 2 → (hi h 47 k = 0 ∧ hi h 53 k = 0) ∨ (hi h 47 k = 1 ∧ hi h 53 k = 1 ∧ hi h 51 0 = 1 ∧ hi h 52 (85 * k) = 1 ∧ ∃ m L e mi : Nat, mi ≤ 400 ∧ IM (fun r => hi h 46 (84 * k + r)) (fun i => hi h 52 (85 * k + i)) m L e mi)
def SimAt (h : Hp) (b c : Nat) : Prop := SimB h b c ∧ SimR h ∧ hi h 0 16 = hi h 50 8 ∧ SimT h ∧ SimP h ∧ SimY h b ∧ SimU h ∧ SimI h
def Sim (h : Hp) : Prop := ∃ b c, SimAt h b c
def Pair (Mc Mm : Nat) (ar : List AV) (h : Hp) : Prop := Spec 40 Mc (vR (some 0) :: ar) h (fun r h1 => ∃ v, r = some (vI v) ∧ Spec 40 Mm (vR (some 50) :: ar) h1 (fun r2 h2 => r2 = some (vI v) ∧ Sim h2))
theorem SimB.b {h : Hp} {b c : Nat} (S : SimB h b c) : b = 17 ∨ b = 31 := by rcases S.2.2.2.2.2.2.1 with z | z <;> omega
theorem SimB.c {h : Hp} {b c : Nat} (S : SimB h b c) : c = 17 ∨ c = 31 := by rcases S.2.2.2.2.2.2.1 with z | z <;> omega
theorem HS.gi {h : Hp} {b c m L e mi : Nat} {s : Nat → Int32} (g : HS h b s m L e mi) (S : SimB h b c) : GI h b m L e := ⟨S.1, S.2.1, S.2.2.2.2.1, g.cntY, S.2.2.2.1, S.2.2.2.2.2.2.2.1⟩
/-- HS speaks of the yard's own places alone -/
theorem HS.mv {h h' : Hp} {b m L e mi : Nat} {s s' : Nat → Int32} (g : HS h b s m L e mi) (h1 : ∀ x, b ≤ x → x < b + 14 → hi h' x = hi h x) (h2 : ∀ i, i < 6 → hr h' (b + 8 + i) 1 = hr h (b + 8 + i) 1) (hs : ∀ i, i < 85 → s' i = s i) : HS h' b s' m L e mi := by
  have hm := g.2.1.1
  refine (RY.cg g (fun r hr => ?_) (fun c hc => ⟨?_, ?_, ?_⟩) (fun i hi0 => ⟨?_, ?_, ?_⟩) (fun i hi0 => ⟨?_, fun k _ _ => ?_⟩)).cgs hs
  · have z := yv_0 h' b
    have w := yv_0 h b
    have e := h1 b (Nat.le_refl _) (by omega)
    rcases (show r = 0 ∨ r = 1 ∨ r = 2 ∨ r = 3 ∨ r = 4 ∨ r = 5 by omega) with rfl | rfl | rfl | rfl | rfl | rfl
    · rw [z.1, w.1, e]
    · rw [z.2.1, w.2.1, e]
    · rw [z.2.2.1, w.2.2.1, e]
    · rw [z.2.2.2.1, w.2.2.2.1, e]
    · rw [z.2.2.2.2.1, w.2.2.2.2.1, e]
    · rw [z.2.2.2.2.2, w.2.2.2.2.2, e]
  · rw [h1 _ (by omega) (by omega)]
  · rw [h1 _ (by omega) (by omega)]
  · rw [h1 _ (by omega) (by omega)]
  · rw [h1 _ (by omega) (by omega)]
  · rw [h1 _ (by omega) (by omega)]
  · rw [h1 _ (by omega) (by omega)]
  · show kq h' (b + 8 + i) = kq h (b + 8 + i); unfold kq; rw [h2 i (by omega)]
  · show hi h' (b + 8 + i) k = hi h (b + 8 + i) k; rw [h1 _ (by omega) (by omega)]
theorem KT.mv {h h' : Hp} {b : Nat} (g : KT h b) (h2 : ∀ i, i < 6 → hr h' (b + 8 + i) 1 = hr h (b + 8 + i) 1) : KT h' b := by
  intro i hi0
  have e : kq h' (b + 8 + i) = kq h (b + 8 + i) := by unfold kq; rw [h2 i hi0]
  rw [e, h2 i hi0]; exact g i hi0
theorem PastR.mv {R R' W W' s s' : Nat → Int32} {p a : Nat} (g : PastR R p a W s) (hR : ∀ i, i < 2016 → R' i = R i) (hW : ∀ i, i < 1584 → W' i = W i) (hs : ∀ i, i < 19 → s' i = s i) (ha : a ≤ 24) : PastR R' p a W' s' := by
  intro k hk
  obtain ⟨m, L, e, mi, h1, h2⟩ := g k hk
  refine ⟨m, L, e, mi, h1, ?_⟩
  have hx : (p + 23 - k) % 24 < 24 := Nat.mod_lt _ (by decide)
  have hm := h2.2.1.1
  have hL := h2.2.1.2.1
  have he := h2.2.1.2.2
  have er : ∀ r, r < 84 → R' (84 * ((p + 23 - k) % 24) + r) = R (84 * ((p + 23 - k) % 24) + r) := fun r hr => hR _ (by omega)
  refine (RY.cg h2 (fun r hr => er r (by omega)) (fun c hc => ⟨er _ (by omega), er _ (by omega), er _ (by omega)⟩) (fun i hi0 => ⟨er _ (by omega), er _ (by omega), er _ (by omega)⟩) (fun i hi0 => ⟨?_, fun u u1 u2 => er _ (by omega)⟩)).cgs (fun i hi0 => ?_)
  · show kO (R' _) = kO (R _); rw [er _ (by omega)]
  · by_cases z : 19 ≤ i ∧ i < 19 + 66
    · rw [mix_in _ _ z, mix_in _ _ z]; exact hW _ (by omega)
    · rw [mix_out _ _ z, mix_out _ _ z]; exact hs i (by omega)
theorem IM.mv {y y' s s' : Nat → Int32} {m L e mi : Nat} (g : IM y s m L e mi) (hy : ∀ r, r < 84 → y' r = y r) (hs : ∀ i, i < 85 → s' i = s i) : IM y' s' m L e mi := by
  have hm := g.2.1.1
  have hL := g.2.1.2.1
  have he := g.2.1.2.2
  refine (RY.cg g (fun r hr => hy r (by omega)) (fun c hc => ⟨hy _ (by omega), hy _ (by omega), hy _ (by omega)⟩) (fun i hi0 => ⟨hy _ (by omega), hy _ (by omega), hy _ (by omega)⟩) (fun i hi0 => ⟨?_, fun u u1 u2 => hy _ (by omega)⟩)).cgs hs
  show kO (y' _) = kO (y _); rw [hy _ (by omega)]
/-- what may change without a trace -/
theorem SimAt.junk {h h' : Hp} {b c : Nat} (S : SimAt h b c) (h1 : hn h' = hn h) (h2 : ∀ x y, ¬ (y = 1 ∧ (x = 16 ∨ (c + 8 ≤ x ∧ x < c + 14))) → hr h' x y = hr h x y) (h3 : ∀ x, x ≠ 0 → x ≠ 5 → x ≠ 16 → x ≠ 48 → x ≠ 49 → x ≠ 50 → x ≠ 59 → x ≠ 60 → x ≠ 61 → x ≠ 62 → x ≠ 63 → ¬ (c ≤ x ∧ x < c + 14) → hi h' x = hi h x)
    (h4 : ∀ j, j ≠ 15 → hi h' 0 j = hi h 0 j) (h5 : ∀ j, ¬ (2 ≤ j ∧ j ≤ 4) → hi h' 5 j = hi h 5 j) (h6 : ∀ j, ¬ (11 ≤ j ∧ j ≤ 15) → hi h' 50 j = hi h 50 j) (h7 : T16 h') (h8 : KT h' c) (h9 : ST h h') : SimAt h' b c := by
  obtain ⟨⟨s1, s2, s3, s4, s5, s6, s7, s8, s9, s10⟩, hR, hF, ⟨⟨n, n1, n2, n3, n4⟩, hT⟩, ⟨a, a1, a2, a3, a4⟩, ⟨y1, m, L, e, mi, y2, y3⟩, ⟨p, u, ⟨u1, u2, u3, u4, u5⟩, u6⟩, hI⟩ := S
  have hb : b = 17 ∨ b = 31 := by rcases s7 with z | z <;> omega
  have hc : c = 17 ∨ c = 31 := by rcases s7 with z | z <;> omega
  have e51 : hi h' 51 = hi h 51 := h3 51 (by decide) (by decide) (by decide) (by decide) (by decide) (by decide) (by decide) (by decide) (by decide) (by decide) (by decide) (by omega)
  refine ⟨⟨h1.trans s1, s2.of (fun x y z1 z2 => h2 x y (by omega)), fun q hq => ?_, fun q hq => ?_, ?_, ?_, s7, s8.mv (fun i hi0 => h2 _ _ (by rcases s7 with z | z <;> omega)), h8, h7, s10.2.st h9⟩, fun j hj => ?_, ?_, ⟨⟨n, n1, ?_, ?_, fun k hk => ?_⟩, ?_⟩, ⟨a, a1, ?_, ?_, fun k hk => ?_⟩, ⟨?_, m, L, e, mi, y2, y3.mv (fun x x1 x2 => h3 x (by omega) (by omega) (by omega) (by omega) (by omega) (by omega) (by omega) (by omega) (by omega) (by omega) (by omega) (by rcases s7 with z | z <;> omega)) (fun i hi0 => h2 _ _ (by rcases s7 with z | z <;> omega)) (fun i _ => by rw [e51])⟩, ⟨p, u, ⟨u1, u2, ?_, ?_, ?_⟩, ?_⟩, fun k hk => ?_⟩
  · have hq2 : q.1 = q.1 := rfl
    rw [h2 50 q.1 (by omega)]; exact s3 q hq
  · rw [h3 (10 + q) (by omega) (by omega) (by omega) (by omega) (by omega) (by omega) (by omega) (by omega) (by omega) (by omega) (by omega) (by omega)]; exact s4 q hq
  · rw [h2 0 5 (by omega)]; exact s5
  · rw [h2 0 6 (by omega)]; exact s6
  · rw [h3 2 (by decide) (by decide) (by decide) (by decide) (by decide) (by decide) (by decide) (by decide) (by decide) (by decide) (by decide) (by omega), h3 3 (by decide) (by decide) (by decide) (by decide) (by decide) (by decide) (by decide) (by decide) (by decide) (by decide) (by decide) (by omega), h3 4 (by decide) (by decide) (by decide) (by decide) (by decide) (by decide) (by decide) (by decide) (by decide) (by decide) (by decide) (by omega), h3 55 (by decide) (by decide) (by decide) (by decide) (by decide) (by decide) (by decide) (by decide) (by decide) (by decide) (by decide) (by omega), h3 56 (by decide) (by decide) (by decide) (by decide) (by decide) (by decide) (by decide) (by decide) (by decide) (by decide) (by decide) (by omega), h3 57 (by decide) (by decide) (by decide) (by decide) (by decide) (by decide) (by decide) (by decide) (by decide) (by decide) (by decide) (by omega)]
    exact hR j hj
  · rw [h4 16 (by decide), h6 8 (by decide)]; exact hF
  · rw [h5 1 (by decide)]; exact n2
  · rw [h6 10 (by decide)]; exact n3
  · rw [h3 6 (by decide) (by decide) (by decide) (by decide) (by decide) (by decide) (by decide) (by decide) (by decide) (by decide) (by decide) (by omega), h3 58 (by decide) (by decide) (by decide) (by decide) (by decide) (by decide) (by decide) (by decide) (by decide) (by decide) (by decide) (by omega)]; exact n4 k hk
  · rw [h5 5 (by decide), h6 16 (by decide)]; exact hT
  · rw [h3 7 (by decide) (by decide) (by decide) (by decide) (by decide) (by decide) (by decide) (by decide) (by decide) (by decide) (by decide) (by omega)]; exact a2
  · rw [h6 23 (by decide)]; exact a3
  · rw [h3 8 (by decide) (by decide) (by decide) (by decide) (by decide) (by decide) (by decide) (by decide) (by decide) (by decide) (by decide) (by omega), h3 64 (by decide) (by decide) (by decide) (by decide) (by decide) (by decide) (by decide) (by decide) (by decide) (by decide) (by decide) (by omega)]; exact a4 k hk
  · rw [h4 7 (by decide), e51]; exact y1
  · rw [h4 9 (by decide)]; exact u3
  · rw [h4 10 (by decide)]; exact u4
  · rw [h6 4 (by decide)]; exact u5
  · rw [h3 45 (by decide) (by decide) (by decide) (by decide) (by decide) (by decide) (by decide) (by decide) (by decide) (by decide) (by decide) (by omega), h3 54 (by decide) (by decide) (by decide) (by decide) (by decide) (by decide) (by decide) (by decide) (by decide) (by decide) (by decide) (by omega), e51]; exact u6
  · rw [h3 47 (by decide) (by decide) (by decide) (by decide) (by decide) (by decide) (by decide) (by decide) (by decide) (by decide) (by decide) (by omega), h3 53 (by decide) (by decide) (by decide) (by decide) (by decide) (by decide) (by decide) (by decide) (by decide) (by decide) (by decide) (by omega), h3 46 (by decide) (by decide) (by decide) (by decide) (by decide) (by decide) (by decide) (by decide) (by decide) (by decide) (by decide) (by omega), h3 52 (by decide) (by decide) (by decide) (by decide) (by decide) (by decide) (by decide) (by decide) (by decide) (by decide) (by decide) (by omega), e51]
    exact hI k hk
