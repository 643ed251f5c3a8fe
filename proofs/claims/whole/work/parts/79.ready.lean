/-! foretold: ahead, heat, ready, where, in time (by hand) -/
section Fo
variable {h : Hp} {b m L e mi : Nat} {s : Nat → Int32}
theorem TR.bec {q : Nat} {f0 f : Nat → Int32} {i : Nat} (t : TR q f s i mi) : TR q (becV f0 f) s i mi := t.cg (fun k a b _ => bec2 _ _ k a b) (fun _ _ => rfl)
theorem TR.place {q x : Nat} {f : Nat → Int32} {i : Nat} {v : Int32} (t : TR q f s i mi) (hi0 : i < 6) (hx : x ≤ 12) (hv : v = nI x) : TR q (upd f 2 v) (upd s (45 + i) v) i mi := by
  obtain ⟨k, hp, hco, hsd, hb, h7, h7b⟩ := t
  have eb : belowI (upd s (45 + i) v) i = belowI s i := by unfold belowI; rw [upd_ne _ _ _ (by omega), upd_ne _ _ _ (by omega), upd_ne _ _ _ (by omega)]
  have ea : aboveI (upd s (45 + i) v) i = aboveI s i := by unfold aboveI; rw [upd_ne _ _ _ (by omega), upd_ne _ _ _ (by omega), upd_ne _ _ _ (by omega)]
  refine ⟨?_, Or.inr ⟨x, hx, (upd_at _ _ _).trans hv, (upd_at _ _ _).trans hv⟩, ?_, ?_, ?_, ?_, h7b⟩
  · rw [upd_ne _ _ _ (by omega)]; exact k
  · rw [upd_ne _ _ _ (by omega)]; exact hco
  · rw [upd_ne _ _ _ (by omega)]; exact hsd
  · rw [eb, ea]; exact hb
  · rw [upd_ne _ _ _ (by omega)]; exact h7
/-- lies alone where it is put -/
theorem AL.put {i : Nat} {v : Int32} (ht : ¬ takI s m i v) (hi0 : i < m) : AL (upd s (45 + i) v) m i := by
  intro k hk hki hon
  rw [upd_ne _ _ _ (by omega), upd_at]
  intro z
  apply ht
  refine ⟨?_, fun z12 => ?_⟩
  · have aux : ∀ n, k < n → takL s i v n = true := by
      intro n
      induction n with
      | zero => intro h; omega
      | succ n ih =>
        intro hn
        unfold takL
        by_cases y : k = n
        · subst y
          rw [decide_eq_true hki, decide_eq_true z]; simp
        · rw [ih (by omega)]; rfl
    exact aux m hk
  · unfold onI at hon
    rw [upd_at, z12] at hon
    exact absurd hon.2 (by decide)
theorem takL_iff {i : Nat} {v : Int32} : ∀ n, takL s i v n = true ↔ ∃ k, k < n ∧ k ≠ i ∧ s (45 + k) = v := by
  intro n
  induction n with
  | zero => exact ⟨fun h => absurd (show false = true from h) (by decide), fun ⟨k, hk, _⟩ => absurd hk (Nat.not_lt_zero _)⟩
  | succ n ih =>
    unfold takL
    rw [Bool.or_eq_true, Bool.and_eq_true, decide_eq_true_eq, decide_eq_true_eq, ih]
    constructor
    · rintro (⟨k, a, b, c⟩ | ⟨a, b⟩)
      · exact ⟨k, by omega, b, c⟩
      · exact ⟨n, by omega, a, b⟩
    · rintro ⟨k, a, b, c⟩
      by_cases z : k = n
      · subst z; exact Or.inr ⟨b, c⟩
      · exact Or.inl ⟨k, by omega, b, c⟩
theorem TR.pl {q : Nat} {f : Nat → Int32} {i : Nat} {cell : Int32} (t : TR q f s i mi) (hc : inC cell) : f 2 = cell ↔ s (45 + i) = cell := by
  rcases t.2.1 with ⟨p1, p2⟩ | ⟨x, hx, p1, p2⟩
  · rw [p1, p2]
    exact ⟨fun z => by rw [← z] at hc; exact absurd hc.2 (by decide), fun z => by rw [← z] at hc; exact absurd hc.1 (by decide)⟩
  · rw [p1, p2]
theorem lyF_iff {f : Nat → Int32} {cell : Int32} : ∀ n, (lyF f cell n = none ↔ ∀ k, k < n → ¬ f k = cell) := by
  intro n
  induction n with
  | zero => exact ⟨fun _ k hk => absurd hk (Nat.not_lt_zero _), fun _ => rfl⟩
  | succ n ih =>
    unfold lyF
    cases hq : lyF f cell n with
    | some i => exact ⟨fun z => by simp at z, fun z => by have w := ih.mpr (fun k hk => z k (by omega)); rw [w] at hq; cases hq⟩
    | none =>
      dsimp only
      by_cases y : f n = cell
      · rw [if_pos y]; exact ⟨fun z => by simp at z, fun z => absurd y (z n (by omega))⟩
      · rw [if_neg y]
        refine ⟨fun _ k hk => ?_, fun _ => rfl⟩
        by_cases z : k = n
        · subst z; exact y
        · exact ih.mp hq k (by omega)
/-- taken there, not open here -/
theorem open_iff (g : HS h b s m L e mi) {j : Nat} {cell : Int32} (hj : j < m) (hc : 0 ≤ cell ∧ cell ≤ 12) : opC (plF h b) m j cell ↔ ¬ takI s m j cell := by
  unfold opC takI
  rw [takL_iff]
  by_cases hin : inC cell
  · have h12 : cell ≠ 12 := fun z => by rw [z] at hin; exact absurd hin.2 (by decide)
    constructor
    · intro ho ⟨⟨k, hk, hkj, hs⟩, _⟩
      have hp : plF h b k = cell := ((g.tr k hk).pl hin).mpr hs
      rcases ho hin with w | w
      · exact lyF_no m w k hk hp
      · obtain ⟨_, w2⟩ := lyF_ok m w
        have hsj := ((g.tr j hj).pl hin).mp w2
        have hon : onI s j := by rw [← (g.tr j hj).on]; show inC (hi h (b + 8 + j) 2); rw [show hi h (b + 8 + j) 2 = cell from w2]; exact hin
        exact g.2.2.2.2.2.2.1 j hj k hk hkj hon (hs.trans hsj.symm)
    · intro ht _
      cases hq : lyF (plF h b) cell m with
      | none => exact Or.inl rfl
      | some i =>
        obtain ⟨w1, w2⟩ := lyF_ok m hq
        by_cases z : i = j
        · subst z; exact Or.inr rfl
        · exact absurd ⟨⟨i, w1, z, ((g.tr i w1).pl hin).mp w2⟩, h12⟩ ht
  · have h12 : cell = 12 := by
      obtain ⟨x, hx, rfl⟩ := nat2 (n := 12) hc (by decide)
      by_cases z : x ≤ 11
      · exact absurd ((inC_n rfl hx).mpr z) hin
      · rw [show x = 12 by omega]; rfl
    exact ⟨fun _ z => z.2 h12, fun _ z => absurd z hin⟩
theorem fatL_0 {cell w : Int32} : ∀ k, (∀ t, t < k → ¬ s (45 + t) = cell) → fatL s cell w k = 0 := by
  intro k
  induction k with
  | zero => intro _; rfl
  | succ k ih => intro hk; unfold fatL; rw [if_neg (fun z => hk k (by omega) z.2.1)]; exact ih (fun t ht => hk t (by omega))
/-- ahead -/
theorem eq_ahead (g : HS h b s m L e mi) (hmi : mi ≤ 800) {j n w : Nat} (hj : j < m) (hn : n ≤ 100) (hw : w ≤ 3) (f0 : Nat → Int32) : ahV (trN (hi h b) (hi h (b + 1)) (hi h (b + 2)) (hi h (b + 3)) L (kq h (b + 8 + j)) (becV f0 (hi h (b + 8 + j))) n) w = ahQ (gmN s m L n) j (nI w) := by
  obtain ⟨sk, hC⟩ := g.cw (g.is1 (by omega)) (by omega)
  have t := TR.run hC g.wd g.2.1.1 hj (g.2.2.2.2.2.2.1 j hj) ((g.tr j hj).bec (f0 := f0)) n (by omega)
  obtain ⟨k, hp, hco, hsd, ⟨lo, up, b1, ⟨f4, f5⟩, ⟨g4, g5⟩, hbu⟩, h7, h7b⟩ := t
  unfold ahV ahQ
  rcases (show w = 0 ∨ w = 1 ∨ w = 2 ∨ w = 3 by omega) with rfl | rfl | rfl | rfl
  · rw [if_pos rfl, if_pos (by decide), hco]
  · rw [if_neg (by decide), if_pos rfl, if_neg (by decide), if_pos (by decide), f4, g4]
  · rw [if_neg (by decide), if_neg (by decide), if_pos rfl, if_neg (by decide), if_neg (by decide), if_pos (by decide), f5, g5]
  · generalize trN (hi h b) (hi h (b + 1)) (hi h (b + 2)) (hi h (b + 3)) L (kq h (b + 8 + j)) (becV f0 (hi h (b + 8 + j))) n = F at *
    show (if F 7 = 0 then (0 : Int32) else 1) = gmN s m L n (75 + j)
    rw [h7]
    rcases h7b with z | z
    · rw [z, if_pos rfl]
    · rw [z, if_neg (by decide)]
theorem eq_heat0 (g : HS h b s m L e mi) (h0 : s 0 = 1) (hmi : mi ≤ 800) {n : Nat} {cell : Int32} (hn : n ≤ 100) (hin : inC cell) (hl : lyF (plF h b) cell m = none) : wmV (hi h b) (hi h (b + 1)) (hi h (b + 2)) (hi h (b + 3)) L cell (nI n) + windV (hi h b) cell = heatI (gmN s m L n) m L cell := by
  obtain ⟨sk, hC⟩ := g.cw h0 (by omega)
  have hm := g.2.1.1
  rw [wmV_n m hC cell n (by omega), windV_n m hC cell n (by omega)]
  unfold heatI
  rw [fatL_0 m (fun t ht z => by
    rw [gmN_lo _ _ _ _ _ (by omega) (by omega) (by omega) g.2.1.2.1] at z
    exact lyF_no m hl t ht (((g.tr t ht).pl hin).mpr z)), Int32.add_zero]
theorem eq_heat1 (g : HS h b s m L e mi) (h0 : s 0 = 1) (hmi : mi ≤ 800) {n i : Nat} {cell : Int32} (hn : n ≤ 100) (hin : inC cell) (hi0 : i < m) (hl : lyF (plF h b) cell m = some i) (f0 : Nat → Int32) : heatV (kq h (b + 8 + i)) (trN (hi h b) (hi h (b + 1)) (hi h (b + 2)) (hi h (b + 3)) L (kq h (b + 8 + i)) (becV f0 (hi h (b + 8 + i))) n) (wmV (hi h b) (hi h (b + 1)) (hi h (b + 2)) (hi h (b + 3)) L cell (nI n)) (windV (hi h b) cell) = heatI (gmN s m L n) m L cell := by
  obtain ⟨sk, hC⟩ := g.cw h0 (by omega)
  have hm := g.2.1.1
  have t := TR.run hC g.wd g.2.1.1 hi0 (g.2.2.2.2.2.2.1 i hi0) ((g.tr i hi0).bec (f0 := f0)) n (by omega)
  have ec : gmN s m L n (45 + i) = cell := by
    rw [gmN_lo _ _ _ _ _ (by omega) (by omega) (by omega) g.2.1.2.1]
    exact ((g.tr i hi0).pl hin).mp (lyF_ok m hl).2
  have hon : onI (gmN s m L n) i := by unfold onI; rw [ec]; exact hin
  obtain ⟨k, hp, hco, hsd, ⟨lo, up, b1, ⟨f4, f5⟩, ⟨g4, g5⟩, hbu⟩, h7, h7b⟩ := t
  have e := heat_1 (f := trN (hi h b) (hi h (b + 1)) (hi h (b + 2)) (hi h (b + 3)) L (kq h (b + 8 + i)) (becV f0 (hi h (b + 8 + i))) n) (L := L) ((g.2.2.2.2.2.2.1 i hi0).gm g.2.1.2.1 hm hi0 n) hon hi0 k.1 k.2.1 k.2.2 (g4.trans f4.symm)
  rw [ec] at e
  rw [e, wmV_n m hC cell n (by omega), windV_n m hC cell n (by omega)]
end Fo
/-- burnt stays burnt -/
theorem burnt_s {s : Nat → Int32} {m L i : Nat} (hm : m ≤ 6) (hL : L ≤ 8) (hi0 : i < m) (hs : s (69 + i) = 0 ∨ s (69 + i) = 1) (h : s (75 + i) = 1) : gm s m L (75 + i) = 1 := by
  by_cases hg : goneI s i
  · rw [gm_th s m L i hm hL hi0 _ (Or.inr (Or.inr (Or.inr rfl))), if_pos hg]; exact h
  · rw [(gm_ba hm hL hi0 hs hg).2.2.2]; split
    · rfl
    · exact h
theorem burnt_n {s : Nat → Int32} {m L i : Nat} (hm : m ≤ 6) (hL : L ≤ 8) (hi0 : i < m) (hs : s (69 + i) = 0 ∨ s (69 + i) = 1) (h : s (75 + i) = 1) : ∀ n, gmN s m L n (75 + i) = 1 ∧ gmN s m L n (69 + i) = s (69 + i) := by
  intro n
  induction n with
  | zero => exact ⟨h, rfl⟩
  | succ n ih => exact ⟨burnt_s hm hL hi0 (by rw [ih.2]; exact hs) ih.1, by show gm (gmN s m L n) m L (69 + i) = _; rw [gm_69 _ _ _ _ hm hL (by omega)]; exact ih.2⟩
theorem gmN_add (s : Nat → Int32) (m L : Nat) : ∀ a b, gmN s m L (a + b) = gmN (gmN s m L a) m L b := by
  intro a b
  induction b with
  | zero => rfl
  | succ b ih => show gm (gmN s m L (a + b)) m L = gm (gmN (gmN s m L a) m L b) m L; rw [ih]
theorem rdF_burnt {s : Nat → Int32} {m L i : Nat} : ∀ r n, (∀ k, n ≤ k → gmN s m L k (75 + i) = 1) → rdF s m L i r n = -1000000 := by
  intro r
  induction r with
  | zero => intro n _; rfl
  | succ r ih =>
    intro n hn
    unfold rdF
    rw [if_neg (fun z => by have := z.2; rw [hn n (Nat.le_refl _)] at this; exact absurd this (by decide))]
    exact ih (n + 1) (fun k hk => hn k (by omega))
theorem raF_rd {y cc cf cr s0 : Nat → Int32} {L mi sk m i q : Nat} (hC : CW y cc cf cr s0 L mi sk) (hw : ∃ wd : Nat, wd ≤ 9 ∧ s0 4 = nI wd) (hm : m ≤ 6) (hi0 : i < m) (ha : AL s0 m i) : ∀ (r k : Nat) (f : Nat → Int32), k + r ≤ 900 → TR q f (gmN s0 m L k) i (mi + k) → ¬ wellI (gmN s0 m L k) i → raF y cc cf cr L q (-1000000) r k f = rdF s0 m L i r (k + 1) := by
  have hL : L ≤ 8 := hC.1.2.2.2.2.2.2.2.2
  intro r
  induction r with
  | zero => intro k f _ _ _; rfl
  | succ r ih =>
    intro k f hk t hnw
    have t2 := TR.step hC hw hm hi0 (by omega) (ha.gm hL hm hi0 k) t
    unfold raF
    by_cases z : ¬ f 7 = 0 ∨ ndK q ≤ f 3
    · rw [if_pos z]
      have hb : gmN s0 m L k (75 + i) = 1 := by
        rw [t.2.2.2.2.2.1]
        rcases t.2.2.2.2.2.2 with w | w
        · exact absurd (t.well.mp ⟨z.resolve_left (fun u => u w), w⟩) hnw
        · exact w
      exact (rdF_burnt _ _ (fun k' hk' => by
        have := (burnt_n hm hL hi0 t.2.2.2.1 hb (k' - k)).1
        rw [← gmN_add, show k + (k' - k) = k' by omega] at this
        exact this)).symm
    · rw [if_neg z]
      conv => rhs; unfold rdF
      by_cases w : wellI (gmN s0 m L (k + 1)) i
      · rw [if_pos (t2.well.mpr w), if_pos w]
      · rw [if_neg (fun u => w (t2.well.mp u)), if_neg w]
        exact ih (k + 1) _ (by omega) t2 w
theorem eq_ra {h : Hp} {b m L e mi : Nat} {s : Nat → Int32} (g : HS h b s m L e mi) (hmi : mi ≤ 800) {j w x : Nat} {v : Int32} (hj : j < m) (hw : w ≤ 60) (hx : x ≤ 12) (hv : v = nI x) (ha : AL (upd s (45 + j) v) m j) : raI h b L j v w = rdF (upd s (45 + j) v) m L j (w + 1) 0 := by
  have hm := g.2.1.1
  obtain ⟨sk, hC0⟩ := g.cw (g.is1 (by omega)) (by omega)
  have hC := hC0.upd (45 + j) v (by omega)
  have hwd : ∃ wd : Nat, wd ≤ 9 ∧ upd s (45 + j) v 4 = nI wd := by rw [upd_ne _ _ _ (by omega)]; exact g.wd
  have t := (g.tr j hj).place (by omega) hx hv
  have e0 : wellI (upd s (45 + j) v) j ↔ wellI s j := by unfold wellI thrI; rw [upd_ne _ _ _ (by omega), upd_ne _ _ _ (by omega), upd_ne _ _ _ (by omega)]
  unfold raI
  rw [rdF]
  by_cases z : wellI (gmN (upd s (45 + j) v) m L 0) j
  · rw [if_pos z]
    have d0 := t.well.mpr z
    have d1 : dnV (kq h (b + 8 + j)) (hi h (b + 8 + j)) := (g.tr j hj).well.mpr (e0.mp z)
    have ed : dn0 (kq h (b + 8 + j)) (hi h (b + 8 + j)) = 0 := if_pos d1
    rw [ed]
    cases w with
    | zero => rfl
    | succ w => unfold raF; rw [if_pos (Or.inr d0.1)]; rfl
  · rw [if_neg z]
    have ed : dn0 (kq h (b + 8 + j)) (hi h (b + 8 + j)) = -1000000 := if_neg (fun y => z (e0.mpr ((g.tr j hj).well.mp y)))
    rw [ed]
    exact raF_rd hC hwd hm hj ha w 0 _ (by omega) t z
theorem rdF_rg {s : Nat → Int32} {m L i : Nat} : ∀ r n, rdF s m L i r n = -1000000 ∨ ∃ k, n ≤ k ∧ k < n + r ∧ rdF s m L i r n = nI k := by
  intro r
  induction r with
  | zero => intro n; exact Or.inl rfl
  | succ r ih =>
    intro n
    unfold rdF
    split
    · exact Or.inr ⟨n, Nat.le_refl _, by omega, rfl⟩
    · rcases ih (n + 1) with e | ⟨k, h1, h2, e⟩
      · exact Or.inl e
      · exact Or.inr ⟨k, by omega, by omega, e⟩
/-- fewer minutes looked at: the same answer, if it comes in time -/
theorem rdF_cut {s : Nat → Int32} {m L i : Nat} : ∀ r n d, n + r + d ≤ 1000 → (rdF s m L i r n = (if ¬ rdF s m L i (r + d) n = -1000000 ∧ rdF s m L i (r + d) n < nI (n + r) then rdF s m L i (r + d) n else -1000000)) := by
  intro r
  induction r with
  | zero =>
    intro n d hd
    show (-1000000 : Int32) = _
    rw [Nat.zero_add]
    rcases rdF_rg (s := s) (m := m) (L := L) (i := i) d n with e | ⟨k, h1, h2, e⟩
    · rw [e, if_neg (fun z => z.1 rfl)]
    · rw [e, if_neg (fun z => absurd z.2 (nI_nlt (by omega) (by omega)))]
  | succ r ih =>
    intro n d hd
    rw [show r + 1 + d = (r + d) + 1 by omega]
    unfold rdF
    by_cases z : wellI (gmN s m L n) i
    · rw [if_pos z, if_pos z, if_pos ⟨nI_none (by omega), nI_lt (by omega) (by omega)⟩]
    · rw [if_neg z, if_neg z, ih (n + 1) d (by omega), show n + 1 + r = n + (r + 1) by omega]
theorem ra_none {h : Hp} {b m L e mi : Nat} {s : Nat → Int32} (g : HS h b s m L e mi) (hmi : mi ≤ 800) {j w x : Nat} {v : Int32} (hj : j < m) (hw : w ≤ 60) (hx : x ≤ 12) (hv : v = nI x) (ha : AL (upd s (45 + j) v) m j) : raI h b L j v w = if ¬ rdI (upd s (45 + j) v) m L j = -1000000 ∧ rdI (upd s (45 + j) v) m L j ≤ nI w then rdI (upd s (45 + j) v) m L j else -1000000 := by
  rw [eq_ra g hmi hj hw hx hv ha, rdF_cut (w + 1) 0 (60 - w) (by omega), show w + 1 + (60 - w) = 61 by omega]
  show (if ¬ rdI (upd s (45 + j) v) m L j = -1000000 ∧ rdI (upd s (45 + j) v) m L j < nI (0 + (w + 1)) then _ else _) = _
  have e : (rdI (upd s (45 + j) v) m L j < nI (0 + (w + 1)) ↔ rdI (upd s (45 + j) v) m L j ≤ nI w) ∨ rdI (upd s (45 + j) v) m L j = -1000000 := by
    unfold rdI
    rcases rdF_rg (s := upd s (45 + j) v) (m := m) (L := L) (i := j) 61 0 with e | ⟨k, h1, h2, e⟩
    · exact Or.inr e
    · refine Or.inl ?_
      rw [e, nI_ltI (by omega) (by omega), nI_leI (by omega) (by omega)]; omega
  rcases e with e | e
  · by_cases z : ¬ rdI (upd s (45 + j) v) m L j = -1000000 ∧ rdI (upd s (45 + j) v) m L j ≤ nI w
    · rw [if_pos ⟨z.1, e.mpr z.2⟩, if_pos z]; rfl
    · rw [if_neg (fun y => z ⟨y.1, e.mp y.2⟩), if_neg z]
  · rw [if_neg (fun y => y.1 e), if_neg (fun y => y.1 e)]
theorem eq_ready {h : Hp} {b m L e mi : Nat} {s : Nat → Int32} (g : HS h b s m L e mi) (hmi : mi ≤ 800) {j : Nat} (hj : j < m) (hg : ¬ hi h (b + 8 + j) 2 = 13) : raI h b L j (hi h (b + 8 + j) 2) 60 = rdI s m L j := by
  have hm := g.2.1.1
  rcases (g.tr j hj).2.1 with ⟨p1, p2⟩ | ⟨x, hx, p1, p2⟩
  · exact absurd p1 hg
  · have e : upd s (45 + j) (hi h (b + 8 + j) 2) = s := upd_self (p2.trans p1.symm)
    rw [eq_ra g hmi hj (Nat.le_refl _) hx p1 (by rw [e]; exact g.2.2.2.2.2.2.1 j hj), e]; rfl
theorem eq_rdC {h : Hp} {b m L e mi : Nat} {s : Nat → Int32} (g : HS h b s m L e mi) (hmi : mi ≤ 800) {j k w : Nat} (hj : j < m) (hk : k < 12) (hw : w ≤ 60) : (if opC (plF h b) m j (nI k) then raI h b L j (nI k) w else -1000000) = if ¬ rdC s m L j k = -1000000 ∧ rdC s m L j k ≤ nI w then rdC s m L j k else -1000000 := by
  have ho := open_iff g hj (cell := nI k) ⟨nI_pos' (by omega), nI_le (a := k) (b := 12) (by omega) (by decide)⟩
  unfold rdC
  by_cases z : takI s m j (nI k)
  · rw [if_neg (fun y => ho.mp y z), if_pos z, if_neg (fun y => y.1 rfl)]
  · rw [if_pos (ho.mpr z), if_neg z, ra_none g hmi hj hw (by omega) rfl (AL.put z hj)]
theorem rdC_rg {s : Nat → Int32} {m L j k : Nat} : rdC s m L j k = -1000000 ∨ ∃ n, n ≤ 60 ∧ rdC s m L j k = nI n := by
  unfold rdC
  split
  · exact Or.inl rfl
  · unfold rdI
    rcases rdF_rg (s := upd s (45 + j) (nI k)) (m := m) (L := L) (i := j) 61 0 with e | ⟨n, h1, h2, e⟩
    · exact Or.inl e
    · exact Or.inr ⟨n, by omega, e⟩
theorem eq_inTime {h : Hp} {b m L e mi : Nat} {s : Nat → Int32} (g : HS h b s m L e mi) (hmi : mi ≤ 800) {j w : Nat} (hj : j < m) (hw : w ≤ 60) : ∀ k, k ≤ 12 → itC h b m L j w k = itS s m L j (nI w) k := by
  intro k
  induction k with
  | zero => intro _; rfl
  | succ k ih =>
    intro hk
    have e := eq_rdC g hmi hj (show k < 12 by omega) hw
    unfold itC itS
    rw [ih (by omega)]
    by_cases z : ¬ rdC s m L j k = -1000000 ∧ rdC s m L j k ≤ nI w
    · rw [if_pos z] at e
      rw [if_pos (c := ¬ rdC s m L j k = -1000000 ∧ rdC s m L j k ≤ nI w) z]
      by_cases y : opC (plF h b) m j (nI k)
      · rw [if_pos y] at e
        rw [if_pos ⟨y, by rw [e]; exact z.1⟩]
      · rw [if_neg y] at e; exact absurd e.symm z.1
    · rw [if_neg z] at e
      rw [if_neg (c := ¬ rdC s m L j k = -1000000 ∧ rdC s m L j k ≤ nI w) z, Int32.or_zero]
      rw [if_neg]
      rintro ⟨y1, y2⟩
      rw [if_pos y1] at e
      exact y2 e
theorem eq_where {h : Hp} {b m L e mi : Nat} {s : Nat → Int32} (g : HS h b s m L e mi) (hmi : mi ≤ 800) {j : Nat} (hj : j < m) : ∀ k, k ≤ 12 → (wcP h b m L j k).1 = (whP s m L j k).1 ∧ (((whP s m L j k).1 = -1000000 ∧ (wcP h b m L j k).2 = 61) ∨ (¬ (whP s m L j k).1 = -1000000 ∧ (wcP h b m L j k).2 ≤ 60 ∧ (whP s m L j k).2 = nI (wcP h b m L j k).2)) := by
  intro k
  induction k with
  | zero => intro _; exact ⟨rfl, Or.inl ⟨rfl, rfl⟩⟩
  | succ k ih =>
    intro hk
    obtain ⟨i1, i2⟩ := ih (by omega)
    have hle := wcP_le h b m L j k
    unfold wcP whP
    by_cases z0 : (wcP h b m L j k).2 = 0
    · rw [if_pos z0]
      rcases i2 with ⟨_, w⟩ | ⟨w1, w2, w3⟩
      · omega
      · rw [if_neg]
        · exact ⟨i1, Or.inr ⟨w1, w2, w3⟩⟩
        · rintro ⟨y1, y2⟩
          rcases y2 with y2 | y2
          · exact w1 y2
          · rw [w3, z0] at y2
            rcases rdC_rg (s := s) (m := m) (L := L) (j := j) (k := k) with e | ⟨n, hn, e⟩
            · exact y1 e
            · rw [e] at y2; exact absurd y2 (nI_nlt (by omega) (by omega))
    · rw [if_neg z0]
      have e := eq_rdC g hmi hj (show k < 12 by omega) (w := (wcP h b m L j k).2 - 1) (by omega)
      have key : isW (rdC s m L j k) (whP s m L j k).1 (whP s m L j k).2 ↔ (¬ rdC s m L j k = -1000000 ∧ rdC s m L j k ≤ nI ((wcP h b m L j k).2 - 1)) := by
        unfold isW
        rcases rdC_rg (s := s) (m := m) (L := L) (j := j) (k := k) with er | ⟨n, hn, er⟩
        · rw [er]; exact ⟨fun y => absurd rfl y.1, fun y => absurd rfl y.1⟩
        · rw [er, nI_leI (by omega) (by omega)]
          rcases i2 with ⟨w1, w2⟩ | ⟨w1, w2, w3⟩
          · exact ⟨fun y => ⟨y.1, by omega⟩, fun y => ⟨y.1, Or.inl w1⟩⟩
          · rw [w3, nI_ltI (by omega) (by omega)]
            exact ⟨fun y => ⟨y.1, by rcases y.2 with u | u; exact absurd u w1; omega⟩, fun y => ⟨y.1, Or.inr (by omega)⟩⟩
      by_cases z : ¬ rdC s m L j k = -1000000 ∧ rdC s m L j k ≤ nI ((wcP h b m L j k).2 - 1)
      · rw [if_pos z] at e
        rw [if_pos (key.mpr z)]
        by_cases y : opC (plF h b) m j (nI k)
        · rw [if_pos y] at e
          rw [if_pos y, if_neg (by rw [e]; exact z.1), e]
          refine ⟨rfl, Or.inr ⟨nI_none (by omega), ?_⟩⟩
          rcases rdC_rg (s := s) (m := m) (L := L) (j := j) (k := k) with er | ⟨n, hn, er⟩
          · exact absurd er z.1
          · dsimp only
            rw [er, nI_clamp (by omega)]; exact ⟨hn, rfl⟩
        · rw [if_neg y] at e; exact absurd e.symm z.1
      · rw [if_neg z] at e
        rw [if_neg (fun y => z (key.mp y))]
        by_cases y : opC (plF h b) m j (nI k)
        · rw [if_pos y] at e
          rw [if_pos y, if_pos e]; exact ⟨i1, i2⟩
        · rw [if_neg y]; exact ⟨i1, i2⟩
