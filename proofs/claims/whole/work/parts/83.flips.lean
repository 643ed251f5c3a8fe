/-! the fewest turns (by hand) -/
theorem popc_add : ∀ k, k < 12 → ∀ w, w < 2 ^ k → popc (w + 2 ^ k) = popc w + 1 := by decide +kernel
theorem sh_k : ∀ k, k < 12 → ((nI k &&& 31).toBitVec.smod 32).toNat = k := by decide
theorem bitI {k w : Nat} (hk : k < 12) (hw : w < 4096) : (nI w >>> (nI k &&& 31)) &&& 1 = nI (w / 2 ^ k % 2) := by
  rw [pk_shrN (by omega) _ k (sh_k k hk)]
  have : w / 2 ^ k ≤ w := Nat.div_le_self _ _
  exact pk_andN (by omega) 1 rfl
def flg (s : Nat → Int32) (t b : Nat) : Nat → Int32 := if b = 0 then s else upd s (69 + t) (1 - s (69 + t))
def Vn (s : Nat → Int32) (m L t : Nat) : Nat → Nat → Nat → Int32
  | 0, _ => s
  | k + 1, w => gm (flg (Vn s m L t k (w % 2 ^ k)) t (w / 2 ^ k % 2)) m L
abbrev bt2 (y z : Nat) : Prop := popc y < popc z ∨ (popc y = popc z ∧ y < z)
abbrev leq (y z : Nat) : Prop := y = z ∨ bt2 y z
theorem leq_tr {x y z : Nat} (h1 : leq x y) (h2 : leq y z) : leq x z := by
  unfold leq bt2 at *
  rcases h1 with rfl | h1
  · exact h2
  · rcases h2 with rfl | h2
    · exact Or.inr h1
    · omega
theorem leq_as {x y : Nat} (h1 : leq x y) (h2 : leq y x) : x = y := by
  unfold leq bt2 at *; omega
theorem betB_iff {o : Option Nat} {w : Nat} : betB o w = true ↔ ∀ z, o = some z → bt2 w z := by
  cases o with
  | none => exact ⟨fun _ z hz => (by cases hz), fun _ => rfl⟩
  | some z =>
    show decide _ = true ↔ _
    rw [decide_eq_true_eq]
    exact ⟨fun h y hy => by cases hy; exact h, fun h => h z rfl⟩
def lf (n : Nat) : Nat → Nat → Nat → Prop
  | 0, w, z => z = w
  | r + 1, w, z => lf n r w z ∨ lf n r (w + 2 ^ (n - (r + 1))) z
theorem lf_mono {n : Nat} (hn : n ≤ 12) : ∀ r, r ≤ n → ∀ w z, w < 2 ^ (n - r) → lf n r w z → z < 2 ^ n ∧ (z = w ∨ popc w < popc z) := by
  intro r
  induction r with
  | zero => intro _ w z hw h; have : z = w := h; subst this; exact ⟨hw, Or.inl rfl⟩
  | succ r ih =>
    intro hr w z hw h
    have hp := pow_s hr
    rcases h with h | h
    · exact ih (by omega) w z (by omega) h
    · obtain ⟨h1, h2⟩ := ih (by omega) _ z (by omega) h
      have e := popc_add (n - (r + 1)) (by omega) w hw
      refine ⟨h1, Or.inr ?_⟩
      rcases h2 with rfl | h2 <;> omega
theorem lf_all {n z : Nat} (hz : z < 2 ^ n) : ∀ r, r ≤ n → lf n r (z % 2 ^ (n - r)) z := by
  intro r
  induction r with
  | zero => intro _; exact (Nat.mod_eq_of_lt hz).symm
  | succ r ih =>
    intro hr
    have h := ih (by omega)
    have e : n - r = (n - (r + 1)) + 1 := by omega
    rw [e, Nat.mod_pow_succ] at h
    rcases Nat.mod_two_eq_zero_or_one (z / 2 ^ (n - (r + 1))) with q | q
    · rw [q, Nat.mul_zero, Nat.add_zero] at h; exact Or.inl h
    · rw [q, Nat.mul_one] at h; exact Or.inr h
section Fl
variable {s : Nat → Int32} {m L t : Nat}
theorem Vn_0 {k w : Nat} (hw : w < 2 ^ k) : Vn s m L t (k + 1) w = gm (Vn s m L t k w) m L := by
  show gm (flg (Vn s m L t k (w % 2 ^ k)) t (w / 2 ^ k % 2)) m L = _
  rw [Nat.mod_eq_of_lt hw, Nat.div_eq_of_lt hw]; rfl
theorem Vn_1 {k w : Nat} (hw : w < 2 ^ k) : Vn s m L t (k + 1) (w + 2 ^ k) = gm (upd (Vn s m L t k w) (69 + t) (1 - Vn s m L t k w (69 + t))) m L := by
  show gm (flg (Vn s m L t k ((w + 2 ^ k) % 2 ^ k)) t ((w + 2 ^ k) / 2 ^ k % 2)) m L = _
  rw [Nat.add_mod_right, Nat.mod_eq_of_lt hw, Nat.add_div_right _ (by omega), Nat.div_eq_of_lt hw]; rfl
theorem Vn_lo (hL : L ≤ 8) (ht : t < 6) : ∀ k w i, i < 51 → i ≠ 19 → ¬ (29 ≤ i ∧ i < 45) → Vn s m L t k w i = s i := by
  intro k
  induction k with
  | zero => intro w i _ _ _; rfl
  | succ k ih =>
    intro w i h1 h2 h3
    show gm (flg _ t _) m L i = _
    rw [gm_lo _ _ _ _ h1 h2 h3 hL]
    unfold flg
    split
    · exact ih _ i h1 h2 h3
    · rw [upd_ne _ _ _ (by omega)]; exact ih _ i h1 h2 h3
theorem Vn_ce (hL : L ≤ 8) : ∀ k w i, i < 45 → Vn s m L t k w i = gmN s m L k i := by
  intro k
  induction k with
  | zero => intro w i _; rfl
  | succ k ih =>
    intro w i hi0
    refine gm_ce hL (fun i hi1 => ?_) i hi0
    unfold flg
    split
    · exact ih _ i hi1
    · rw [upd_ne _ _ _ (by omega)]; exact ih _ i hi1
/-- a thing on the grate, a minute on, by its four numbers -/
theorem chI {v F : Nat → Int32} {mi sk q : Nat} {cell : Int32} (hC : CO v L mi sk) (hm : m ≤ 6) (ht : t < m) (ha : AL v m t) (tr : TR q F v t mi) (hF : F 2 = cell) (hin : inC cell) :
    belowI (gm v m L) t = fmL q (warm v cell L) (windI v cell) (belowI v t) ∧ aboveI (gm v m L) t = fmU (aboveI v t) ∧ gm v m L (51 + t) = fmC q (warm v cell L) (windI v cell) (belowI v t) (aboveI v t) (v (51 + t)) ∧ gm v m L (75 + t) = (if ¬ v (75 + t) = 0 ∨ fmB q (warm v cell L) (windI v cell) (belowI v t) (aboveI v t) then 1 else 0) := by
  have t2 := TR.on1 hC hm ht ha tr (by rw [hF]; exact hin)
  rw [hF] at t2
  obtain ⟨lo, up, _, ⟨f4, f5⟩, ⟨g4, g5⟩, _⟩ := tr.2.2.2.2.1
  obtain ⟨lo2, up2, _, ⟨f42, f52⟩, ⟨g42, g52⟩, _⟩ := t2.2.2.2.2.1
  have e4 : F 4 = belowI v t := f4.trans g4.symm
  have e5 : F 5 = aboveI v t := f5.trans g5.symm
  refine ⟨?_, ?_, ?_, ?_⟩
  · rw [g42, ← f42, ro_4, e4]
  · rw [g52, ← f52, ro_5, e5]
  · rw [t2.2.2.1, ro_3, e4, e5, tr.2.2.1]
  · rw [t2.2.2.2.2.2.1, ro_7, e4, e5, tr.2.2.2.2.2.1]
/-- each node has a thing that stands for it -/
theorem Vn_tr {f : Nat → Int32} {mi sk q : Nat} {cell : Int32} (hC : CO s L mi sk) (hm : m ≤ 6) (ht : t < m) (ha : AL s m t) (tr : TR q f s t mi) (hf : f 2 = cell) (hin : inC cell) : ∀ k, mi + k ≤ 900 → ∀ w, CO (Vn s m L t k w) L (mi + k) sk ∧ AL (Vn s m L t k w) m t ∧ ∃ F, TR q F (Vn s m L t k w) t (mi + k) ∧ F 2 = cell := by
  have hL : L ≤ 8 := hC.1.2.2.2.2.2
  intro k
  induction k with
  | zero => intro _ w; exact ⟨hC, ha, f, tr, hf⟩
  | succ k ih =>
    intro hk w
    obtain ⟨c1, c2, F, c3, c4⟩ := ih (by omega) (w % 2 ^ k)
    have step : ∀ v, CO v L (mi + k) sk → AL v m t → (∃ F, TR q F v t (mi + k) ∧ F 2 = cell) → CO (gm v m L) L (mi + (k + 1)) sk ∧ AL (gm v m L) m t ∧ ∃ F, TR q F (gm v m L) t (mi + (k + 1)) ∧ F 2 = cell := by
      intro v d1 d2 ⟨F, d3, d4⟩
      refine ⟨d1.run m 1 (by omega), d2.gm hL hm ht 1, _, TR.on1 d1 hm ht d2 d3 (by rw [d4]; exact hin), ?_⟩
      rw [ro_2, d4]
    refine step _ ?_ ?_ ?_
    · unfold flg; split
      · exact c1
      · exact c1.upd _ _ (by omega)
    · unfold flg; split
      · exact c2
      · exact c2.cg ht (fun u hu => upd_ne _ _ _ (by omega))
    · unfold flg; split
      · exact ⟨F, c3, c4⟩
      · exact ⟨flipV F, c3.flip, c4⟩
end Fl
section Fm
variable {s W : Nat → Int32} {m L t n q mi sk : Nat} {cell wi : Int32} {f : Nat → Int32}
/-- burnt: nothing below is well -/
theorem brn (hC : CO s L mi sk) (hm : m ≤ 6) (ht : t < m) (ha : AL s m t) (tr : TR q f s t mi) (hf : f 2 = cell) (hin : inC cell) (hn : n ≤ 12) (hmi : mi ≤ 800) : ∀ r, r ≤ n → ∀ w z, w < 2 ^ (n - r) → Vn s m L t (n - r) w (75 + t) = 1 → lf n r w z → ¬ wellI (Vn s m L t n z) t := by
  intro r
  induction r with
  | zero => intro _ w z _ hb h; have : z = w := h; subst this; exact fun y => by have := y.2; rw [show n - 0 = n from rfl] at hb; rw [hb] at this; exact absurd this (by decide)
  | succ r ih =>
    intro hr w z hw hb h
    have e : n - r = (n - (r + 1)) + 1 := by omega
    have hp := pow_s hr
    obtain ⟨c1, c2, F, c3, c4⟩ := Vn_tr hC hm ht ha tr hf hin (n - (r + 1)) (by omega) w
    rcases h with h | h
    · refine ih (by omega) w z (by omega) ?_ h
      rw [e, Vn_0 hw, (chI c1 hm ht c2 c3 c4 hin).2.2.2, if_pos (Or.inl (by rw [hb]; decide))]
    · refine ih (by omega) _ z (by omega) ?_ h
      rw [e, Vn_1 hw, (chI (c1.upd (69 + t) _ (by omega)) hm ht (c2.cg ht (fun u hu => upd_ne _ _ _ (by omega))) c3.flip c4 hin).2.2.2, if_pos (Or.inl (by rw [upd_ne _ _ _ (by omega), hb]; decide))]
def GD (s : Nat → Int32) (m L t n : Nat) (P : Nat → Prop) (o R : Option Nat) : Prop :=
  (R = o ∨ ∃ z, R = some z ∧ P z ∧ wellI (Vn s m L t n z) t) ∧ (∀ z, P z → wellI (Vn s m L t n z) t → ∃ y, R = some y ∧ leq y z) ∧ ∀ y0, o = some y0 → ∃ y, R = some y ∧ leq y y0
theorem GD.two {P P' : Nat → Prop} {o o1 R : Option Nat} (h1 : GD s m L t n P o o1) (h2 : GD s m L t n P' o1 R) : GD s m L t n (fun z => P z ∨ P' z) o R := by
  obtain ⟨a1, a2, a3⟩ := h1
  obtain ⟨b1, b2, b3⟩ := h2
  refine ⟨?_, ?_, ?_⟩
  · rcases b1 with rfl | ⟨z, e, p, g⟩
    · rcases a1 with rfl | ⟨z, e, p, g⟩
      · exact Or.inl rfl
      · exact Or.inr ⟨z, e, Or.inl p, g⟩
    · exact Or.inr ⟨z, e, Or.inr p, g⟩
  · intro z hp g
    rcases hp with hp | hp
    · obtain ⟨y1, e1, l1⟩ := a2 z hp g
      obtain ⟨y, e2, l2⟩ := b3 y1 e1
      exact ⟨y, e2, leq_tr l2 l1⟩
    · exact b2 z hp g
  · intro y0 h0
    obtain ⟨y1, e1, l1⟩ := a3 y0 h0
    obtain ⟨y, e2, l2⟩ := b3 y1 e1
    exact ⟨y, e2, leq_tr l2 l1⟩
theorem tf_good (hC : CO s L mi sk) (hm : m ≤ 6) (ht : t < m) (ha : AL s m t) (tr : TR q f s t mi) (hf : f 2 = cell) (hin : inC cell) (hn : n ≤ 12) (hmi : mi ≤ 800) (hW : ∀ k, k < n → W k = warm (gmN s m L k) cell L) (hwi : wi = windI s cell) :
    ∀ r, r ≤ n → ∀ w o, w < 2 ^ (n - r) → Vn s m L t (n - r) w (75 + t) = 0 → GD s m L t n (lf n r w) o (tfF W wi q n r w (belowI (Vn s m L t (n - r) w) t) (aboveI (Vn s m L t (n - r) w) t) (Vn s m L t (n - r) w (51 + t)) o) := by
  have hL : L ≤ 8 := hC.1.2.2.2.2.2
  -- pruning
  have prune : ∀ r, r ≤ n → ∀ w o, w < 2 ^ (n - r) → ¬ betB o w = true → GD s m L t n (lf n r w) o o := by
    intro r hr w o hw hb
    have hb2 : ∃ z0, o = some z0 ∧ ¬ bt2 w z0 := by
      cases o with
      | none => exact absurd rfl hb
      | some z0 => exact ⟨z0, rfl, fun y => hb (betB_iff.mpr (fun z hz => by cases hz; exact y))⟩
    obtain ⟨z0, rfl, hz⟩ := hb2
    refine ⟨Or.inl rfl, fun z hp _ => ⟨z0, rfl, ?_⟩, fun y0 h0 => ⟨y0, h0, Or.inl rfl⟩⟩
    obtain ⟨_, h2⟩ := lf_mono hn r hr w z hw hp
    unfold leq bt2 at *
    rcases h2 with rfl | h2
    · rcases Nat.lt_trichotomy z0 z with x | x | x
      · omega
      · exact Or.inl x
      · omega
    · omega
  intro r
  induction r with
  | zero =>
    intro hr w o hw hb
    unfold tfF
    by_cases hB : betB o w = true
    · rw [if_pos hB]
      obtain ⟨c1, c2, F, c3, c4⟩ := Vn_tr hC hm ht ha tr hf hin (n - 0) (by omega) w
      have hw0 : wellI (Vn s m L t n w) t ↔ ndK q ≤ Vn s m L t (n - 0) w (51 + t) := by
        show wellI (Vn s m L t (n - 0) w) t ↔ _
        unfold wellI thrI
        rw [hb, c3.1.2.2, ndK_n c3.1.1 c3.1.2.1]
        exact ⟨fun y => y.1, fun y => ⟨y, rfl⟩⟩
      by_cases hz : ndK q ≤ Vn s m L t (n - 0) w (51 + t)
      · rw [if_pos hz]
        refine ⟨Or.inr ⟨w, rfl, rfl, hw0.mpr hz⟩, fun z hp _ => ⟨w, rfl, Or.inl (show z = w from hp).symm⟩, fun y0 h0 => ⟨w, rfl, Or.inr (betB_iff.mp hB y0 h0)⟩⟩
      · rw [if_neg hz]
        exact ⟨Or.inl rfl, fun z hp g => absurd (hw0.mp (by have : z = w := hp; subst this; exact g)) hz, fun y0 h0 => ⟨y0, h0, Or.inl rfl⟩⟩
    · rw [if_neg hB]; exact prune 0 hr w o hw hB
  | succ r ih =>
    intro hr w o hw hb
    unfold tfF
    by_cases hB : betB o w = true
    · rw [if_pos hB]
      have e : n - r = (n - (r + 1)) + 1 := by omega
      have hp := pow_s hr
      obtain ⟨c1, c2, F, c3, c4⟩ := Vn_tr hC hm ht ha tr hf hin (n - (r + 1)) (by omega) w
      have lo45 := Vn_ce (s := s) (m := m) (t := t) hL (n - (r + 1)) w
      have eW : warm (Vn s m L t (n - (r + 1)) w) cell L = W (n - (r + 1)) := by
        rw [hW _ (by omega)]; exact warm_ce L hL (fun c hc => ⟨lo45 _ (by omega), lo45 _ (by omega), lo45 _ (by omega)⟩)
      have ewi : windI (Vn s m L t (n - (r + 1)) w) cell = wi := by
        rw [hwi]; unfold windI; rw [lo45 4 (by decide), gmN_lo _ _ _ _ _ (by decide) (by decide) (by decide) hL]
      -- a child
      have child : ∀ (v : Nat → Int32) (w' : Nat) (o' : Option Nat), w' < 2 ^ (n - r) → Vn s m L t (n - r) w' = gm v m L → CO v L (mi + (n - (r + 1))) sk → AL v m t → (∃ F, TR q F v t (mi + (n - (r + 1))) ∧ F 2 = cell) → v (75 + t) = 0 → warm v cell L = W (n - (r + 1)) → windI v cell = wi → GD s m L t n (lf n r w') o' (tmF (fun a b c z => tfF W wi q n r w' a b c z) q (W (n - (r + 1))) wi (belowI v t) (aboveI v t) (v (51 + t)) o') := by
        intro v w' o' hw' hv d1 d2 ⟨G, d3, d4⟩ hb' hx1 hx2
        obtain ⟨k1, k2, k3, k4⟩ := chI d1 hm ht d2 d3 d4 hin
        rw [hx1, hx2] at k1 k3 k4
        unfold tmF
        by_cases hz : fmB q (W (n - (r + 1))) wi (belowI v t) (aboveI v t)
        · rw [if_pos hz]
          have hburn : Vn s m L t (n - r) w' (75 + t) = 1 := by rw [hv, k4, if_pos (Or.inr hz)]
          exact ⟨Or.inl rfl, fun z hp g => absurd g (brn hC hm ht ha tr hf hin hn hmi r (by omega) w' z hw' hburn hp), fun y0 h0 => ⟨y0, h0, Or.inl rfl⟩⟩
        · rw [if_neg hz]
          have hnb : Vn s m L t (n - r) w' (75 + t) = 0 := by rw [hv, k4, if_neg (fun y => y.elim (fun u => u hb') hz)]
          have z := ih (by omega) w' o' hw' hnb
          rw [hv, k1, k2, k3] at z
          exact z
      have g1 := child (Vn s m L t (n - (r + 1)) w) w o (by omega) (by rw [e]; exact Vn_0 hw) c1 c2 ⟨F, c3, c4⟩ hb eW ewi
      obtain ⟨bf1, bf2⟩ := ba_flip c3.2.2.2.1
      have g2 := child (upd (Vn s m L t (n - (r + 1)) w) (69 + t) (1 - Vn s m L t (n - (r + 1)) w (69 + t))) (w + 2 ^ (n - (r + 1))) (tmF (fun a b c z => tfF W wi q n r w a b c z) q (W (n - (r + 1))) wi (belowI (Vn s m L t (n - (r + 1)) w) t) (aboveI (Vn s m L t (n - (r + 1)) w) t) (Vn s m L t (n - (r + 1)) w (51 + t)) o) (by omega) (by rw [e]; exact Vn_1 hw) (c1.upd (69 + t) _ (by omega)) (c2.cg ht (fun u hu => upd_ne _ _ _ (by omega))) ⟨flipV F, c3.flip, c4⟩ (by rw [upd_ne _ _ _ (by omega)]; exact hb) (by rw [← eW]; exact warm_ce L hL (fun c hc => ⟨upd_ne _ _ _ (by omega), upd_ne _ _ _ (by omega), upd_ne _ _ _ (by omega)⟩)) (by rw [← ewi]; unfold windI; rw [upd_ne _ _ _ (by omega)])
      rw [bf1, bf2, upd_ne _ _ _ (by omega)] at g2
      exact g1.two g2
    · rw [if_neg hB]; exact prune (r + 1) hr w o hw hB
theorem tbN_V (hC : CO s L mi sk) (hm : m ≤ 6) (ht : t < m) (ha : AL s m t) (tr : TR q f s t mi) (hf : f 2 = cell) (hin : inC cell) (hmi : mi ≤ 800) {w : Nat} (hw : w < 4096) : ∀ k, k ≤ 12 → tbN s m L t (nI w) k = Vn s m L t k (w % 2 ^ k) := by
  intro k
  induction k with
  | zero => intro _; rfl
  | succ k ih =>
    intro hk
    have i := ih (by omega)
    obtain ⟨c1, c2, F, c3, c4⟩ := Vn_tr hC hm ht ha tr hf hin k (by omega) (w % 2 ^ k)
    have hlt : w % 2 ^ k < 2 ^ k := Nat.mod_lt _ (Nat.pos_of_ne_zero (fun z => by have := Nat.one_le_two_pow (n := k); omega))
    unfold tbN
    rw [i, bitI (by omega) hw, Nat.mod_pow_succ]
    rcases Nat.mod_two_eq_zero_or_one (w / 2 ^ k) with z | z
    · rw [z, Nat.mul_zero, Nat.add_zero (w % 2 ^ k), Vn_0 hlt]
      congr 1
      refine upd_self ?_
      show _ = _ ^^^ nI 0
      rcases c3.2.2.2.1 with y | y <;> rw [y] <;> decide
    · rw [z, Nat.mul_one, Vn_1 hlt]
      congr 2
      rcases c3.2.2.2.1 with y | y <;> rw [y] <;> decide
theorem flB_good {G : Nat → Prop} (hG : ∀ z, z < 4096 → (wellI (tbN s m L t (nI z) n) t ↔ G z)) : ∀ Q, Q ≤ 4096 → (∀ b, flB s m L t n Q = some b → G b ∧ b < Q) ∧ ∀ z, z < Q → G z → ∃ b, flB s m L t n Q = some b ∧ leq b z := by
  intro Q
  induction Q with
  | zero => intro _; exact ⟨fun b h => (by cases h), fun z hz => absurd hz (Nat.not_lt_zero _)⟩
  | succ Q ih =>
    intro hQ
    obtain ⟨a1, a2⟩ := ih (by omega)
    unfold flB
    by_cases hz : mayB (flB s m L t n Q) Q = true ∧ wellI (tbN s m L t (nI Q) n) t
    · rw [if_pos hz]
      have gQ := (hG Q (by omega)).mp hz.2
      refine ⟨fun b h => by cases h; exact ⟨gQ, by omega⟩, fun z hzQ g => ⟨Q, rfl, ?_⟩⟩
      by_cases e : z = Q
      · exact Or.inl e.symm
      · obtain ⟨b, e1, l1⟩ := a2 z (by omega) g
        have hmay := hz.1
        rw [e1] at hmay
        have : popc Q < popc b := of_decide_eq_true hmay
        exact leq_tr (Or.inr (Or.inl this)) l1
    · rw [if_neg hz]
      refine ⟨fun b h => ⟨(a1 b h).1, by have := (a1 b h).2; omega⟩, fun z hzQ g => ?_⟩
      by_cases e : z = Q
      · subst e
        have hm2 : ¬ mayB (flB s m L t n z) z = true := fun y => hz ⟨y, (hG z (by omega)).mpr g⟩
        cases hq : flB s m L t n z with
        | none => rw [hq] at hm2; exact absurd rfl hm2
        | some b =>
          rw [hq] at hm2
          have hp : ¬ popc z < popc b := fun y => hm2 (decide_eq_true y)
          have hb := (a1 b hq).2
          exact ⟨b, rfl, Or.inr (by unfold bt2; omega)⟩
      · exact a2 z (by omega) g
end Fm
theorem eq_flips {h : Hp} {b m L e mi : Nat} {s : Nat → Int32} (g : HS h b s m L e mi) (hb : b = 17 ∨ b = 31) (hmi : mi ≤ 700) {j n : Nat} {what : Int32} (hj : j < m) (hin : inC (hi h (b + 8 + j) 2)) (hn : n ≤ 12) (hw : 0 ≤ what ∧ what ≤ 1) : cfR (cfO h b L j n) what = flR s m L j n what := by
  have hm := g.2.1.1
  have hL := g.2.1.2.1
  obtain ⟨sk, hC⟩ := g.cw (g.is1 (by omega)) (by omega)
  have hO := hC.co g.wd
  have tr := g.tr j hj
  have ha := g.2.2.2.2.2.2.1 j hj
  have hp12 := pow12 n hn
  have hV : ∀ z, z < 4096 → (wellI (tbN s m L j (nI z) n) j ↔ wellI (Vn s m L j n (z % 2 ^ n)) j) := fun z hz => by
    rw [tbN_V hO hm hj ha tr rfl hin (by omega) hz n (by omega)]
  have fb := flB_good hV (2 ^ n) hp12
  have eqO : cfO h b L j n = flB s m L j n (2 ^ n) := by
    obtain ⟨a1, a2⟩ := fb
    unfold cfO
    rcases tr.2.2.2.2.2.2 with z | z
    · rw [if_pos z]
      obtain ⟨lo, up, _, ⟨f4, f5⟩, ⟨g4, g5⟩, _⟩ := tr.2.2.2.2.1
      have gd := tf_good (W := hi (fwH h b L (hi h (b + 8 + j) 2) n) 49) (wi := windV (hi h b) (hi h (b + 8 + j) 2)) hO hm hj ha tr rfl hin hn (by omega) (fun k hk => by rw [fwH_49 hk]; exact wmV_n m hC _ k (by omega)) (by unfold windV windI; rw [hC.1.2.2.2.2.1]) n (Nat.le_refl _) 0 none (by rw [Nat.sub_self]; decide) (by rw [Nat.sub_self]; show s (75 + j) = 0; rw [tr.2.2.2.2.2.1]; exact z)
      rw [Nat.sub_self] at gd
      have gd : GD s m L j n (lf n n 0) none (tfF (hi (fwH h b L (hi h (b + 8 + j) 2) n) 49) (windV (hi h b) (hi h (b + 8 + j) 2)) (kq h (b + 8 + j)) n n 0 (belowI s j) (aboveI s j) (s (51 + j)) none) := gd
      rw [g4, g5, tr.2.2.1, ← f4, ← f5] at gd
      obtain ⟨b1, b2, b3⟩ := gd
      have all : ∀ y, y < 2 ^ n → lf n n 0 y := fun y hy => by have := lf_all hy n (Nat.le_refl _); rw [Nat.sub_self, Nat.pow_zero, Nat.mod_one] at this; exact this
      rcases b1 with b1 | ⟨y, e1, p1, w1⟩
      · rw [b1]
        cases hq : flB s m L j n (2 ^ n) with
        | none => rfl
        | some x =>
          obtain ⟨x1, x2⟩ := a1 x hq
          rw [Nat.mod_eq_of_lt x2] at x1
          obtain ⟨y, e1, _⟩ := b2 x (all x x2) x1
          rw [b1] at e1; cases e1
      · obtain ⟨p2, _⟩ := lf_mono hn n (Nat.le_refl _) 0 y (by rw [Nat.sub_self]; decide) p1
        obtain ⟨x, e2, l2⟩ := a2 y p2 (by rw [Nat.mod_eq_of_lt p2]; exact w1)
        obtain ⟨x1, x2⟩ := a1 x e2
        rw [Nat.mod_eq_of_lt x2] at x1
        obtain ⟨y', e3, l3⟩ := b2 x (all x x2) x1
        rw [e1] at e3
        cases e3
        rw [e1, e2, leq_as l2 l3]
    · rw [if_neg (by rw [z]; decide)]
      cases hq : flB s m L j n (2 ^ n) with
      | none => rfl
      | some x =>
        obtain ⟨x1, x2⟩ := a1 x hq
        have hlf : lf n n 0 x := by have := lf_all x2 n (Nat.le_refl _); rw [Nat.sub_self, Nat.pow_zero, Nat.mod_one] at this; exact this
        rw [Nat.mod_eq_of_lt x2] at x1
        exact absurd x1 (brn hO hm hj ha tr rfl hin hn (by omega) n (Nat.le_refl _) 0 x (by rw [Nat.sub_self]; decide) (by rw [Nat.sub_self]; show s (75 + j) = 1; rw [tr.2.2.2.2.2.1]; exact z) hlf)
  rw [eqO]
  unfold flR cfR
  cases flB s m L j n (2 ^ n) with
  | none => rfl
  | some x =>
    dsimp only
    by_cases z : what = 0
    · rw [if_pos z, if_neg (by rw [z]; decide)]
    · rw [if_neg z, if_pos (one_of hw z)]
