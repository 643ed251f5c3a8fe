/-! the algebra of heaps; loops -/
theorem wp_pick {d M : Nat} {Q : Option AV → Hp → Prop} {kc ks pc : Nat} {ls ls' : List (Nat × AV)} {st : List AV} {h : Hp} (ps : List Nat) (hk : ps.map (fun k => ls[k]?) = ls'.map some) (kk : wp d M Q kc ks pc ls' st h) : wp d M Q kc ks pc ls st h := by
  intro p l e R s m args below meth c A Z E ad H locs lsC K G D hl g1 g2
  refine kk p l e R s m args below meth c A Z E ad H locs lsC K G D ⟨hl.1, hl.2.1, fun q hq => hl.2.2 q ?_⟩ g1 g2
  obtain ⟨z, hz, rfl⟩ := List.mem_map.mp hq
  have h1 : some z ∈ ps.map (fun k => ls[k]?) := by rw [hk]; exact List.mem_map.mpr ⟨z, hz, rfl⟩
  obtain ⟨k, -, hk2⟩ := List.mem_map.mp h1
  exact List.mem_map.mpr ⟨z, List.mem_of_getElem? hk2, rfl⟩
theorem wp_heap {d M : Nat} {Q : Option AV → Hp → Prop} {kc ks pc : Nat} {ls : List (Nat × AV)} {st : List AV} {h h' : Hp} (e : h = h') (kk : wp d M Q kc ks pc ls st h') : wp d M Q kc ks pc ls st h := e ▸ kk
theorem Spec.mono {d M : Nat} {av : List AV} {h : Hp} {Q Q' : Option AV → Hp → Prop} (s : Spec d M av h Q) (k : ∀ r h1, Q r h1 → Q' r h1) : Spec d M av h Q' := by
  intro l E ad sz p e ha hc hkk s0 m args below hf hap hpre hz
  obtain ⟨n, o, h1, h2, h3, ⟨⟨r, h4, ad', a1, a2, a3, a4, a5, a6, a7⟩, hF⟩, hL⟩ := s l E ad sz p e ha hc hkk s0 m args below hf hap hpre hz
  exact ⟨n, o, h1, h2, h3, ⟨⟨r, h4, ad', a1, a2, a3, a4, k _ _ a5, a6, a7⟩, hF⟩, hL⟩
theorem hp_ext {h h' : Hp} (h1 : hn h = hn h') (h2 : ∀ a b, hi h a b = hi h' a b) (h3 : ∀ a b, hr h a b = hr h' a b) : h = h' := by
  obtain ⟨n, f, g⟩ := h
  obtain ⟨n', f', g'⟩ := h'
  have e1 : n = n' := h1
  have e2 : f = f' := by funext a b; exact h2 a b
  have e3 : g = g' := by funext a b; exact h3 a b
  rw [e1, e2, e3]
theorem seti_w (h : Hp) (p j : Nat) (v : Int32) : seti h p j v = setw h p (upd (hi h p) j v) := rfl
theorem setw_w (h : Hp) (p : Nat) (f g : Nat → Int32) : setw (setw h p f) p g = setw h p g := by
  refine hp_ext rfl (fun a b => ?_) (fun a b => rfl)
  rw [hi_setw, hi_setw, hi_setw]
  by_cases ha : a = p <;> simp [ha]
theorem seti_setw (h : Hp) (p j : Nat) (f : Nat → Int32) (v : Int32) : seti (setw h p f) p j v = setw h p (upd f j v) := by
  rw [seti_w, hi_setw_row, setw_w]
theorem setw_self (h : Hp) (p : Nat) : setw h p (hi h p) = h := by
  refine hp_ext rfl (fun a b => ?_) (fun a b => rfl)
  rw [hi_setw]
  by_cases ha : a = p <;> simp [ha]
theorem setw_comm (h : Hp) (p q : Nat) (f g : Nat → Int32) (hpq : p ≠ q) : setw (setw h p f) q g = setw (setw h q g) p f := by
  refine hp_ext rfl (fun a b => ?_) (fun a b => rfl)
  rw [hi_setw, hi_setw, hi_setw, hi_setw]
  by_cases ha : a = p
  · subst ha; simp [hpq]
  · simp [ha]
theorem upd_at (f : Nat → Int32) (k : Nat) (v : Int32) : upd f k v k = v := by simp [upd]
theorem upd_ne (f : Nat → Int32) (k : Nat) (v : Int32) {j : Nat} (hj : j ≠ k) : upd f k v j = f j := by simp [upd, hj]
/-- the first k places, then the rest -/
def mix (g f : Nat → Int32) (lo k : Nat) : Nat → Int32 := fun i => if lo ≤ i ∧ i < lo + k then g i else f i
theorem mix_0 (g f : Nat → Int32) (lo : Nat) : mix g f lo 0 = f := by
  funext i
  unfold mix
  rw [if_neg (by omega)]
theorem mix_s (g f : Nat → Int32) (lo k : Nat) : upd (mix g f lo k) (lo + k) (g (lo + k)) = mix g f lo (k + 1) := by
  funext i
  unfold mix upd
  by_cases hi0 : i = lo + k
  · subst hi0
    rw [if_pos rfl, if_pos (by omega)]
  · rw [if_neg hi0]
    dsimp only
    by_cases h2 : lo ≤ i ∧ i < lo + k
    · rw [if_pos h2, if_pos (by omega)]
    · rw [if_neg h2, if_neg (by omega)]
theorem mix_in (g f : Nat → Int32) {lo k i : Nat} (h : lo ≤ i ∧ i < lo + k) : mix g f lo k i = g i := if_pos h
theorem mix_out (g f : Nat → Int32) {lo k i : Nat} (h : ¬ (lo ≤ i ∧ i < lo + k)) : mix g f lo k i = f i := if_neg h
/-- a number between two small ones -/
theorem nat_of {x : Int32} {n : Nat} (h0 : 0 ≤ x) (h1 : x ≤ nI n) (hn0 : n < 2 ^ 31) : ∃ j : Nat, j ≤ n ∧ x = nI j := nI_of2 (nI_toInt hn0) (Int32.not_lt.mpr h0) h1
