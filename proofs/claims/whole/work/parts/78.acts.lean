/-! acts on a yard: minute, flip, move, serve, coal, water (by hand) -/
theorem rsV_2 (y cc cf cr : Nat → Int32) (L q : Nat) (n : Int32) (f : Nat → Int32) : rsV y cc cf cr L q n f 2 = f 2 ∧ rsV y cc cf cr L q n f 6 = f 6 := by
  unfold rsV
  split
  · exact ⟨rfl, rfl⟩
  · split
    · exact ⟨rfl, rfl⟩
    · exact ⟨rfl, rfl⟩
theorem psH_t {h : Hp} {b m L i : Nat} (hm : m ≤ 6) (hi0 : i < m) : hi (psH h b m L) (b + 8 + i) = psF h b L i := by
  unfold psH psA
  rw [hi_seti_ne _ _ _ _ _ (by omega), hi_setw_ne _ _ _ _ (by omega), hi_setw_ne _ _ _ _ (by omega), thW_in _ _ _ _ _ hi0]
theorem psH_3 {h : Hp} {b m L c : Nat} (hc : c < L) : hi (psH h b m L) (b + 3) c = mx0 (hi h (b + 3) c - 1) := by
  unfold psH psA
  rw [hi_seti_ne _ _ _ _ _ (by omega), hi_setw_ne _ _ _ _ (by omega), hi_setw_row, mix_in _ _ (by omega)]
theorem psH_2 {h : Hp} {b m L c : Nat} (hc : c < L) : hi (psH h b m L) (b + 2) c = mx0 (hi h (b + 2) c - sunkV (hi h b) 1) := by
  unfold psH psA
  rw [hi_seti_ne _ _ _ _ _ (by omega), hi_setw_row, mix_in _ _ (by omega)]
theorem psH_1 {h : Hp} {b m L x : Nat} (hx : x = b + 1 ∨ x = b + 5 ∨ x = b + 6 ∨ x = b + 7) : hi (psH h b m L) x = hi h x := by
  unfold psH psA
  rw [hi_seti_ne _ _ _ _ _ (by omega), hi_setw_ne _ _ _ _ (by omega), hi_setw_ne _ _ _ _ (by omega), thW_out _ _ _ _ _ (by omega)]
theorem HS.minute {h : Hp} {b m L e mi : Nat} {s : Nat → Int32} (g : HS h b s m L e mi) (hb : b = 17 ∨ b = 31) (h0 : s 0 = 1) (hmi : mi ≤ 900) : HS (psH h b m L) b (gm s m L) m L e (mi + 1) := by
  obtain ⟨sk, hC⟩ := g.cw h0 (by omega)
  have hwd := g.wd
  obtain ⟨⟨a1, a2, a3, a4, a5, a6, a7, a8, a9, a10⟩, ⟨b1, b2, b3⟩, ⟨⟨sk', c1, c2, c3⟩, c4, c5, c6⟩, hd, he, hf, hg, hh⟩ := g
  have lo : ∀ i, i < 51 → i ≠ 19 → ¬ (29 ≤ i ∧ i < 45) → gm s m L i = s i := fun i x1 x2 x3 => gm_lo _ _ _ _ x1 x2 x3 b2
  have hiE : ∀ i, 81 ≤ i → gm s m L i = s i := fun i x1 => gm_hi _ _ _ _ b1 b2 x1
  obtain ⟨k1, k2, k3, k4⟩ := coal_n m hC 1 (by decide)
  have hb' := psH_b (h := h) (m := m) (L := L) hb
  have s1 : sunkV (hi h b) 1 = nI (sunkN mi sk 1) := sunk_n hC 1 (by decide)
  have sle := sunkN_le mi sk 1
  refine ⟨⟨?_, ?_, ?_, k1, ?_, ?_, ?_, ?_, ?_, ?_⟩, ⟨b1, b2, b3⟩, ⟨⟨sk', (lo 3 (by decide) (by decide) (by decide)).trans c1, c2, ?_⟩, ?_, ?_, ?_⟩, fun c hc => ?_, fun i hi0 => ?_, fun i hi0 => ?_, fun i hi0 => ?_, ?_⟩
  · show hi (psH h b m L) b 1 = _; rw [hb', lo 3 (by decide) (by decide) (by decide)]; exact a1
  · show hi (psH h b m L) b 2 = _; rw [hb', lo 4 (by decide) (by decide) (by decide)]; exact a2
  · show hi (psH h b m L) b 3 = _
    rw [hb', upd_at, show hi h b 3 = nI mi from a3, nI_1]
  · show hi (psH h b m L) b 4 = _; rw [hb']; exact a5
  · rw [lo 20 (by decide) (by decide) (by decide)]; exact a6
  · show hi (psH h b m L) b 8 = _; rw [hb']; exact a7
  · rw [lo 1 (by decide) (by decide) (by decide)]; exact a8
  · show hi (psH h b m L) b 10 = _; rw [hb']; exact a9
  · rw [lo 2 (by decide) (by decide) (by decide)]; exact a10
  · rw [lo 0 (by decide) (by decide) (by decide)]; exact c3
  · rw [lo 4 (by decide) (by decide) (by decide)]; exact c4
  · rw [lo 0 (by decide) (by decide) (by decide)]; exact c5
  · rw [lo 0 (by decide) (by decide) (by decide)]; exact c6
  · obtain ⟨x, f, r, ⟨x1, x2, x3⟩, ⟨y1, y2⟩, ⟨z1, z2⟩, ⟨w1, w2⟩⟩ := hd c hc
    obtain ⟨d1, d2, d3⟩ := k4 c hc
    refine ⟨x, f - sunkN mi sk 1, r - 1, ⟨x1, by omega, by omega⟩, ⟨?_, d1.trans y2⟩, ⟨?_, d2 f x2 z2⟩, ⟨?_, d3 r x3 w2⟩⟩
    · rw [psH_1 (Or.inl rfl)]; exact y1
    · rw [psH_2 hc, z1, s1, mx0_n (by omega) (by omega)]
    · rw [psH_3 hc, w1, show (1 : Int32) = nI 1 from rfl, mx0_n (by omega) (by decide)]
  · rw [psH_1 (by omega), psH_1 (by omega), psH_1 (by omega), lo (11 + i) (by omega) (by omega) (by omega), lo (15 + i) (by omega) (by omega) (by omega), hiE (81 + i) (by omega)]
    exact he i hi0
  · obtain ⟨t1, t2⟩ := hf i hi0
    show TR (kq (psH h b m L) (b + 8 + i)) (hi (psH h b m L) (b + 8 + i)) (gm s m L) i (mi + 1) ∧ gm s m L (69 + i) = hi (psH h b m L) (b + 8 + i) 6
    rw [psH_t b1 hi0, show kq (psH h b m L) (b + 8 + i) = kq h (b + 8 + i) from rfl, gm_69 _ _ _ _ b1 b2 (by omega)]
    refine ⟨TR.step (n := 0) hC hwd b1 hi0 (by omega) (hg i hi0) t1, ?_⟩
    unfold psF
    rw [(rsV_2 _ _ _ _ _ _ _ _).2]; exact t2
  · exact (hg i hi0).cg hi0 (fun t ht => lo _ (by omega) (by omega) (by omega))
  · rw [servS_cg e (fun i hi0 => hiE _ (by omega)), ← hh]
    refine sdS_cg m (fun i hi0 => ?_)
    show hi (psH h b m L) (b + 8 + i) 2 = _
    rw [psH_t b1 hi0]; unfold psF
    exact (rsV_2 _ _ _ _ _ _ _ _).1
/-- a flip of one thing -/
theorem one_sub {v : Int32} (h : v = 0 ∨ v = 1) : (1 - v = 0 ∨ 1 - v = 1) ∧ (v = 0 → 1 - v = 1) ∧ (v = 1 → 1 - v = 0) := by
  rcases h with rfl | rfl <;> decide
theorem ba_flip {s : Nat → Int32} {i : Nat} (h : s (69 + i) = 0 ∨ s (69 + i) = 1) : belowI (upd s (69 + i) (1 - s (69 + i))) i = aboveI s i ∧ aboveI (upd s (69 + i) (1 - s (69 + i))) i = belowI s i := by
  unfold belowI aboveI
  rw [upd_at, upd_ne _ _ _ (by omega), upd_ne _ _ _ (by omega)]
  rcases h with e | e
  · rw [e, if_neg (by decide), if_pos rfl, if_neg (by decide), if_pos rfl]; exact ⟨rfl, rfl⟩
  · rw [e, if_pos (by decide), if_neg (by decide), if_pos (by decide), if_neg (by decide)]; exact ⟨rfl, rfl⟩
theorem TR.flip {q : Nat} {f s : Nat → Int32} {i mi : Nat} (t : TR q f s i mi) : TR q (flipV f) (upd s (69 + i) (1 - s (69 + i))) i mi := by
  obtain ⟨k, hp, hco, hsd, ⟨lo, up, b, ⟨f4, f5⟩, ⟨g4, g5⟩, hbu⟩, h7, h7b⟩ := t
  obtain ⟨e1, e2⟩ := ba_flip hsd
  refine ⟨?_, ?_, ?_, ?_, ⟨up, lo, b.symm, ⟨f5, f4⟩, ⟨e1.trans g5, e2.trans g4⟩, fun z => (hbu z).symm⟩, ?_, h7b⟩
  · rw [upd_ne _ _ _ (by omega)]; exact k
  · rw [upd_ne _ _ _ (by omega)]; exact hp
  · rw [upd_ne _ _ _ (by omega)]; exact hco
  · rw [upd_at]; exact (one_sub hsd).1
  · rw [upd_ne _ _ _ (by omega)]; exact h7
/-- s changed at one slot of a thing's, or anywhere that does not matter -/
theorem HS.thing {h h' : Hp} {b m L e mi i : Nat} {s s' : Nat → Int32} (g : HS h b s m L e mi) (hi0 : i < m) (f' : Nat → Int32) (hh : hi h' (b + 8 + i) = f') (ho : ∀ x, x ≠ b + 8 + i → b ≤ x → x < b + 14 → hi h' x = hi h x) (hk : ∀ x, kq h' x = kq h x)
    (hs : ∀ j, j ≠ 45 + i → j ≠ 69 + i → ¬ (81 ≤ j ∧ j < 85) → s' j = s j) (he' : ∀ t, t < e → hi h' (b + 7) t = s' (81 + t)) (ht : TR (kq h (b + 8 + i)) f' s' i mi) (h6 : s' (69 + i) = f' 6) (ha : ∀ k, k < m → AL s' m k) (hc : sdS (fun k => hi h' (b + 8 + k) 2) m = servS s' e) (h7 : ∀ x, x = b + 7 → True := by intros; trivial) : HS h' b s' m L e mi := by
  obtain ⟨⟨a1, a2, a3, a4, a5, a6, a7, a8, a9, a10⟩, ⟨b1, b2, b3⟩, ⟨⟨sk', c1, c2, c3⟩, c4, c5, c6⟩, hd, he, hf, hg, hx⟩ := g
  have eb : hi h' b = hi h b := ho b (by omega) (by omega) (by omega)
  have lo : ∀ j, j < 45 → s' j = s j := fun j hj => hs j (by omega) (by omega) (by omega)
  have z0 := yv_0 h' b
  refine ⟨⟨?_, ?_, ?_, (lo 19 (by decide)).trans a4, ?_, (lo 20 (by decide)).trans a6, ?_, (lo 1 (by decide)).trans a8, ?_, (lo 2 (by decide)).trans a10⟩, ⟨b1, b2, b3⟩, ⟨⟨sk', (lo 3 (by decide)).trans c1, c2, ?_⟩, ?_, ?_, ?_⟩, fun c hc0 => ?_, fun t ht0 => ?_, fun t ht0 => ?_, ha, hc⟩
  · rw [z0.1, eb, lo 3 (by decide)]; exact a1
  · rw [z0.2.1, eb, lo 4 (by decide)]; exact a2
  · rw [z0.2.2.1, eb]; exact a3
  · rw [z0.2.2.2.1, eb]; exact a5
  · rw [z0.2.2.2.2.1, eb]; exact a7
  · rw [z0.2.2.2.2.2, eb]; exact a9
  · rw [lo 0 (by decide)]; exact c3
  · rw [lo 4 (by decide)]; exact c4
  · rw [lo 0 (by decide)]; exact c5
  · rw [lo 0 (by decide)]; exact c6
  · rw [ho (b + 1) (by omega) (by omega) (by omega), ho (b + 2) (by omega) (by omega) (by omega), ho (b + 3) (by omega) (by omega) (by omega), lo (21 + c) (by omega), lo (29 + c) (by omega), lo (37 + c) (by omega)]
    exact hd c hc0
  · obtain ⟨u1, u2, u3, u4⟩ := he t ht0
    rw [ho (b + 5) (by omega) (by omega) (by omega), ho (b + 6) (by omega) (by omega) (by omega), lo (11 + t) (by omega), lo (15 + t) (by omega)]
    exact ⟨u1, u2, he' t ht0, u4⟩
  · show TR (kq h' (b + 8 + t)) (hi h' (b + 8 + t)) s' t mi ∧ s' (69 + t) = hi h' (b + 8 + t) 6
    rw [hk]
    by_cases z : t = i
    · subst z; rw [hh]; exact ⟨ht, h6⟩
    · obtain ⟨u1, u2⟩ := hf t ht0
      rw [ho (b + 8 + t) (by omega) (by omega) (by omega), hs (69 + t) (by omega) (by omega) (by omega)]
      exact ⟨u1.cg (fun _ _ _ _ => rfl) (fun j hj => hs j (by omega) (by omega) (by omega)), u2⟩
theorem HS.flip {h : Hp} {b m L e mi i : Nat} {s : Nat → Int32} (g : HS h b s m L e mi) (hi0 : i < m) : HS (fpH h b i) b (upd s (69 + i) (1 - s (69 + i))) m L e mi := by
  have hm := g.2.1.1
  have he := g.2.1.2.2
  obtain ⟨u1, u2⟩ := g.2.2.2.2.2.1 i hi0
  refine g.thing hi0 (flipV (hi h (b + 8 + i))) (hi_setw_row _ _ _) (fun x hx _ _ => fpH_o hx) (fun _ => rfl) (fun j _ hj _ => upd_ne _ _ _ hj) (fun t ht => ?_) (TR.flip u1) ?_ (fun k hk => (g.2.2.2.2.2.2.1 k hk).cg hk (fun t ht => upd_ne _ _ _ (by omega))) ?_
  · rw [fpH_o (by omega), upd_ne _ _ _ (by omega)]; exact (g.2.2.2.2.1 t ht).2.2.1
  · rw [upd_at]; show 1 - s (69 + i) = 1 - hi h (b + 8 + i) 6; rw [u2]
  · rw [servS_cg e (fun t ht => upd_ne _ _ _ (by omega)), ← g.2.2.2.2.2.2.2]
    refine sdS_cg m (fun k hk => ?_)
    by_cases z : k = i
    · subst z; show hi (fpH h b k) (b + 8 + k) 2 = _; unfold fpH; rw [hi_setw_row]; rfl
    · show hi (fpH h b i) (b + 8 + k) 2 = _; rw [fpH_o (by omega)]
