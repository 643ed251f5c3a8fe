/-! pairs: what is foretold (by hand) -/
theorem rng1 {v : Int32} {w k : Nat} (hv : v = nI w) (h1 : 1 ≤ w) (hw : w ≤ k) (hk : k < 1000000) : 1 ≤ v ∧ v ≤ nI k := by rw [hv]; exact ⟨nI_le h1 (by omega), nI_le hw (by omega)⟩
section Sn
variable {h : Hp} {b c : Nat}
theorem SimB.t16 (S : SimB h b c) : T16 h := S.2.2.2.2.2.2.2.2.2
theorem SimB.ktc (S : SimB h b c) : KT h c := S.2.2.2.2.2.2.2.2.1
theorem SimAt.onT {q : Nat} {f : Nat → Int32} (S : SimAt h b c) (hq : q < 6) : SimAt (tH h q f) b c ∧ hi (tH h q f) 51 = hi h 51 := by
  have hc := S.1.c
  have e : ∀ x, x ≠ 16 → hi (tH h q f) x = hi h x := fun x hx => tH_o hx
  have ek : hr (tH h q f) 16 1 = some (10 + q) := tH_k
  have e0 : ∀ x y, ¬ (x = 16 ∧ y = 1) → hr (tH h q f) x y = hr h x y := fun x y hx => by
    show hr (setr h 16 1 (some (10 + q))) x y = _
    rw [hr_setr, if_neg hx]
  refine ⟨S.junk rfl (fun x y hx => e0 x y (by omega)) (fun x h0 h5 h16 _ _ _ _ _ _ _ _ _ => e x h16) (fun j _ => by rw [e 0 (by decide)]) (fun j _ => by rw [e 5 (by decide)]) (fun j _ => by rw [e 50 (by decide)]) ?_ (S.1.ktc.mv (fun i hi0 => e0 _ _ (by omega))), e 51 (by decide)⟩
  have eq : kq (tH h q f) 16 = q := by unfold kq; rw [ek]; show 10 + q - 10 = q; omega
  unfold T16
  rw [eq]
  exact ⟨ek, hq⟩
theorem SimAt.w {x : Nat} {W : Nat → Int32} (S : SimAt h b c) (hx : x = 48 ∨ x = 49 ∨ x = 59 ∨ x = 60 ∨ x = 61 ∨ x = 62 ∨ x = 63) : SimAt (setw h x W) b c ∧ hi (setw h x W) 51 = hi h 51 := by
  have e : ∀ y, y ≠ x → hi (setw h x W) y = hi h y := fun y hy => hi_setw_ne _ _ _ _ hy
  exact ⟨S.junk rfl (fun _ _ _ => rfl) (fun y _ _ _ _ _ _ _ _ _ _ _ _ => e y (by omega)) (fun j _ => by rw [e 0 (by omega)]) (fun j _ => by rw [e 5 (by omega)]) (fun j _ => by rw [e 50 (by omega)]) S.1.t16 S.1.ktc, e 51 (by omega)⟩
theorem SimAt.b15 {v : Int32} (S : SimAt h b c) : SimAt (seti h 0 15 v) b c ∧ hi (seti h 0 15 v) 51 = hi h 51 := by
  have e : ∀ y, y ≠ 0 → hi (seti h 0 15 v) y = hi h y := fun y hy => hi_seti_ne _ _ _ _ _ hy
  exact ⟨S.junk rfl (fun _ _ _ => rfl) (fun y h0 _ _ _ _ _ _ _ _ _ _ _ => e y h0) (fun j hj => by rw [hi_seti, if_neg (by omega)]) (fun j _ => by rw [e 5 (by omega)]) (fun j _ => by rw [e 50 (by omega)]) S.1.t16 S.1.ktc, e 51 (by omega)⟩
theorem SimAt.onK {x y : Nat → Int32} (S : SimAt h b c) : SimAt (jk h x y) b c := ((S.w (x := 61) (by decide)).1.w (x := 60) (by decide)).1
theorem SimAt.onV {x y CB g : Nat → Int32} (S : SimAt h b c) : SimAt (jv h x y CB g) b c := ((S.w (x := 62) (by decide)).1.onK.w (x := 63) (by decide)).1
theorem HS.gon {m L e mi : Nat} (g : HS h b (hi h 51) m L e mi) (j : Nat) (hj : j < m) : hi h (b + 8 + j) 2 = 13 ↔ goneI (hi h 51) j := (g.tr j hj).gone
theorem P_ahead {t u w : Int32} (S : SimAt h b c) : Pair 110 209 [vI t, vI u, vI w] h := by
  obtain ⟨m, L, e, mi, y2, g⟩ := S.y
  have hm := g.2.1.1
  have bad : (¬ inR t m ∨ ¬ (0 ≤ u ∧ u ≤ 60) ∨ ¬ (0 ≤ w ∧ w ≤ 3)) → ∀ j, j < m → t = nI j → (0 ≤ u ∧ u ≤ 60) → (0 ≤ w ∧ w ≤ 3) → False := fun y j hj ht hu hw => y.elim (fun z => nin z (by omega) hj ht) (fun z => z.elim (fun z => z hu) (fun z => z hw))
  refine C_ahead (g.gi S.1) S.1.b S.1.t16 g.bz (fun y => ⟨_, rfl, ?_⟩) (fun j hj ht hu hw hg => ⟨_, rfl, ?_⟩) (fun j hj ht n hn hu w' hw' hw hg => ⟨_, rfl, ?_⟩)
  · exact M_ahead S.1.1 S.1.2.2.1 g.cnt g.skm (fun _ => ⟨rfl, S.s⟩) (fun j hj ht k hk hn hw _ => (bad y j hj ht (rng hn hk (by decide)) hw).elim) (fun j hj ht k hk hn hw _ _ _ => (bad y j hj ht (rng hn hk (by decide)) hw).elim)
  · refine M_ahead S.1.1 S.1.2.2.1 g.cnt g.skm (fun y => (bad y j hj ht hu hw).elim) (fun _ _ _ _ _ _ _ _ => ⟨rfl, S.s⟩) (fun j2 hj2 ht2 k hk hn hw2 hg2 _ _ => (hg2 ?_).elim)
    rw [nI_inj (ht2.symm.trans ht) (by omega) (by omega)]; exact (g.gon j hj).mp hg
  · have kt := (S.1.2.2.2.2.2.2.2.1 j (by omega)).2
    obtain ⟨S1, e1⟩ := S.onT (f := trN (hi h b) (hi h (b + 1)) (hi h (b + 2)) (hi h (b + 3)) L (kq h (b + 8 + j)) (becV (hi h 16) (hi h (b + 8 + j))) n) kt
    rw [eq_ahead g (by omega) hj (by omega) hw']
    generalize tH h _ _ = h1 at S1 e1 ⊢
    have g1 : HS h b (hi h1 51) m L e mi := by rw [e1]; exact g
    refine M_ahead S1.1.1 S1.1.2.2.1 g1.cnt g1.skm (fun y => (bad y j hj ht (rng hu hn (by decide)) (rng hw hw' (by decide))).elim) (fun j2 hj2 ht2 k hk hn hw2 hg2 => (hg ?_).elim) (fun j2 hj2 ht2 k hk hn2 hw2 hg2 x y => ⟨?_, S1.onK.s⟩)
    · rw [nI_inj (ht2.symm.trans ht) (by omega) (by omega), e1] at hg2; exact (g.gon j hj).mpr hg2
    · rw [nI_inj (ht2.symm.trans ht) (by omega) (by omega), nI_inj (hn2.symm.trans hu) (by omega) (by omega), hw, e1]
end Sn
