/-! pairs: row, set, copy (by hand) -/
section Sq
variable {h h' : Hp} {b c : Nat}
theorem SimR.lane (S : SimR h) {j : Nat} (hj : j < 8) (he : ¬ hi h 3 j = -1) : ∃ l : Nat, l ≤ 2 ∧ hi h 3 j = nI l ∧ hi h 55 j = nI l := by
  obtain ⟨z, _, _, _, hz⟩ := S j hj
  rcases hz with ⟨z1, _⟩ | ⟨y, _⟩
  · exact (he z1).elim
  · exact y
theorem P_row {r l n : Int32} (S : SimAt h b c) : Pair 87 151 [vI r, vI l, vI n] h := by
  have R := S.2.1
  have bad : (¬ (0 ≤ r ∧ r ≤ 7) ∨ ¬ (0 ≤ l ∧ l ≤ 2) ∨ ¬ n ≤ 40) → (0 ≤ r ∧ r ≤ 7) → (0 ≤ l ∧ l ≤ 2) → n ≤ 40 → False := fun y p q r => y.elim (fun z => z p) (fun z => z.elim (fun z => z q) (fun z => z r))
  refine C_row S.1.1 S.1.2.1 (fun y => ⟨_, rfl, ?_⟩) (fun y w => ⟨_, rfl, ?_⟩) (fun j hj hr hl m hm hn => ⟨_, rfl, ?_⟩)
  · exact M_row S.1.1 S.1.2.2.1 (fun _ => ⟨rfl, S.s⟩) (fun w _ => (bad y w.1 w.2.1 w.2.2).elim) (fun j hj hr hl _ hn => (bad y (rw8 hj hr) hl hn).elim)
  · exact M_row (h := seti h 0 16 4) S.1.1 S.1.2.2.1 (fun z => (bad z y.1 y.2.1 y.2.2).elim) (fun _ _ => ⟨rfl, S.st2.s⟩) (fun _ _ _ _ z _ => absurd w (Int32.not_lt.mpr z))
  · have n40 := rng hn hm (by decide)
    obtain ⟨lk, hlk, hle⟩ := nat_of (n := 2) hl.1 hl.2 (by decide)
    refine M_row (h := seti (setw (seti (seti h 3 j l) 4 j n) 2 (mix (fun _ => 0) (hi h 2) (40 * j) m)) 0 16 0) S.1.1 S.1.2.2.1 (fun y => (bad y (rw8 hj hr) hl n40.2).elim) (fun _ w => absurd w (Int32.not_lt.mpr n40.1)) (fun j2 hj2 h2 _ _ _ => ⟨rfl, b, c, ?_⟩)
    rw [nI_inj (h2.symm.trans hr) (by omega) (by omega)]
    have e57 : hi (seti (setw (seti (seti h 3 j l) 4 j n) 2 (mix (fun _ => 0) (hi h 2) (40 * j) m)) 0 16 0) 57 = hi h 57 := rfl
    rw [e57]
    refine S.rows rfl rfl (fun x x0 x2 x3 x4 x50 x55 x56 x57 => ?_) (fun k hk => ?_) (fun k hk => ?_) ?_ (fun k hk => ?_)
    · rw [hi_seti_ne _ _ _ _ _ x50, hi_setw_ne _ _ _ _ x57, hi_seti_ne _ _ _ _ _ x56, hi_seti_ne _ _ _ _ _ x55, hi_seti_ne _ _ _ _ _ x0, hi_setw_ne _ _ _ _ x2, hi_seti_ne _ _ _ _ _ x4, hi_seti_ne _ _ _ _ _ x3]
    · show upd (hi h 0) 16 0 k = _; rw [upd_ne _ _ _ hk]
    · show upd (hi h 50) 8 0 k = _; rw [upd_ne _ _ _ hk]
    · show upd (hi h 0) 16 0 16 = upd (hi h 50) 8 0 8; rw [upd_at, upd_at]
    · show ∃ z : Nat, z ≤ 40 ∧ upd (hi h 4) j n k = nI z ∧ upd (hi h 56) j n k = nI z ∧ ((upd (hi h 3) j l k = -1 ∧ upd (hi h 55) j l k = -1000000) ∨ ((∃ v : Nat, v ≤ 2 ∧ upd (hi h 3) j l k = nI v ∧ upd (hi h 55) j l k = nI v) ∧ ∀ q, q < z → mix (fun _ => 0) (hi h 2) (40 * j) m (40 * k + q) = mix (fun _ => 0) (hi h 57) (40 * j) 40 (40 * k + q)))
      by_cases w : k = j
      · rw [w, upd_at, upd_at, upd_at, upd_at]
        refine ⟨m, hm, hn, hn, Or.inr ⟨⟨lk, hlk, hle, hle⟩, fun q hq => ?_⟩⟩
        rw [mix_in _ _ (by omega), mix_in _ _ (by omega)]
      · rw [upd_ne _ _ _ w, upd_ne _ _ _ w, upd_ne _ _ _ w, upd_ne _ _ _ w]
        obtain ⟨z, z0, z1, z2, z3⟩ := R k hk
        refine ⟨z, z0, z1, z2, z3.imp id (fun y => ⟨y.1, fun q hq => ?_⟩)⟩
        rw [mix_out _ _ (by omega), mix_out _ _ (by omega)]
        exact y.2 q hq
theorem st_iff {i : Int32} {z : Nat} (hz : z ≤ 40) : (0 ≤ i ∧ (0 : Int32) ≤ 1 ∧ 1 ≤ nI z ∧ i ≤ nI z - 1) ↔ inR i z := by
  refine ⟨fun y => ⟨y.1, y.2.2.2⟩, fun y => ⟨y.1, by decide, ?_, y.2⟩⟩
  obtain ⟨j, hj, _⟩ := inr3 (by omega) y
  exact nI_le (show 1 ≤ z by omega) (by omega)
theorem P_set {r i v : Int32} (S : SimAt h b c) : Pair 88 152 [vI r, vI i, vI v] h := by
  have R := S.2.1
  refine C_set S.1.1 S.1.2.1 R.szc (fun y => ⟨_, rfl, ?_⟩) (fun j hj hr he => ⟨_, rfl, ?_⟩) (fun j hj hr he hg => ⟨_, rfl, ?_⟩) (fun j hj hr he q hq hi0 hl => ⟨_, rfl, ?_⟩)
  · exact M_set S.1.1 S.1.2.2.1 R.sz (fun _ => ⟨rfl, S.s⟩) (fun j hj hr _ => (y (rw8 hj hr)).elim) (fun j hj hr _ _ => (y (rw8 hj hr)).elim) (fun j hj hr _ _ _ _ _ => (y (rw8 hj hr)).elim)
  · have ej : ∀ j2, j2 < 8 → r = nI j2 → j2 = j := fun j2 hj2 h2 => nI_inj (h2.symm.trans hr) (by omega) (by omega)
    have e55 : hi (seti h 0 16 1) 55 = hi h 55 := rfl
    have e56 : hi (seti h 0 16 1) 56 = hi h 56 := rfl
    exact M_set (h := seti h 0 16 1) S.1.1 S.1.2.2.1 (by rw [e56]; exact R.sz) (fun y => (y (rw8 hj hr)).elim) (fun _ _ _ _ => ⟨rfl, S.st2.s⟩) (fun j2 hj2 h2 w _ => by rw [e55, ej j2 hj2 h2] at w; exact (w ((R.emp hj).mp he)).elim) (fun j2 hj2 h2 w _ _ _ _ => by rw [e55, ej j2 hj2 h2] at w; exact (w ((R.emp hj).mp he)).elim)
  · have ej : ∀ j2, j2 < 8 → r = nI j2 → j2 = j := fun j2 hj2 h2 => nI_inj (h2.symm.trans hr) (by omega) (by omega)
    have e55 : hi (seti h 0 16 2) 55 = hi h 55 := rfl
    have e56 : hi (seti h 0 16 2) 56 = hi h 56 := rfl
    obtain ⟨z, z0, z1, z2, _⟩ := R j hj
    rw [z1, st_iff z0] at hg
    refine M_set (h := seti h 0 16 2) S.1.1 S.1.2.2.1 (by rw [e56]; exact R.sz) (fun y => (y (rw8 hj hr)).elim) (fun j2 hj2 h2 w => by rw [e55, ej j2 hj2 h2] at w; exact (he ((R.emp hj).mpr w)).elim) (fun _ _ _ _ _ => ⟨rfl, S.st2.s⟩) (fun j2 hj2 h2 _ q hq hi0 w => ?_)
    rw [e56, ej j2 hj2 h2, z2] at w
    exact (nin hg (by omega) ((nI_ltI (by omega) (by omega)).mp w) hi0).elim
  · have ej : ∀ j2, j2 < 8 → r = nI j2 → j2 = j := fun j2 hj2 h2 => nI_inj (h2.symm.trans hr) (by omega) (by omega)
    obtain ⟨z, z0, z1, z2, _⟩ := R j hj
    obtain ⟨lk, hlk, l1, l2⟩ := R.lane hj he
    rw [z1] at hl
    have e55 : hi (seti (seti h 2 (40 * j + q) (cut (hi h 3 j) v)) 0 16 0) 55 = hi h 55 := rfl
    have e56 : hi (seti (seti h 2 (40 * j + q) (cut (hi h 3 j) v)) 0 16 0) 56 = hi h 56 := rfl
    refine M_set (h := seti (seti h 2 (40 * j + q) (cut (hi h 3 j) v)) 0 16 0) S.1.1 S.1.2.2.1 (by rw [e56]; exact R.sz) (fun y => (y (rw8 hj hr)).elim) (fun j2 hj2 h2 w => by rw [e55, ej j2 hj2 h2] at w; exact (he ((R.emp hj).mpr w)).elim) (fun j2 hj2 h2 _ w => ?_) (fun j2 hj2 h2 _ q2 hq2 hi2 _ => ?_)
    · rw [e56, ej j2 hj2 h2, z2] at w
      exact (w (inr2 (by omega) ⟨q, (nI_ltI (by omega) (by omega)).mp hl, hi0⟩)).elim
    · rw [e55, ej j2 hj2 h2, nI_inj (hi2.symm.trans hi0) (by omega) (by omega), l1, l2]
      refine ⟨rfl, b, c, S.rows rfl rfl (fun x x0 x2 x3 x4 x50 x55 x56 x57 => ?_) (fun k hk => ?_) (fun k hk => ?_) ?_ (fun k hk => ?_)⟩
      · rw [hi_seti_ne _ _ _ _ _ x50, hi_seti_ne _ _ _ _ _ x57, hi_seti_ne _ _ _ _ _ x0, hi_seti_ne _ _ _ _ _ x2]
      · show upd (hi h 0) 16 0 k = _; rw [upd_ne _ _ _ hk]
      · show upd (hi h 50) 8 0 k = _; rw [upd_ne _ _ _ hk]
      · show upd (hi h 0) 16 0 16 = upd (hi h 50) 8 0 8; rw [upd_at, upd_at]
      · generalize cut (nI lk) v = V
        show ∃ z : Nat, z ≤ 40 ∧ hi h 4 k = nI z ∧ hi h 56 k = nI z ∧ ((hi h 3 k = -1 ∧ hi h 55 k = -1000000) ∨ ((∃ v : Nat, v ≤ 2 ∧ hi h 3 k = nI v ∧ hi h 55 k = nI v) ∧ ∀ t, t < z → upd (hi h 2) (40 * j + q) V (40 * k + t) = upd (hi h 57) (40 * j + q) V (40 * k + t)))
        obtain ⟨z, z0, z1, z2, z3⟩ := R k hk
        refine ⟨z, z0, z1, z2, z3.imp id (fun y => ⟨y.1, fun t ht => ?_⟩)⟩
        by_cases w : 40 * k + t = 40 * j + q
        · rw [w, upd_at, upd_at]
        · rw [upd_ne _ _ _ w, upd_ne _ _ _ w]; exact y.2 t ht
theorem P_copy {r i r2 i2 n : Int32} (S : SimAt h b c) : Pair 89 154 [vI r, vI i, vI r2, vI i2, vI n] h := by
  have R := S.2.1
  have bad : (¬ (0 ≤ r ∧ r ≤ 7) ∨ ¬ (0 ≤ r2 ∧ r2 ≤ 7)) → ∀ x y, x < 8 → y < 8 → r = nI x → r2 = nI y → False := fun z x y hx hy h1 h2 => z.elim (fun w => w (rw8 hx h1)) (fun w => w (rw8 hy h2))
  refine C_copy S.1.1 S.1.2.1 R.szc (fun z => ⟨_, rfl, ?_⟩) (fun x y hx hy h1 h2 he => ⟨_, rfl, ?_⟩) (fun x y hx hy h1 h2 ex ey et => ⟨_, rfl, ?_⟩) (fun x y hx hy h1 h2 ex ey et eg => ⟨_, rfl, ?_⟩) (fun x y hx hy h1 h2 ex ey et p q m hp hq h3 h4 h5 eg1 eg2 => ⟨_, rfl, ?_⟩)
  · exact M_copy S.1.1 S.1.2.2.1 R.sz (fun _ => ⟨rfl, S.s⟩) (fun x y hx hy h1 h2 _ => (bad z x y hx hy h1 h2).elim) (fun x y hx hy h1 h2 _ _ _ => (bad z x y hx hy h1 h2).elim) (fun x y hx hy h1 h2 _ _ _ _ => (bad z x y hx hy h1 h2).elim) (fun x y hx hy h1 h2 _ _ _ _ _ _ _ _ _ _ _ _ _ => (bad z x y hx hy h1 h2).elim)
  all_goals
    have exy : ∀ x2 y2, x2 < 8 → y2 < 8 → r = nI x2 → r2 = nI y2 → x2 = x ∧ y2 = y := fun x2 y2 hx2 hy2 w1 w2 => ⟨nI_inj (w1.symm.trans h1) (by omega) (by omega), nI_inj (w2.symm.trans h2) (by omega) (by omega)⟩
    have mx := R.emp hx
    have my := R.emp hy
  · have e55 : hi (seti h 0 16 1) 55 = hi h 55 := rfl
    have e56 : hi (seti h 0 16 1) 56 = hi h 56 := rfl
    have xx : ∀ x2 y2, x2 < 8 → y2 < 8 → r = nI x2 → r2 = nI y2 → ¬ hi (seti h 0 16 1) 55 x2 = -1000000 → ¬ hi (seti h 0 16 1) 55 y2 = -1000000 → False := fun x2 y2 hx2 hy2 w1 w2 w3 w4 => by
      obtain ⟨k1, k2⟩ := exy x2 y2 hx2 hy2 w1 w2
      rw [e55, k1] at w3; rw [e55, k2] at w4
      exact he.elim (fun v => w3 (mx.mp v)) (fun v => w4 (my.mp v))
    exact M_copy (h := seti h 0 16 1) S.1.1 S.1.2.2.1 (by rw [e56]; exact R.sz) (fun z => (bad z x y hx hy h1 h2).elim) (fun _ _ _ _ _ _ _ => ⟨rfl, S.st2.s⟩) (fun x2 y2 hx2 hy2 w1 w2 w3 w4 _ => (xx x2 y2 hx2 hy2 w1 w2 w3 w4).elim) (fun x2 y2 hx2 hy2 w1 w2 w3 w4 _ _ => (xx x2 y2 hx2 hy2 w1 w2 w3 w4).elim) (fun x2 y2 hx2 hy2 w1 w2 w3 w4 _ _ _ _ _ _ _ _ _ _ _ => (xx x2 y2 hx2 hy2 w1 w2 w3 w4).elim)
  · have e55 : hi (seti h 0 16 5) 55 = hi h 55 := rfl
    have e56 : hi (seti h 0 16 5) 56 = hi h 56 := rfl
    obtain ⟨lx, _, lx1, lx2⟩ := R.lane hx ex
    obtain ⟨ly, _, ly1, ly2⟩ := R.lane hy ey
    have xx : ∀ x2 y2, x2 < 8 → y2 < 8 → r = nI x2 → r2 = nI y2 → hi (seti h 0 16 5) 55 x2 = hi (seti h 0 16 5) 55 y2 → False := fun x2 y2 hx2 hy2 w1 w2 w3 => by
      obtain ⟨k1, k2⟩ := exy x2 y2 hx2 hy2 w1 w2
      rw [e55, k1, k2, lx2, ly2] at w3; rw [lx1, ly1] at et
      exact et w3
    exact M_copy (h := seti h 0 16 5) S.1.1 S.1.2.2.1 (by rw [e56]; exact R.sz) (fun z => (bad z x y hx hy h1 h2).elim) (fun x2 y2 hx2 hy2 w1 w2 w => by
        obtain ⟨k1, k2⟩ := exy x2 y2 hx2 hy2 w1 w2
        rw [e55, k1, k2] at w
        exact (w.elim (fun v => ex (mx.mpr v)) (fun v => ey (my.mpr v))).elim) (fun _ _ _ _ _ _ _ _ _ => ⟨rfl, S.st2.s⟩) (fun x2 y2 hx2 hy2 w1 w2 _ _ w _ => (xx x2 y2 hx2 hy2 w1 w2 w).elim) (fun x2 y2 hx2 hy2 w1 w2 _ _ w _ _ _ _ _ _ _ _ _ _ => (xx x2 y2 hx2 hy2 w1 w2 w).elim)
  · have e55 : hi (seti h 0 16 2) 55 = hi h 55 := rfl
    have e56 : hi (seti h 0 16 2) 56 = hi h 56 := rfl
    obtain ⟨lx, _, lx1, lx2⟩ := R.lane hx ex
    obtain ⟨ly, _, ly1, ly2⟩ := R.lane hy ey
    exact M_copy (h := seti h 0 16 2) S.1.1 S.1.2.2.1 (by rw [e56]; exact R.sz) (fun z => (bad z x y hx hy h1 h2).elim) (fun x2 y2 hx2 hy2 w1 w2 w => by
        obtain ⟨k1, k2⟩ := exy x2 y2 hx2 hy2 w1 w2
        rw [e55, k1, k2] at w
        exact (w.elim (fun v => ex (mx.mpr v)) (fun v => ey (my.mpr v))).elim) (fun x2 y2 hx2 hy2 w1 w2 _ _ w => by
        obtain ⟨k1, k2⟩ := exy x2 y2 hx2 hy2 w1 w2
        rw [e55, k1, k2, lx2, ly2] at w; rw [lx1, ly1] at et
        exact (w et).elim) (fun _ _ _ _ _ _ _ _ _ _ => ⟨rfl, S.st2.s⟩) (fun x2 y2 hx2 hy2 w1 w2 _ _ _ p q m _ _ _ _ _ g1 g2 => by
        obtain ⟨k1, k2⟩ := exy x2 y2 hx2 hy2 w1 w2
        rw [e56, k1] at g1; rw [e56, k2] at g2
        exact (eg.elim (fun v => v ((R.rg hx).mpr g1)) (fun v => v ((R.rg hy).mpr g2))).elim)
  · have e55 : hi (seti (setw h 2 (va_cpy (hi h 2) (hi h 2) (40 * x + p) (40 * y + q) m)) 0 16 0) 55 = hi h 55 := rfl
    have e56 : hi (seti (setw h 2 (va_cpy (hi h 2) (hi h 2) (40 * x + p) (40 * y + q) m)) 0 16 0) 56 = hi h 56 := rfl
    have e57 : hi (seti (setw h 2 (va_cpy (hi h 2) (hi h 2) (40 * x + p) (40 * y + q) m)) 0 16 0) 57 = hi h 57 := rfl
    obtain ⟨lx, _, lx1, lx2⟩ := R.lane hx ex
    obtain ⟨ly, _, ly1, ly2⟩ := R.lane hy ey
    have f1 := (R.rg hx).mp eg1
    have f2 := (R.rg hy).mp eg2
    have sm := R.same hx ex (by rw [← h3, ← h5]; exact f1.2.2) hp
    refine M_copy (h := seti (setw h 2 (va_cpy (hi h 2) (hi h 2) (40 * x + p) (40 * y + q) m)) 0 16 0) S.1.1 S.1.2.2.1 (by rw [e56]; exact R.sz) (fun z => (bad z x y hx hy h1 h2).elim) (fun x2 y2 hx2 hy2 w1 w2 w => by
        obtain ⟨k1, k2⟩ := exy x2 y2 hx2 hy2 w1 w2
        rw [e55, k1, k2] at w
        exact (w.elim (fun v => ex (mx.mpr v)) (fun v => ey (my.mpr v))).elim) (fun x2 y2 hx2 hy2 w1 w2 _ _ w => by
        obtain ⟨k1, k2⟩ := exy x2 y2 hx2 hy2 w1 w2
        rw [e55, k1, k2, lx2, ly2] at w; rw [lx1, ly1] at et
        exact (w et).elim) (fun x2 y2 hx2 hy2 w1 w2 _ _ _ w => by
        obtain ⟨k1, k2⟩ := exy x2 y2 hx2 hy2 w1 w2
        rw [e56, k1, k2] at w
        exact (w.elim (fun v => v f1) (fun v => v f2)).elim) (fun x2 y2 hx2 hy2 w1 w2 _ _ _ p2 q2 m2 _ _ j3 j4 j5 _ _ => ⟨rfl, b, c, ?_⟩)
    obtain ⟨k1, k2⟩ := exy x2 y2 hx2 hy2 w1 w2
    rw [k1, k2, nI_inj (j3.symm.trans h3) (by omega) (by omega), nI_inj (j4.symm.trans h4) (by omega) (by omega), nI_inj (j5.symm.trans h5) (by omega) (by omega), e57]
    refine S.rows rfl rfl (fun x x0 x2 x3 x4 x50 x55 x56 x57 => ?_) (fun k hk => ?_) (fun k hk => ?_) ?_ (fun k hk => ?_)
    · rw [hi_seti_ne _ _ _ _ _ x50, hi_setw_ne _ _ _ _ x57, hi_seti_ne _ _ _ _ _ x0, hi_setw_ne _ _ _ _ x2]
    · show upd (hi h 0) 16 0 k = _; rw [upd_ne _ _ _ hk]
    · show upd (hi h 50) 8 0 k = _; rw [upd_ne _ _ _ hk]
    · show upd (hi h 0) 16 0 16 = upd (hi h 50) 8 0 8; rw [upd_at, upd_at]
    · show ∃ z : Nat, z ≤ 40 ∧ hi h 4 k = nI z ∧ hi h 56 k = nI z ∧ ((hi h 3 k = -1 ∧ hi h 55 k = -1000000) ∨ ((∃ v : Nat, v ≤ 2 ∧ hi h 3 k = nI v ∧ hi h 55 k = nI v) ∧ ∀ t, t < z → va_cpy (hi h 2) (hi h 2) (40 * x + p) (40 * y + q) m (40 * k + t) = va_cpy (hi h 57) (hi h 57) (40 * x + p) (40 * y + q) m (40 * k + t)))
      obtain ⟨z, z0, z1, z2, z3⟩ := R k hk
      refine ⟨z, z0, z1, z2, z3.imp id (fun w => ⟨w.1, fun t ht => ?_⟩)⟩
      unfold va_cpy
      by_cases v : 40 * y + q ≤ 40 * k + t ∧ 40 * k + t < 40 * y + q + m
      · rw [if_pos v, if_pos v]; exact sm _ (by omega)
      · rw [if_neg v, if_neg v]; exact w.2 t ht
end Sq
