/-! the machine seen from afar: places instead of addresses; one heap of ints and of references, by place and slot -/
abbrev AV : Type := Int32 ⊕ (Int64 ⊕ Option Nat)
abbrev vI (x : Int32) : AV := Sum.inl x
abbrev vL (x : Int64) : AV := Sum.inr (Sum.inl x)
abbrev vR (o : Option Nat) : AV := Sum.inr (Sum.inr o)
abbrev Hp : Type := Nat × (Nat → Nat → Int32) × (Nat → Nat → Option Nat)
abbrev hn (h : Hp) : Nat := h.1
def hi (h : Hp) : Nat → Nat → Int32 := h.2.1
def hr (h : Hp) : Nat → Nat → Option Nat := h.2.2
def seti (h : Hp) (k j : Nat) (v : Int32) : Hp := (h.1, fun a => if a = k then upd (h.2.1 k) j v else h.2.1 a, h.2.2)
def setr (h : Hp) (k j : Nat) (v : Option Nat) : Hp := (h.1, h.2.1, fun a => if a = k then va_up (h.2.2 k) j v else h.2.2 a)
def setw (h : Hp) (k : Nat) (f : Nat → Int32) : Hp := (h.1, fun a => if a = k then f else h.2.1 a, h.2.2)
def grow (h : Hp) : Hp := (h.1 + 1, fun a => if a = h.1 then (fun _ => 0) else h.2.1 a, fun a => if a = h.1 then (fun _ => none) else h.2.2 a)
def cv (ad : Nat → Nat) : AV → Value
  | .inl x => .int x
  | .inr (.inl x) => .long x
  | .inr (.inr o) => va_rf (o.map ad)
def isL : AV → Bool
  | .inr (.inl _) => true
  | _ => false
def wt : AV → Nat
  | .inr (.inl _) => 2
  | _ => 1
def lc (ad : Nat → Nat) (ls : List (Nat × AV)) : List (Nat × Value) := ls.map (fun q => (q.1, cv ad q.2))
def stL (i : Nat) (v : AV) (ls : List (Nat × AV)) : List (Nat × AV) := (i, v) :: ls.filter (fun q => !(q.1 == i) && !(q.1 + 1 == i && isL q.2))
def lk : List (Nat × AV) → Nat → Option AV
  | [], _ => none
  | (j, v) :: t, i => if j == i then some v else lk t i
def la : Nat → List AV → List (Nat × AV)
  | _, [] => []
  | i, v :: t => (i, v) :: la (i + 1) t
theorem cv_cat (ad : Nat → Nat) (v : AV) : (cv ad v).category = wt v := by
  rcases v with x | x | o
  · rfl
  · rfl
  · cases o <;> rfl
theorem wt_isL (v : AV) : (wt v == 2) = isL v := by
  rcases v with x | x | o <;> rfl
theorem lk_mem {ls : List (Nat × AV)} {i : Nat} {v : AV} (h : lk ls i = some v) : (i, v) ∈ ls := by
  induction ls with
  | nil => cases h
  | cons q t ih =>
    obtain ⟨j, w⟩ := q
    unfold lk at h
    by_cases hj : (j == i) = true
    · rw [if_pos hj] at h
      have : j = i := by simpa using hj
      subst this
      cases h
      exact List.mem_cons_self
    · rw [if_neg hj] at h
      exact List.mem_cons_of_mem _ (ih h)
theorem lc_lk {ad : Nat → Nat} {lsC : Array Slot} {nL : Nat} {ls : List (Nat × AV)} {i : Nat} {v : AV} (hl : lv_has lsC nL (lc ad ls)) (h : lk ls i = some v) : lsC[i]? = some (.val (cv ad v)) :=
  hl.2.2 (i, cv ad v) (List.mem_map.mpr ⟨(i, v), lk_mem h, rfl⟩)
theorem lc_st (ad : Nat → Nat) (i : Nat) (v : AV) (ls : List (Nat × AV)) : (i, cv ad v) :: (lc ad ls).filter (fun q => !(q.1 == i) && !(q.1 + 1 == i && q.2.category == 2)) = lc ad (stL i v ls) := by
  unfold lc stL
  rw [List.filter_map, List.map_cons]
  congr 2
  apply List.filter_congr
  intro q _
  simp [Function.comp, cv_cat, ← wt_isL]
theorem la_args (ad : Nat → Nat) (args : List AV) (hnl : args.all (fun v => !isL v) = true) : ∀ i, lv_args i (args.map (cv ad)) = lc ad (la i args) := by
  induction args with
  | nil => intro i; rfl
  | cons v t ih =>
    intro i
    simp only [List.all_cons, Bool.and_eq_true] at hnl
    have hc : (cv ad v).category ≠ 2 := by
      rw [cv_cat]
      rcases v with x | x | o
      · show (1 : Nat) ≠ 2; decide
      · simp [isL] at hnl
      · show (1 : Nat) ≠ 2; decide
    simp only [List.map_cons, lv_args, if_neg hc, la, lc]
    congr 1
    exact ih hnl.2 (i + 1)
theorem la_len (ad : Nat → Nat) (args : List AV) (hnl : args.all (fun v => !isL v) = true) : (lg_sl (args.map (cv ad))).length = args.length := by
  induction args with
  | nil => rfl
  | cons v t ih =>
    simp only [List.all_cons, Bool.and_eq_true] at hnl
    have hc : (cv ad v).category ≠ 2 := by
      rw [cv_cat]
      rcases v with x | x | o
      · show (1 : Nat) ≠ 2; decide
      · simp [isL] at hnl
      · show (1 : Nat) ≠ 2; decide
    have e : lg_sl ((v :: t).map (cv ad)) = .val (cv ad v) :: lg_sl (t.map (cv ad)) := by
      simp [lg_sl, hc]
    rw [e, List.length_cons, ih hnl.2, List.length_cons]
/-! the cells -/
abbrev En : Type := va_G × ClassId × ClassId × ClassId × ClassId
def tysE (E : En) : List (ClassId × FieldType) := [(E.2.1, .int), (E.2.2.1, .boolean), (E.2.2.2.1, .object RX3), (E.2.2.2.2, .object RX8)]
def fv (ad : Nat → Nat) (f : Nat → Int32) (g : Nat → Option Nat) : Nat → List Bool → List Value
  | _, [] => []
  | j, true :: t => .int (f j) :: fv ad f g (j + 1) t
  | j, false :: t => va_rf ((g j).map ad) :: fv ad f g (j + 1) t
def rrow (g : Nat → Option Nat) (ad : Nat → Nat) : Nat → Option Nat := fun j => (g j).map ad
def cell (E : En) (ad : Nat → Nat) (h : Hp) (k : Nat) : va_E :=
  match SH k with
  | (0, ci) => .inr (ci, fv ad (hi h k) (hr h k) 0 (FK ci))
  | (1, n) => .inl (E.2.1, n, .inl (hi h k))
  | (2, n) => .inl (E.2.2.1, n, .inl (hi h k))
  | (3, n) => .inl (E.2.2.2.1, n, .inr (.inr (.inr (.inr (rrow (hr h k) ad)))))
  | (_, n) => .inl (E.2.2.2.2, n, .inr (.inr (.inr (.inr (rrow (hr h k) ad)))))
def toW (E : En) (ad : Nat → Nat) (h : Hp) : va_W := (List.range (hn h)).map (fun k => (ad k, cell E ad h k))
theorem fv_len (ad : Nat → Nat) (f : Nat → Int32) (g : Nat → Option Nat) (l : List Bool) : ∀ j, (fv ad f g j l).length = l.length := by
  induction l with
  | nil => intro j; rfl
  | cons b t ih => intro j; cases b <;> simp [fv, ih]
theorem fv_get {ad : Nat → Nat} {f : Nat → Int32} {g : Nat → Option Nat} : ∀ (l : List Bool) (j i : Nat) (b : Bool), l[i]? = some b → (fv ad f g j l)[i]? = some (if b then .int (f (j + i)) else va_rf ((g (j + i)).map ad)) := by
  intro l
  induction l with
  | nil => intro j i b h; simp at h
  | cons c t ih =>
    intro j i b h
    cases i with
    | zero =>
      simp at h
      subst h
      cases c <;> simp [fv]
    | succ i =>
      simp only [List.getElem?_cons_succ] at h
      have e := ih (j + 1) i b h
      rw [show j + 1 + i = j + (i + 1) by omega] at e
      cases c <;> simp [fv, e]
theorem fv_above {ad : Nat → Nat} {f f' : Nat → Int32} {g g' : Nat → Option Nat} : ∀ (l : List Bool) (j : Nat), (∀ q, j ≤ q → f' q = f q) → (∀ q, j ≤ q → g' q = g q) → fv ad f' g' j l = fv ad f g j l := by
  intro l
  induction l with
  | nil => intro j _ _; rfl
  | cons c t ih =>
    intro j h1 h2
    have e := ih (j + 1) (fun q hq => h1 q (by omega)) (fun q hq => h2 q (by omega))
    cases c <;> simp [fv, e, h1 j (Nat.le_refl j), h2 j (Nat.le_refl j)]
theorem fv_setI {ad : Nat → Nat} {f : Nat → Int32} {g : Nat → Option Nat} {v : Int32} : ∀ (l : List Bool) (j i : Nat), l[i]? = some true → (fv ad f g j l).set i (.int v) = fv ad (upd f (j + i) v) g j l := by
  intro l
  induction l with
  | nil => intro j i h; simp at h
  | cons c t ih =>
    intro j i h
    cases i with
    | zero =>
      simp at h
      subst h
      have e := fv_above (ad := ad) (f := f) (f' := upd f j v) (g := g) (g' := g) t (j + 1) (fun q hq => by have hne : q ≠ j := by omega
                                                                                                            simp [upd, hne]) (fun _ _ => rfl)
      simp only [fv, Nat.add_zero, List.set_cons_zero]
      rw [e]
      simp [upd]
    | succ i =>
      simp only [List.getElem?_cons_succ] at h
      have e := ih (j + 1) i h
      rw [show j + 1 + i = j + (i + 1) by omega] at e
      cases c <;> simp [fv, e, upd] <;> omega
theorem fv_setR {ad : Nat → Nat} {f : Nat → Int32} {g : Nat → Option Nat} {v : Option Nat} : ∀ (l : List Bool) (j i : Nat), l[i]? = some false → (fv ad f g j l).set i (va_rf (v.map ad)) = fv ad f (va_up g (j + i) v) j l := by
  intro l
  induction l with
  | nil => intro j i h; simp at h
  | cons c t ih =>
    intro j i h
    cases i with
    | zero =>
      simp at h
      subst h
      have hg : ∀ q, j + 1 ≤ q → va_up g j v q = g q := by
        intro q hq
        have hne : q ≠ j := by omega
        simp [va_up, hne]
      have e := fv_above (ad := ad) (f := f) (f' := f) (g := g) (g' := va_up g j v) t (j + 1) (fun _ _ => rfl) hg
      simp only [fv, Nat.add_zero, List.set_cons_zero]
      rw [e]
      simp [va_up]
    | succ i =>
      simp only [List.getElem?_cons_succ] at h
      have e := ih (j + 1) i h
      rw [show j + 1 + i = j + (i + 1) by omega] at e
      cases c <;> simp [fv, e, va_up] <;> omega
theorem toW_at {E : En} {ad : Nat → Nat} {h : Hp} {k : Nat} (hk : k < hn h) : (toW E ad h)[k]? = some (ad k, cell E ad h k) := by
  simp [toW, hk]
theorem toW_len (E : En) (ad : Nat → Nat) (h : Hp) : (toW E ad h).length = hn h := by simp [toW]
theorem cell_congr {E : En} {ad : Nat → Nat} {h h' : Hp} {k : Nat} (h1 : hi h' k = hi h k) (h2 : hr h' k = hr h k) : cell E ad h' k = cell E ad h k := by
  unfold cell
  rw [h1, h2]
theorem toW_set {E : En} {ad : Nat → Nat} {h h' : Hp} {k : Nat} {e : va_E} (hl : hn h' = hn h) (hc : e = cell E ad h' k) (h1 : ∀ a, a ≠ k → hi h' a = hi h a) (h2 : ∀ a, a ≠ k → hr h' a = hr h a) : (toW E ad h).set k (ad k, e) = toW E ad h' := by
  subst hc
  apply List.ext_getElem?
  intro i
  rw [List.getElem?_set]
  by_cases hik : k = i
  · subst hik
    rw [if_pos rfl]
    by_cases hlt : k < hn h
    · rw [toW_at (h := h') (by rw [hl]; exact hlt)]
      simp [toW_len, hlt]
    · simp [toW, hl, hlt]
  · rw [if_neg hik]
    by_cases hlt : i < hn h
    · rw [toW_at hlt, toW_at (h := h') (by rw [hl]; exact hlt), cell_congr (h1 i (fun q => hik q.symm)) (h2 i (fun q => hik q.symm))]
    · simp [toW, hl, hlt]
theorem hi_seti (h : Hp) (k j : Nat) (v : Int32) (a b : Nat) : hi (seti h k j v) a b = if a = k ∧ b = j then v else hi h a b := by
  unfold hi seti upd
  by_cases ha : a = k
  · subst ha
    by_cases hb : b = j <;> simp [hb]
  · simp [ha]
theorem hr_seti (h : Hp) (k j : Nat) (v : Int32) : hr (seti h k j v) = hr h := rfl
theorem hi_setr (h : Hp) (k j : Nat) (v : Option Nat) : hi (setr h k j v) = hi h := rfl
theorem hr_setr (h : Hp) (k j : Nat) (v : Option Nat) (a b : Nat) : hr (setr h k j v) a b = if a = k ∧ b = j then v else hr h a b := by
  unfold hr setr va_up
  by_cases ha : a = k
  · subst ha
    by_cases hb : b = j <;> simp [hb]
  · simp [ha]
theorem hi_setw (h : Hp) (k : Nat) (f : Nat → Int32) (a b : Nat) : hi (setw h k f) a b = if a = k then f b else hi h a b := by
  unfold hi setw
  by_cases ha : a = k <;> simp [ha]
theorem hr_setw (h : Hp) (k : Nat) (f : Nat → Int32) : hr (setw h k f) = hr h := rfl
theorem hi_seti_row (h : Hp) (k j : Nat) (v : Int32) : hi (seti h k j v) k = upd (hi h k) j v := by simp [hi, seti]
theorem hi_seti_ne (h : Hp) (k j : Nat) (v : Int32) (a : Nat) (ha : a ≠ k) : hi (seti h k j v) a = hi h a := by simp [hi, seti, ha]
theorem hr_setr_row (h : Hp) (k j : Nat) (v : Option Nat) : hr (setr h k j v) k = va_up (hr h k) j v := by simp [hr, setr]
theorem hr_setr_ne (h : Hp) (k j : Nat) (v : Option Nat) (a : Nat) (ha : a ≠ k) : hr (setr h k j v) a = hr h a := by simp [hr, setr, ha]
theorem hi_setw_row (h : Hp) (k : Nat) (f : Nat → Int32) : hi (setw h k f) k = f := by simp [hi, setw]
theorem hi_setw_ne (h : Hp) (k : Nat) (f : Nat → Int32) (a : Nat) (ha : a ≠ k) : hi (setw h k f) a = hi h a := by simp [hi, setw, ha]
theorem rrow_up (g : Nat → Option Nat) (ad : Nat → Nat) (j : Nat) (v : Option Nat) : rrow (va_up g j v) ad = va_up (rrow g ad) j (v.map ad) := by
  funext q
  by_cases hq : q = j <;> simp [rrow, va_up, hq]
