/-! the law's loop (by hand) -/
theorem and63 (x : Int32) : ∃ w : Nat, w < 64 ∧ x &&& 63 = nI w := by
  refine ⟨x.toBitVec.toNat &&& 63, Nat.lt_of_le_of_lt Nat.and_le_right (by decide), ?_⟩
  apply Int32.toBitVec_inj.mp
  apply BitVec.eq_of_toNat_eq
  have h63 : x.toBitVec.toNat &&& 63 ≤ 63 := Nat.and_le_right
  have e1 : (x &&& 63).toBitVec.toNat = x.toBitVec.toNat &&& 63 := by
    show (x.toBitVec &&& 63#32).toNat = _
    rw [BitVec.toNat_and]; rfl
  have e2 : (nI (x.toBitVec.toNat &&& 63)).toBitVec.toNat = (x.toBitVec.toNat &&& 63) % 2 ^ 32 := rfl
  rw [e1, e2, Nat.mod_eq_of_lt (by omega)]
