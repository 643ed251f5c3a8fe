/-! both have just been made (by hand) -/
theorem z_hn : hn hpZ = 65 := by decide +kernel
theorem z_rc : RC hpZ := ⟨by decide +kernel, by decide +kernel, by decide +kernel, by decide +kernel⟩
theorem z_rm : RM hpZ := by unfold RM; decide +kernel
theorem z_kc : KC hpZ := by unfold KC; decide +kernel
theorem z_kt : KT hpZ 17 ∧ KT hpZ 31 := ⟨by unfold KT; decide +kernel, by unfold KT; decide +kernel⟩
theorem z_16 : T16 hpZ := by unfold T16; decide +kernel
theorem z_n0 : N0 hpZ := by unfold N0; decide +kernel
theorem z_56 : hr hpZ 0 5 = some 17 ∧ hr hpZ 0 6 = some 31 := by decide +kernel
theorem z_r : ∀ j, j < 8 → hi hpZ 4 j = nI 0 ∧ hi hpZ 56 j = nI 0 ∧ hi hpZ 3 j = -1 ∧ hi hpZ 55 j = -1000000 := by decide +kernel
theorem z_t : hi hpZ 5 1 = nI 0 ∧ hi hpZ 50 10 = nI 0 ∧ hi hpZ 5 5 = hi hpZ 50 16 ∧ hi hpZ 0 16 = hi hpZ 50 8 ∧ hi hpZ 7 1 = nI 0 ∧ hi hpZ 50 23 = nI 0 ∧ hi hpZ 0 7 = hi hpZ 51 0 ∧ hi hpZ 0 9 = nI 0 ∧ hi hpZ 0 10 = nI 0 ∧ hi hpZ 50 4 = nI 0 := by decide +kernel
theorem z_i : ∀ k, k < 2 → hi hpZ 47 k = 0 ∧ hi hpZ 53 k = 0 := by decide +kernel
theorem z_y : (yv hpZ 17 0 = hi hpZ 51 3 ∧ yv hpZ 17 1 = hi hpZ 51 4 ∧ yv hpZ 17 2 = nI 0 ∧ hi hpZ 51 19 = nI 0 ∧ yv hpZ 17 3 = nI 0 ∧ hi hpZ 51 20 = nI 0 ∧ yv hpZ 17 4 = nI 0 ∧ hi hpZ 51 1 = nI 0 ∧ yv hpZ 17 5 = nI 0 ∧ hi hpZ 51 2 = nI 0) ∧ hi hpZ 51 3 = nI 0 ∧ hi hpZ 51 4 = nI 0 ∧ hi hpZ 51 0 = 0 := by decide +kernel
theorem sim_0 : Sim hpZ := by
  obtain ⟨t1, t2, t3, t4, t5, t6, t7, t8, t9, t10⟩ := z_t
  obtain ⟨y1, y2, y3, y4⟩ := z_y
  refine ⟨17, 31, ⟨z_hn, z_rc, z_rm, z_kc, z_56.1, z_56.2, Or.inl ⟨rfl, rfl⟩, z_kt.1, z_kt.2, z_16, z_n0⟩, fun j hj => ?_, t4, ⟨⟨0, by omega, t1, t2, fun k hk => by omega⟩, t3⟩, ⟨0, by omega, t5, t6, fun k hk => by omega⟩, ⟨t7, 0, 0, 0, 0, by omega, ?_⟩, ⟨0, 0, ⟨by omega, by omega, t8, t9, t10⟩, fun k hk => by omega⟩, fun k hk => Or.inl (z_i k hk)⟩
  · obtain ⟨r1, r2, r3, r4⟩ := z_r j hj
    exact ⟨0, by omega, r1, r2, Or.inl ⟨r3, r4⟩⟩
  · refine ⟨y1, ⟨by omega, by omega, by omega⟩, ⟨⟨0, y2, by omega, fun z => ?_⟩, ⟨0, by omega, y3⟩, fun _ => ⟨rfl, rfl, rfl⟩, Or.inl y4⟩, fun k hk => by omega, fun k hk => by omega, fun k hk => by omega, fun k hk => by omega, rfl⟩
    rw [y4] at z; exact absurd z (by decide)
