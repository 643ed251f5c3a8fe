/-! the law: its script, its end (by hand) -/
section Lx
variable {b0 L0 : Nat} {xs0 : Nat → Int32} {d M : Nat} {Q : Option AV → Hp → Prop} {kc ks pc pc' : Nat} {ls ls' : List (Nat × AV)} {st st0 : List AV} {h : Hp}
theorem lwp_pick (ps : List Nat) (hk : ps.map (fun k => ls[k]?) = ls'.map some) (kk : lwp b0 L0 xs0 d M Q kc ks pc ls' st h) : lwp b0 L0 xs0 d M Q kc ks pc ls st h := by
  intro p l e R s m args below meth c A Z E ad H locs lsC K G D hl g1 g2 g3
  refine kk p l e R s m args below meth c A Z E ad H locs lsC K G D ⟨hl.1, hl.2.1, fun q hq => hl.2.2 q ?_⟩ g1 g2 g3
  obtain ⟨z, hz, rfl⟩ := List.mem_map.mp hq
  have h1 : some z ∈ ps.map (fun k => ls[k]?) := by rw [hk]; exact List.mem_map.mpr ⟨z, hz, rfl⟩
  obtain ⟨k, -, hk2⟩ := List.mem_map.mp h1
  exact List.mem_map.mpr ⟨z, List.mem_of_getElem? hk2, rfl⟩
theorem l_sld {i : Int32} {k : Nat} (hd : fet M pc = .ok (.iaload, 1)) (hp : pc + 1 = pc') (hi0 : i = nI k) (hk : k < L0) (hL : L0 ≤ 384) (kk : lwp b0 L0 xs0 d M Q kc ks pc' ls (vI (xs0 k) :: st) h) : lwp b0 L0 xs0 d M Q kc ks pc ls (vI i :: vR (some 999) :: st) h := by
  subst hp
  intro p l e R s m args below meth c A Z E ad H locs lsC K G D hl g1 g2 g3
  obtain ⟨x1, x2, x3, x4⟩ := id g3
  show W p l e R s m args below meth c H locs kc ks Z (F0 m pc lsC (.int i :: .ref (ad 999) :: st.map (cv ad)))
  rw [x1]
  have hc : i.toNatClampNeg = k := by rw [hi0]; exact nI_clamp (by omega)
  refine va_sld K.1 K.2.1 x2 x3 x4 D.2.2 (fun q => q.elim (fun w => ?_) (fun w => by rw [hc] at w; omega)) hd ?_
  · rw [hi0] at w; exact absurd w (Int32.not_lt.mpr (nI_pos' (by omega)))
  · rw [hc]
    exact kk p l e R s m args below meth c A Z E ad H locs lsC K G D hl g1 g2 g3
theorem l_slen (hd : fet M pc = .ok (.arraylength, 1)) (hp : pc + 1 = pc') (kk : lwp b0 L0 xs0 d M Q kc ks pc' ls (vI (Int32.ofNat L0) :: st) h) : lwp b0 L0 xs0 d M Q kc ks pc ls (vR (some 999) :: st) h := by
  subst hp
  intro p l e R s m args below meth c A Z E ad H locs lsC K G D hl g1 g2 g3
  obtain ⟨x1, x2, x3, x4⟩ := id g3
  show W p l e R s m args below meth c H locs kc ks Z (F0 m pc lsC (.ref (ad 999) :: st.map (cv ad)))
  rw [x1]
  exact va_slen K.1 K.2.1 x2 x3 x4 D.2.2 hd (kk p l e R s m args below meth c A Z E ad H locs lsC K G D hl g1 g2 g3)
theorem l_iretZ1 (hd : fet M pc = .ok (.ireturn, 1)) (hr0 : rt M = some .boolean) (kk : Q (some (vI 1)) h) : lwp b0 L0 xs0 d M Q kc ks pc ls [vI 1] h := l_iret hd hr0 rfl kk
end Lx
