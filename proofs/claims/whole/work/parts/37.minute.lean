/-! the reference: a minute of a thing, of all (printed by wip/whole/m37.py) -/
theorem qh {Q : Option AV → Hp → Prop} {r : Option AV} {h1 h2 : Hp} (e : h1 = h2) (k : Q r h1) : Q r h2 := e ▸ k
theorem upd_ap (f : Nat → Int32) (k : Nat) (x : Int32) (j : Nat) : upd f k x j = if j = k then x else f j := rfl
theorem upd_self {f : Nat → Int32} {k : Nat} {x : Int32} (hx : f k = x) : upd f k x = f := by
  funext j
  unfold upd
  by_cases hj : j = k
  · rw [if_pos hj, hj, hx]
  · rw [if_neg hj]
theorem upd_comm (f : Nat → Int32) {a b : Nat} (x y : Int32) (hab : a ≠ b) : upd (upd f a x) b y = upd (upd f b y) a x := by
  funext j
  unfold upd
  by_cases hj : j = b
  · subst hj
    have : j ≠ a := fun w => hab w.symm
    simp [this]
  · simp [hj]
def gOne (s : Nat → Int32) (H : Int32) (t : Nat) : Int32 := if onI s t then (if s (69 + t) = 0 then s (57 + t) + H else leastI (s (57 + t) - 2)) else leastI (s (57 + t) - 3)
def gOther (s : Nat → Int32) (H : Int32) (t : Nat) : Int32 := if onI s t then (if s (69 + t) = 0 then leastI (s (63 + t) - 2) else s (63 + t) + H) else leastI (s (63 + t) - 3)
def gCore (s : Nat → Int32) (H : Int32) (t : Nat) : Int32 := if onI s t then s (51 + t) + (gOne s H t + gOther s H t) / thickI (s (5 + t)) else s (51 + t)
def gBurnt (s : Nat → Int32) (H : Int32) (t : Nat) : Int32 := if limitI (s (5 + t)) < gOne s H t ∨ limitI (s (5 + t)) < gOther s H t then 1 else s (75 + t)
def gT (s : Nat → Int32) (H : Int32) (t : Nat) : Nat → Int32 := upd (upd (upd (upd s (57 + t) (gOne s H t)) (63 + t) (gOther s H t)) (51 + t) (gCore s H t)) (75 + t) (gBurnt s H t)
theorem s_goThing {d : Nat} {h : Hp} {Q : Option AV → Hp → Prop} {t : Nat} (hN : hn h = 65) (hM : RM h) (ht : t < 6) (kk : Q none (setw h 51 (gT (hi h 51) (hi h 60 t) t))) : Spec (d + 2) 187 [vR (some 50), vI (nI t)] h Q := by
  refine spec_intro (by decide +kernel) rfl (Nat.le_of_ble_eq_true rfl) ?_
  refine r_aload_n (pc' := 1) d187_0 rfl rfl rfl ?_
  refine r_getS (pc' := 4) d187_1 rfl o187 sf12_7_12 sh50 (pl hN rfl) (rfm0 hM) ?_
  refine r_iconst (v := 5) (pc' := 5) d187_4 rfl (by decide) ?_
  refine r_iload_n (pc' := 6) d187_5 rfl rfl rfl ?_
  refine r_iadd (pc' := 7) d187_6 rfl ?_
  refine r_ialdN (pc' := 8) (j := (5 + t)) d187_7 rfl sh51 (pl hN rfl) (by simp only [lit, nI_add, pk_mul]) (by omega) (by decide) ?_
  refine r_istore_n (pc' := 9) (ls' := [(2, vI _), (0, vR (some 50)), (1, vI _)]) d187_8 rfl rfl (by decide) rfl ?_
  refine r_aload_n (pc' := 10) d187_9 rfl rfl rfl ?_
  refine r_iload_n (pc' := 11) d187_10 rfl rfl rfl ?_
  refine r_call (pc' := 14) [vR (some 50), vI _] [] d187_11 rfl o187 st12_163_12 (rcv1 sh50 (pl hN rfl)) rfl (by decide) ⟨rfl, rfl⟩ (Nat.le_of_ble_eq_true rfl) rfl (s_isOn hN hM (by omega) ?_)
  refine r_if_eqB 167 (pc' := 17) d187_14 rfl rfl (fun c14 => ?_) (fun c14 => ?_)
  · refine r_aload_n (pc' := 168) d187_167 rfl rfl rfl ?_
    refine r_getS (pc' := 171) d187_168 rfl o187 sf12_7_12 sh50 (pl hN rfl) (rfm0 hM) ?_
    refine r_bipush (v := 57) (pc' := 173) d187_171 rfl (by decide) ?_
    refine r_iload_n (pc' := 174) d187_173 rfl rfl rfl ?_
    refine r_iadd (pc' := 175) d187_174 rfl ?_
    refine r_aload_n (pc' := 176) d187_175 rfl rfl rfl ?_
    refine r_getS (pc' := 179) d187_176 rfl o187 sf12_7_12 sh50 (pl hN rfl) (rfm0 hM) ?_
    refine r_bipush (v := 57) (pc' := 181) d187_179 rfl (by decide) ?_
    refine r_iload_n (pc' := 182) d187_181 rfl rfl rfl ?_
    refine r_iadd (pc' := 183) d187_182 rfl ?_
    refine r_ialdN (pc' := 184) (j := (57 + t)) d187_183 rfl sh51 (pl hN rfl) (by simp only [lit, nI_add, pk_mul]) (by omega) (by decide) ?_
    refine r_iconst (v := 3) (pc' := 185) d187_184 rfl (by decide) ?_
    refine r_isub (pc' := 186) d187_185 rfl ?_
    refine r_call (pc' := 189) [vI _] [vI _, vR (some 51)] d187_186 rfl o187 st12_166 rcv0 rfl (by decide) ⟨rfl, rfl⟩ (Nat.le_of_ble_eq_true rfl) rfl (s_least ?_)
    refine r_iastN (pc' := 190) (j := (57 + t)) d187_189 rfl sh51 (pl hN rfl) (by simp only [lit, nI_add, pk_mul]) (by omega) (by decide) ?_
    refine r_aload_n (pc' := 191) d187_190 rfl rfl rfl ?_
    refine r_getS (pc' := 194) d187_191 rfl o187 sf12_7_12 sh50 (pl hN rfl) (rfm0 hM) ?_
    refine r_bipush (v := 63) (pc' := 196) d187_194 rfl (by decide) ?_
    refine r_iload_n (pc' := 197) d187_196 rfl rfl rfl ?_
    refine r_iadd (pc' := 198) d187_197 rfl ?_
    refine r_aload_n (pc' := 199) d187_198 rfl rfl rfl ?_
    refine r_getS (pc' := 202) d187_199 rfl o187 sf12_7_12 sh50 (pl hN rfl) (rfm0 hM) ?_
    refine r_bipush (v := 63) (pc' := 204) d187_202 rfl (by decide) ?_
    refine r_iload_n (pc' := 205) d187_204 rfl rfl rfl ?_
    refine r_iadd (pc' := 206) d187_205 rfl ?_
    refine r_ialdN (pc' := 207) (j := (63 + t)) d187_206 rfl sh51 (pl hN rfl) (by simp only [lit, nI_add, pk_mul]) (by omega) (by decide) ?_
    refine r_iconst (v := 3) (pc' := 208) d187_207 rfl (by decide) ?_
    refine r_isub (pc' := 209) d187_208 rfl ?_
    refine r_call (pc' := 212) [vI _] [vI _, vR (some 51)] d187_209 rfl o187 st12_166 rcv0 rfl (by decide) ⟨rfl, rfl⟩ (Nat.le_of_ble_eq_true rfl) rfl (s_least ?_)
    refine r_iastN (pc' := 213) (j := (63 + t)) d187_212 rfl sh51 (pl hN rfl) (by simp only [lit, nI_add, pk_mul]) (by omega) (by decide) ?_
    refine r_aload_n (pc' := 214) d187_213 rfl rfl rfl ?_
    refine r_getS (pc' := 217) d187_214 rfl o187 sf12_7_12 sh50 (pl hN rfl) (rfm0 hM) ?_
    refine r_bipush (v := 57) (pc' := 219) d187_217 rfl (by decide) ?_
    refine r_iload_n (pc' := 220) d187_219 rfl rfl rfl ?_
    refine r_iadd (pc' := 221) d187_220 rfl ?_
    refine r_ialdN (pc' := 222) (j := (57 + t)) d187_221 rfl sh51 (pl hN rfl) (by simp only [lit, nI_add, pk_mul]) (by omega) (by decide) ?_
    refine r_aload_n (pc' := 223) d187_222 rfl rfl rfl ?_
    refine r_iload_n (pc' := 224) d187_223 rfl rfl rfl ?_
    refine r_call (pc' := 227) [vR (some 50), vI _] [vI _] d187_224 rfl o187 st12_172_12 (rcv1 sh50 (pl hN rfl)) rfl (by decide) ⟨rfl, rfl⟩ (Nat.le_of_ble_eq_true rfl) rfl (s_limit ?_)
    refine r_icmp_gt 247 (pc' := 230) d187_227 rfl rfl (fun c227 => ?_) (fun c227 => ?_)
    · refine r_iconst (v := 1) (pc' := 248) d187_247 rfl (by decide) ?_
      refine r_goto 252 d187_248 rfl ?_
      refine r_istore_n (pc' := 253) (ls' := [(3, vI _), (2, vI _), (0, vR (some 50)), (1, vI _)]) d187_252 rfl rfl (by decide) rfl ?_
      refine r_aload_n (pc' := 254) d187_253 rfl rfl rfl ?_
      refine r_getS (pc' := 257) d187_254 rfl o187 sf12_7_12 sh50 (pl hN rfl) (rfm0 hM) ?_
      refine r_bipush (v := 75) (pc' := 259) d187_257 rfl (by decide) ?_
      refine r_iload_n (pc' := 260) d187_259 rfl rfl rfl ?_
      refine r_iadd (pc' := 261) d187_260 rfl ?_
      refine r_iload_n (pc' := 262) d187_261 rfl rfl rfl ?_
      refine r_if_eq 269 (pc' := 265) d187_262 rfl rfl (fun c262 => absurd c262 (by decide)) (fun c262 => ?_)
      refine r_iconst (v := 1) (pc' := 266) d187_265 rfl (by decide) ?_
      refine r_goto 278 d187_266 rfl ?_
      refine r_iastN (pc' := 279) (j := (75 + t)) d187_278 rfl sh51 (pl hN rfl) (by simp only [lit, nI_add, pk_mul]) (by omega) (by decide) ?_
      exact r_ret d187_279 rfl (qh (by simp only [seti_w, setw_w, hi_setw_row, hi_setw, upd_ap, Nat.add_right_cancel_iff, Nat.reduceEqDiff, reduceIte] at c227; rw [gT, gBurnt, gCore, gOne, gOther]; simp only [if_neg c14]; rw [if_pos (Or.inl c227)]; rw [upd_self (k := 51 + t) (by simp only [seti_w, setw_w, hi_setw_row, hi_setw, upd_ap, Nat.add_right_cancel_iff, Nat.reduceEqDiff, reduceIte])]; simp only [seti_w, setw_w, hi_setw_row, hi_setw, upd_ap, Nat.add_right_cancel_iff, Nat.reduceEqDiff, reduceIte]) kk)
    · refine r_aload_n (pc' := 231) d187_230 rfl rfl rfl ?_
      refine r_getS (pc' := 234) d187_231 rfl o187 sf12_7_12 sh50 (pl hN rfl) (rfm0 hM) ?_
      refine r_bipush (v := 63) (pc' := 236) d187_234 rfl (by decide) ?_
      refine r_iload_n (pc' := 237) d187_236 rfl rfl rfl ?_
      refine r_iadd (pc' := 238) d187_237 rfl ?_
      refine r_ialdN (pc' := 239) (j := (63 + t)) d187_238 rfl sh51 (pl hN rfl) (by simp only [lit, nI_add, pk_mul]) (by omega) (by decide) ?_
      refine r_aload_n (pc' := 240) d187_239 rfl rfl rfl ?_
      refine r_iload_n (pc' := 241) d187_240 rfl rfl rfl ?_
      refine r_call (pc' := 244) [vR (some 50), vI _] [vI _] d187_241 rfl o187 st12_172_12 (rcv1 sh50 (pl hN rfl)) rfl (by decide) ⟨rfl, rfl⟩ (Nat.le_of_ble_eq_true rfl) rfl (s_limit ?_)
      refine r_icmp_le 251 (pc' := 247) d187_244 rfl rfl (fun c244 => ?_) (fun c244 => ?_)
      · refine r_iconst (v := 0) (pc' := 252) d187_251 rfl (by decide) ?_
        refine r_istore_n (pc' := 253) (ls' := [(3, vI _), (2, vI _), (0, vR (some 50)), (1, vI _)]) d187_252 rfl rfl (by decide) rfl ?_
        refine r_aload_n (pc' := 254) d187_253 rfl rfl rfl ?_
        refine r_getS (pc' := 257) d187_254 rfl o187 sf12_7_12 sh50 (pl hN rfl) (rfm0 hM) ?_
        refine r_bipush (v := 75) (pc' := 259) d187_257 rfl (by decide) ?_
        refine r_iload_n (pc' := 260) d187_259 rfl rfl rfl ?_
        refine r_iadd (pc' := 261) d187_260 rfl ?_
        refine r_iload_n (pc' := 262) d187_261 rfl rfl rfl ?_
        refine r_if_eq 269 (pc' := 265) d187_262 rfl rfl (fun c262 => ?_) (fun c262 => absurd (by decide) c262)
        refine r_aload_n (pc' := 270) d187_269 rfl rfl rfl ?_
        refine r_getS (pc' := 273) d187_270 rfl o187 sf12_7_12 sh50 (pl hN rfl) (rfm0 hM) ?_
        refine r_bipush (v := 75) (pc' := 275) d187_273 rfl (by decide) ?_
        refine r_iload_n (pc' := 276) d187_275 rfl rfl rfl ?_
        refine r_iadd (pc' := 277) d187_276 rfl ?_
        refine r_ialdN (pc' := 278) (j := (75 + t)) d187_277 rfl sh51 (pl hN rfl) (by simp only [lit, nI_add, pk_mul]) (by omega) (by decide) ?_
        refine r_iastN (pc' := 279) (j := (75 + t)) d187_278 rfl sh51 (pl hN rfl) (by simp only [lit, nI_add, pk_mul]) (by omega) (by decide) ?_
        exact r_ret d187_279 rfl (qh (by simp only [seti_w, setw_w, hi_setw_row, hi_setw, upd_ap, Nat.add_right_cancel_iff, Nat.reduceEqDiff, reduceIte] at c227; simp only [seti_w, setw_w, hi_setw_row, hi_setw, upd_ap, Nat.add_right_cancel_iff, Nat.reduceEqDiff, reduceIte] at c244; rw [gT, gBurnt, gCore, gOne, gOther]; simp only [if_neg c14]; rw [if_neg (by rintro (w | w); exact c227 w; exact absurd c244 (Int32.not_le.mpr w))]; rw [upd_self (k := 51 + t) (by simp only [seti_w, setw_w, hi_setw_row, hi_setw, upd_ap, Nat.add_right_cancel_iff, Nat.reduceEqDiff, reduceIte])]; simp only [seti_w, setw_w, hi_setw_row, hi_setw, upd_ap, Nat.add_right_cancel_iff, Nat.reduceEqDiff, reduceIte]) kk)
      · refine r_iconst (v := 1) (pc' := 248) d187_247 rfl (by decide) ?_
        refine r_goto 252 d187_248 rfl ?_
        refine r_istore_n (pc' := 253) (ls' := [(3, vI _), (2, vI _), (0, vR (some 50)), (1, vI _)]) d187_252 rfl rfl (by decide) rfl ?_
        refine r_aload_n (pc' := 254) d187_253 rfl rfl rfl ?_
        refine r_getS (pc' := 257) d187_254 rfl o187 sf12_7_12 sh50 (pl hN rfl) (rfm0 hM) ?_
        refine r_bipush (v := 75) (pc' := 259) d187_257 rfl (by decide) ?_
        refine r_iload_n (pc' := 260) d187_259 rfl rfl rfl ?_
        refine r_iadd (pc' := 261) d187_260 rfl ?_
        refine r_iload_n (pc' := 262) d187_261 rfl rfl rfl ?_
        refine r_if_eq 269 (pc' := 265) d187_262 rfl rfl (fun c262 => absurd c262 (by decide)) (fun c262 => ?_)
        refine r_iconst (v := 1) (pc' := 266) d187_265 rfl (by decide) ?_
        refine r_goto 278 d187_266 rfl ?_
        refine r_iastN (pc' := 279) (j := (75 + t)) d187_278 rfl sh51 (pl hN rfl) (by simp only [lit, nI_add, pk_mul]) (by omega) (by decide) ?_
        exact r_ret d187_279 rfl (qh (by simp only [seti_w, setw_w, hi_setw_row, hi_setw, upd_ap, Nat.add_right_cancel_iff, Nat.reduceEqDiff, reduceIte] at c227; simp only [seti_w, setw_w, hi_setw_row, hi_setw, upd_ap, Nat.add_right_cancel_iff, Nat.reduceEqDiff, reduceIte] at c244; rw [gT, gBurnt, gCore, gOne, gOther]; simp only [if_neg c14]; rw [if_pos (Or.inr (Int32.not_le.mp c244))]; rw [upd_self (k := 51 + t) (by simp only [seti_w, setw_w, hi_setw_row, hi_setw, upd_ap, Nat.add_right_cancel_iff, Nat.reduceEqDiff, reduceIte])]; simp only [seti_w, setw_w, hi_setw_row, hi_setw, upd_ap, Nat.add_right_cancel_iff, Nat.reduceEqDiff, reduceIte]) kk)
  · refine r_aload_n (pc' := 18) d187_17 rfl rfl rfl ?_
    refine r_getS (pc' := 21) d187_18 rfl o187 sf12_7_12 sh50 (pl hN rfl) (rfm0 hM) ?_
    refine r_bipush (v := 69) (pc' := 23) d187_21 rfl (by decide) ?_
    refine r_iload_n (pc' := 24) d187_23 rfl rfl rfl ?_
    refine r_iadd (pc' := 25) d187_24 rfl ?_
    refine r_ialdN (pc' := 26) (j := (69 + t)) d187_25 rfl sh51 (pl hN rfl) (by simp only [lit, nI_add, pk_mul]) (by omega) (by decide) ?_
    refine r_if_ne 33 (pc' := 29) d187_26 rfl rfl (fun c26 => ?_) (fun c26 => ?_)
    · refine r_iconst (v := 0) (pc' := 34) d187_33 rfl (by decide) ?_
      refine r_istore_n (pc' := 35) (ls' := [(3, vI _), (2, vI _), (0, vR (some 50)), (1, vI _)]) d187_34 rfl rfl (by decide) rfl ?_
      refine r_aload_n (pc' := 36) d187_35 rfl rfl rfl ?_
      refine r_getS (pc' := 39) d187_36 rfl o187 sf12_7_12 sh50 (pl hN rfl) (rfm0 hM) ?_
      refine r_bipush (v := 57) (pc' := 41) d187_39 rfl (by decide) ?_
      refine r_iload_n (pc' := 42) d187_41 rfl rfl rfl ?_
      refine r_iadd (pc' := 43) d187_42 rfl ?_
      refine r_iload_n (pc' := 44) d187_43 rfl rfl rfl ?_
      refine r_if_eq 66 (pc' := 47) d187_44 rfl rfl (fun c44 => ?_) (fun c44 => absurd (by decide) c44)
      refine r_aload_n (pc' := 67) d187_66 rfl rfl rfl ?_
      refine r_getS (pc' := 70) d187_67 rfl o187 sf12_7_12 sh50 (pl hN rfl) (rfm0 hM) ?_
      refine r_bipush (v := 57) (pc' := 72) d187_70 rfl (by decide) ?_
      refine r_iload_n (pc' := 73) d187_72 rfl rfl rfl ?_
      refine r_iadd (pc' := 74) d187_73 rfl ?_
      refine r_ialdN (pc' := 75) (j := (57 + t)) d187_74 rfl sh51 (pl hN rfl) (by simp only [lit, nI_add, pk_mul]) (by omega) (by decide) ?_
      refine r_iconst (v := 2) (pc' := 76) d187_75 rfl (by decide) ?_
      refine r_isub (pc' := 77) d187_76 rfl ?_
      refine r_call (pc' := 80) [vI _] [vI _, vR (some 51)] d187_77 rfl o187 st12_166 rcv0 rfl (by decide) ⟨rfl, rfl⟩ (Nat.le_of_ble_eq_true rfl) rfl (s_least ?_)
      refine r_iastN (pc' := 81) (j := (57 + t)) d187_80 rfl sh51 (pl hN rfl) (by simp only [lit, nI_add, pk_mul]) (by omega) (by decide) ?_
      refine r_aload_n (pc' := 82) d187_81 rfl rfl rfl ?_
      refine r_getS (pc' := 85) d187_82 rfl o187 sf12_7_12 sh50 (pl hN rfl) (rfm0 hM) ?_
      refine r_bipush (v := 63) (pc' := 87) d187_85 rfl (by decide) ?_
      refine r_iload_n (pc' := 88) d187_87 rfl rfl rfl ?_
      refine r_iadd (pc' := 89) d187_88 rfl ?_
      refine r_iload_n (pc' := 90) d187_89 rfl rfl rfl ?_
      refine r_if_eq 110 (pc' := 93) d187_90 rfl rfl (fun c90 => ?_) (fun c90 => absurd (by decide) c90)
      refine r_aload_n (pc' := 111) d187_110 rfl rfl rfl ?_
      refine r_getS (pc' := 114) d187_111 rfl o187 sf12_7_12 sh50 (pl hN rfl) (rfm0 hM) ?_
      refine r_bipush (v := 63) (pc' := 116) d187_114 rfl (by decide) ?_
      refine r_iload_n (pc' := 117) d187_116 rfl rfl rfl ?_
      refine r_iadd (pc' := 118) d187_117 rfl ?_
      refine r_ialdN (pc' := 119) (j := (63 + t)) d187_118 rfl sh51 (pl hN rfl) (by simp only [lit, nI_add, pk_mul]) (by omega) (by decide) ?_
      refine r_aload_n (pc' := 120) d187_119 rfl rfl rfl ?_
      refine r_getS (pc' := 123) d187_120 rfl o187 sf12_38_12 sh50 (pl hN rfl) (rfm18 hM) ?_
      refine r_iload_n (pc' := 124) d187_123 rfl rfl rfl ?_
      refine r_ialdN (pc' := 125) (j := t) d187_124 rfl sh60 (pl hN rfl) rfl (by omega) (by decide) ?_
      refine r_iadd (pc' := 126) d187_125 rfl ?_
      refine r_iastN (pc' := 127) (j := (63 + t)) d187_126 rfl sh51 (pl hN rfl) (by simp only [lit, nI_add, pk_mul]) (by omega) (by decide) ?_
      refine r_aload_n (pc' := 128) d187_127 rfl rfl rfl ?_
      refine r_getS (pc' := 131) d187_128 rfl o187 sf12_7_12 sh50 (pl hN rfl) (rfm0 hM) ?_
      refine r_bipush (v := 51) (pc' := 133) d187_131 rfl (by decide) ?_
      refine r_iload_n (pc' := 134) d187_133 rfl rfl rfl ?_
      refine r_iadd (pc' := 135) d187_134 rfl ?_
      refine r_dup2 (pc' := 136) d187_135 rfl ?_
      refine r_ialdN (pc' := 137) (j := (51 + t)) d187_136 rfl sh51 (pl hN rfl) (by simp only [lit, nI_add, pk_mul]) (by omega) (by decide) ?_
      refine r_aload_n (pc' := 138) d187_137 rfl rfl rfl ?_
      refine r_getS (pc' := 141) d187_138 rfl o187 sf12_7_12 sh50 (pl hN rfl) (rfm0 hM) ?_
      refine r_bipush (v := 57) (pc' := 143) d187_141 rfl (by decide) ?_
      refine r_iload_n (pc' := 144) d187_143 rfl rfl rfl ?_
      refine r_iadd (pc' := 145) d187_144 rfl ?_
      refine r_ialdN (pc' := 146) (j := (57 + t)) d187_145 rfl sh51 (pl hN rfl) (by simp only [lit, nI_add, pk_mul]) (by omega) (by decide) ?_
      refine r_aload_n (pc' := 147) d187_146 rfl rfl rfl ?_
      refine r_getS (pc' := 150) d187_147 rfl o187 sf12_7_12 sh50 (pl hN rfl) (rfm0 hM) ?_
      refine r_bipush (v := 63) (pc' := 152) d187_150 rfl (by decide) ?_
      refine r_iload_n (pc' := 153) d187_152 rfl rfl rfl ?_
      refine r_iadd (pc' := 154) d187_153 rfl ?_
      refine r_ialdN (pc' := 155) (j := (63 + t)) d187_154 rfl sh51 (pl hN rfl) (by simp only [lit, nI_add, pk_mul]) (by omega) (by decide) ?_
      refine r_iadd (pc' := 156) d187_155 rfl ?_
      refine r_aload_n (pc' := 157) d187_156 rfl rfl rfl ?_
      refine r_iload_n (pc' := 158) d187_157 rfl rfl rfl ?_
      refine r_call (pc' := 161) [vR (some 50), vI _] [vI _, vI _, vI _, vR (some 51)] d187_158 rfl o187 st12_169_12 (rcv1 sh50 (pl hN rfl)) rfl (by decide) ⟨rfl, rfl⟩ (Nat.le_of_ble_eq_true rfl) rfl (s_thick ?_)
      refine r_idiv (pc' := 162) d187_161 rfl (thick_ne _) ?_
      refine r_iadd (pc' := 163) d187_162 rfl ?_
      refine r_iastN (pc' := 164) (j := (51 + t)) d187_163 rfl sh51 (pl hN rfl) (by simp only [lit, nI_add, pk_mul]) (by omega) (by decide) ?_
      refine r_goto 213 d187_164 rfl ?_
      refine r_aload_n (pc' := 214) d187_213 rfl rfl rfl ?_
      refine r_getS (pc' := 217) d187_214 rfl o187 sf12_7_12 sh50 (pl hN rfl) (rfm0 hM) ?_
      refine r_bipush (v := 57) (pc' := 219) d187_217 rfl (by decide) ?_
      refine r_iload_n (pc' := 220) d187_219 rfl rfl rfl ?_
      refine r_iadd (pc' := 221) d187_220 rfl ?_
      refine r_ialdN (pc' := 222) (j := (57 + t)) d187_221 rfl sh51 (pl hN rfl) (by simp only [lit, nI_add, pk_mul]) (by omega) (by decide) ?_
      refine r_aload_n (pc' := 223) d187_222 rfl rfl rfl ?_
      refine r_iload_n (pc' := 224) d187_223 rfl rfl rfl ?_
      refine r_call (pc' := 227) [vR (some 50), vI _] [vI _] d187_224 rfl o187 st12_172_12 (rcv1 sh50 (pl hN rfl)) rfl (by decide) ⟨rfl, rfl⟩ (Nat.le_of_ble_eq_true rfl) rfl (s_limit ?_)
      refine r_icmp_gt 247 (pc' := 230) d187_227 rfl rfl (fun c227 => ?_) (fun c227 => ?_)
      · refine r_iconst (v := 1) (pc' := 248) d187_247 rfl (by decide) ?_
        refine r_goto 252 d187_248 rfl ?_
        refine r_istore_n (pc' := 253) (ls' := [(3, vI _), (2, vI _), (0, vR (some 50)), (1, vI _)]) d187_252 rfl rfl (by decide) rfl ?_
        refine r_aload_n (pc' := 254) d187_253 rfl rfl rfl ?_
        refine r_getS (pc' := 257) d187_254 rfl o187 sf12_7_12 sh50 (pl hN rfl) (rfm0 hM) ?_
        refine r_bipush (v := 75) (pc' := 259) d187_257 rfl (by decide) ?_
        refine r_iload_n (pc' := 260) d187_259 rfl rfl rfl ?_
        refine r_iadd (pc' := 261) d187_260 rfl ?_
        refine r_iload_n (pc' := 262) d187_261 rfl rfl rfl ?_
        refine r_if_eq 269 (pc' := 265) d187_262 rfl rfl (fun c262 => absurd c262 (by decide)) (fun c262 => ?_)
        refine r_iconst (v := 1) (pc' := 266) d187_265 rfl (by decide) ?_
        refine r_goto 278 d187_266 rfl ?_
        refine r_iastN (pc' := 279) (j := (75 + t)) d187_278 rfl sh51 (pl hN rfl) (by simp only [lit, nI_add, pk_mul]) (by omega) (by decide) ?_
        exact r_ret d187_279 rfl (qh (by simp only [seti_w, setw_w, hi_setw_row, hi_setw, upd_ap, Nat.add_right_cancel_iff, Nat.reduceEqDiff, reduceIte] at c227; rw [gT, gBurnt, gCore, gOne, gOther]; simp only [if_pos c14, if_neg c26]; rw [if_pos (Or.inl c227)]; simp only [seti_w, setw_w, hi_setw_row, hi_setw, upd_ap, Nat.add_right_cancel_iff, Nat.reduceEqDiff, reduceIte]) kk)
      · refine r_aload_n (pc' := 231) d187_230 rfl rfl rfl ?_
        refine r_getS (pc' := 234) d187_231 rfl o187 sf12_7_12 sh50 (pl hN rfl) (rfm0 hM) ?_
        refine r_bipush (v := 63) (pc' := 236) d187_234 rfl (by decide) ?_
        refine r_iload_n (pc' := 237) d187_236 rfl rfl rfl ?_
        refine r_iadd (pc' := 238) d187_237 rfl ?_
        refine r_ialdN (pc' := 239) (j := (63 + t)) d187_238 rfl sh51 (pl hN rfl) (by simp only [lit, nI_add, pk_mul]) (by omega) (by decide) ?_
        refine r_aload_n (pc' := 240) d187_239 rfl rfl rfl ?_
        refine r_iload_n (pc' := 241) d187_240 rfl rfl rfl ?_
        refine r_call (pc' := 244) [vR (some 50), vI _] [vI _] d187_241 rfl o187 st12_172_12 (rcv1 sh50 (pl hN rfl)) rfl (by decide) ⟨rfl, rfl⟩ (Nat.le_of_ble_eq_true rfl) rfl (s_limit ?_)
        refine r_icmp_le 251 (pc' := 247) d187_244 rfl rfl (fun c244 => ?_) (fun c244 => ?_)
        · refine r_iconst (v := 0) (pc' := 252) d187_251 rfl (by decide) ?_
          refine r_istore_n (pc' := 253) (ls' := [(3, vI _), (2, vI _), (0, vR (some 50)), (1, vI _)]) d187_252 rfl rfl (by decide) rfl ?_
          refine r_aload_n (pc' := 254) d187_253 rfl rfl rfl ?_
          refine r_getS (pc' := 257) d187_254 rfl o187 sf12_7_12 sh50 (pl hN rfl) (rfm0 hM) ?_
          refine r_bipush (v := 75) (pc' := 259) d187_257 rfl (by decide) ?_
          refine r_iload_n (pc' := 260) d187_259 rfl rfl rfl ?_
          refine r_iadd (pc' := 261) d187_260 rfl ?_
          refine r_iload_n (pc' := 262) d187_261 rfl rfl rfl ?_
          refine r_if_eq 269 (pc' := 265) d187_262 rfl rfl (fun c262 => ?_) (fun c262 => absurd (by decide) c262)
          refine r_aload_n (pc' := 270) d187_269 rfl rfl rfl ?_
          refine r_getS (pc' := 273) d187_270 rfl o187 sf12_7_12 sh50 (pl hN rfl) (rfm0 hM) ?_
          refine r_bipush (v := 75) (pc' := 275) d187_273 rfl (by decide) ?_
          refine r_iload_n (pc' := 276) d187_275 rfl rfl rfl ?_
          refine r_iadd (pc' := 277) d187_276 rfl ?_
          refine r_ialdN (pc' := 278) (j := (75 + t)) d187_277 rfl sh51 (pl hN rfl) (by simp only [lit, nI_add, pk_mul]) (by omega) (by decide) ?_
          refine r_iastN (pc' := 279) (j := (75 + t)) d187_278 rfl sh51 (pl hN rfl) (by simp only [lit, nI_add, pk_mul]) (by omega) (by decide) ?_
          exact r_ret d187_279 rfl (qh (by simp only [seti_w, setw_w, hi_setw_row, hi_setw, upd_ap, Nat.add_right_cancel_iff, Nat.reduceEqDiff, reduceIte] at c227; simp only [seti_w, setw_w, hi_setw_row, hi_setw, upd_ap, Nat.add_right_cancel_iff, Nat.reduceEqDiff, reduceIte] at c244; rw [gT, gBurnt, gCore, gOne, gOther]; simp only [if_pos c14, if_neg c26]; rw [if_neg (by rintro (w | w); exact c227 w; exact absurd c244 (Int32.not_le.mpr w))]; simp only [seti_w, setw_w, hi_setw_row, hi_setw, upd_ap, Nat.add_right_cancel_iff, Nat.reduceEqDiff, reduceIte]) kk)
        · refine r_iconst (v := 1) (pc' := 248) d187_247 rfl (by decide) ?_
          refine r_goto 252 d187_248 rfl ?_
          refine r_istore_n (pc' := 253) (ls' := [(3, vI _), (2, vI _), (0, vR (some 50)), (1, vI _)]) d187_252 rfl rfl (by decide) rfl ?_
          refine r_aload_n (pc' := 254) d187_253 rfl rfl rfl ?_
          refine r_getS (pc' := 257) d187_254 rfl o187 sf12_7_12 sh50 (pl hN rfl) (rfm0 hM) ?_
          refine r_bipush (v := 75) (pc' := 259) d187_257 rfl (by decide) ?_
          refine r_iload_n (pc' := 260) d187_259 rfl rfl rfl ?_
          refine r_iadd (pc' := 261) d187_260 rfl ?_
          refine r_iload_n (pc' := 262) d187_261 rfl rfl rfl ?_
          refine r_if_eq 269 (pc' := 265) d187_262 rfl rfl (fun c262 => absurd c262 (by decide)) (fun c262 => ?_)
          refine r_iconst (v := 1) (pc' := 266) d187_265 rfl (by decide) ?_
          refine r_goto 278 d187_266 rfl ?_
          refine r_iastN (pc' := 279) (j := (75 + t)) d187_278 rfl sh51 (pl hN rfl) (by simp only [lit, nI_add, pk_mul]) (by omega) (by decide) ?_
          exact r_ret d187_279 rfl (qh (by simp only [seti_w, setw_w, hi_setw_row, hi_setw, upd_ap, Nat.add_right_cancel_iff, Nat.reduceEqDiff, reduceIte] at c227; simp only [seti_w, setw_w, hi_setw_row, hi_setw, upd_ap, Nat.add_right_cancel_iff, Nat.reduceEqDiff, reduceIte] at c244; rw [gT, gBurnt, gCore, gOne, gOther]; simp only [if_pos c14, if_neg c26]; rw [if_pos (Or.inr (Int32.not_le.mp c244))]; simp only [seti_w, setw_w, hi_setw_row, hi_setw, upd_ap, Nat.add_right_cancel_iff, Nat.reduceEqDiff, reduceIte]) kk)
    · refine r_iconst (v := 1) (pc' := 30) d187_29 rfl (by decide) ?_
      refine r_goto 34 d187_30 rfl ?_
      refine r_istore_n (pc' := 35) (ls' := [(3, vI _), (2, vI _), (0, vR (some 50)), (1, vI _)]) d187_34 rfl rfl (by decide) rfl ?_
      refine r_aload_n (pc' := 36) d187_35 rfl rfl rfl ?_
      refine r_getS (pc' := 39) d187_36 rfl o187 sf12_7_12 sh50 (pl hN rfl) (rfm0 hM) ?_
      refine r_bipush (v := 57) (pc' := 41) d187_39 rfl (by decide) ?_
      refine r_iload_n (pc' := 42) d187_41 rfl rfl rfl ?_
      refine r_iadd (pc' := 43) d187_42 rfl ?_
      refine r_iload_n (pc' := 44) d187_43 rfl rfl rfl ?_
      refine r_if_eq 66 (pc' := 47) d187_44 rfl rfl (fun c44 => absurd c44 (by decide)) (fun c44 => ?_)
      refine r_aload_n (pc' := 48) d187_47 rfl rfl rfl ?_
      refine r_getS (pc' := 51) d187_48 rfl o187 sf12_7_12 sh50 (pl hN rfl) (rfm0 hM) ?_
      refine r_bipush (v := 57) (pc' := 53) d187_51 rfl (by decide) ?_
      refine r_iload_n (pc' := 54) d187_53 rfl rfl rfl ?_
      refine r_iadd (pc' := 55) d187_54 rfl ?_
      refine r_ialdN (pc' := 56) (j := (57 + t)) d187_55 rfl sh51 (pl hN rfl) (by simp only [lit, nI_add, pk_mul]) (by omega) (by decide) ?_
      refine r_aload_n (pc' := 57) d187_56 rfl rfl rfl ?_
      refine r_getS (pc' := 60) d187_57 rfl o187 sf12_38_12 sh50 (pl hN rfl) (rfm18 hM) ?_
      refine r_iload_n (pc' := 61) d187_60 rfl rfl rfl ?_
      refine r_ialdN (pc' := 62) (j := t) d187_61 rfl sh60 (pl hN rfl) rfl (by omega) (by decide) ?_
      refine r_iadd (pc' := 63) d187_62 rfl ?_
      refine r_goto 80 d187_63 rfl ?_
      refine r_iastN (pc' := 81) (j := (57 + t)) d187_80 rfl sh51 (pl hN rfl) (by simp only [lit, nI_add, pk_mul]) (by omega) (by decide) ?_
      refine r_aload_n (pc' := 82) d187_81 rfl rfl rfl ?_
      refine r_getS (pc' := 85) d187_82 rfl o187 sf12_7_12 sh50 (pl hN rfl) (rfm0 hM) ?_
      refine r_bipush (v := 63) (pc' := 87) d187_85 rfl (by decide) ?_
      refine r_iload_n (pc' := 88) d187_87 rfl rfl rfl ?_
      refine r_iadd (pc' := 89) d187_88 rfl ?_
      refine r_iload_n (pc' := 90) d187_89 rfl rfl rfl ?_
      refine r_if_eq 110 (pc' := 93) d187_90 rfl rfl (fun c90 => absurd c90 (by decide)) (fun c90 => ?_)
      refine r_aload_n (pc' := 94) d187_93 rfl rfl rfl ?_
      refine r_getS (pc' := 97) d187_94 rfl o187 sf12_7_12 sh50 (pl hN rfl) (rfm0 hM) ?_
      refine r_bipush (v := 63) (pc' := 99) d187_97 rfl (by decide) ?_
      refine r_iload_n (pc' := 100) d187_99 rfl rfl rfl ?_
      refine r_iadd (pc' := 101) d187_100 rfl ?_
      refine r_ialdN (pc' := 102) (j := (63 + t)) d187_101 rfl sh51 (pl hN rfl) (by simp only [lit, nI_add, pk_mul]) (by omega) (by decide) ?_
      refine r_iconst (v := 2) (pc' := 103) d187_102 rfl (by decide) ?_
      refine r_isub (pc' := 104) d187_103 rfl ?_
      refine r_call (pc' := 107) [vI _] [vI _, vR (some 51)] d187_104 rfl o187 st12_166 rcv0 rfl (by decide) ⟨rfl, rfl⟩ (Nat.le_of_ble_eq_true rfl) rfl (s_least ?_)
      refine r_goto 126 d187_107 rfl ?_
      refine r_iastN (pc' := 127) (j := (63 + t)) d187_126 rfl sh51 (pl hN rfl) (by simp only [lit, nI_add, pk_mul]) (by omega) (by decide) ?_
      refine r_aload_n (pc' := 128) d187_127 rfl rfl rfl ?_
      refine r_getS (pc' := 131) d187_128 rfl o187 sf12_7_12 sh50 (pl hN rfl) (rfm0 hM) ?_
      refine r_bipush (v := 51) (pc' := 133) d187_131 rfl (by decide) ?_
      refine r_iload_n (pc' := 134) d187_133 rfl rfl rfl ?_
      refine r_iadd (pc' := 135) d187_134 rfl ?_
      refine r_dup2 (pc' := 136) d187_135 rfl ?_
      refine r_ialdN (pc' := 137) (j := (51 + t)) d187_136 rfl sh51 (pl hN rfl) (by simp only [lit, nI_add, pk_mul]) (by omega) (by decide) ?_
      refine r_aload_n (pc' := 138) d187_137 rfl rfl rfl ?_
      refine r_getS (pc' := 141) d187_138 rfl o187 sf12_7_12 sh50 (pl hN rfl) (rfm0 hM) ?_
      refine r_bipush (v := 57) (pc' := 143) d187_141 rfl (by decide) ?_
      refine r_iload_n (pc' := 144) d187_143 rfl rfl rfl ?_
      refine r_iadd (pc' := 145) d187_144 rfl ?_
      refine r_ialdN (pc' := 146) (j := (57 + t)) d187_145 rfl sh51 (pl hN rfl) (by simp only [lit, nI_add, pk_mul]) (by omega) (by decide) ?_
      refine r_aload_n (pc' := 147) d187_146 rfl rfl rfl ?_
      refine r_getS (pc' := 150) d187_147 rfl o187 sf12_7_12 sh50 (pl hN rfl) (rfm0 hM) ?_
      refine r_bipush (v := 63) (pc' := 152) d187_150 rfl (by decide) ?_
      refine r_iload_n (pc' := 153) d187_152 rfl rfl rfl ?_
      refine r_iadd (pc' := 154) d187_153 rfl ?_
      refine r_ialdN (pc' := 155) (j := (63 + t)) d187_154 rfl sh51 (pl hN rfl) (by simp only [lit, nI_add, pk_mul]) (by omega) (by decide) ?_
      refine r_iadd (pc' := 156) d187_155 rfl ?_
      refine r_aload_n (pc' := 157) d187_156 rfl rfl rfl ?_
      refine r_iload_n (pc' := 158) d187_157 rfl rfl rfl ?_
      refine r_call (pc' := 161) [vR (some 50), vI _] [vI _, vI _, vI _, vR (some 51)] d187_158 rfl o187 st12_169_12 (rcv1 sh50 (pl hN rfl)) rfl (by decide) ⟨rfl, rfl⟩ (Nat.le_of_ble_eq_true rfl) rfl (s_thick ?_)
      refine r_idiv (pc' := 162) d187_161 rfl (thick_ne _) ?_
      refine r_iadd (pc' := 163) d187_162 rfl ?_
      refine r_iastN (pc' := 164) (j := (51 + t)) d187_163 rfl sh51 (pl hN rfl) (by simp only [lit, nI_add, pk_mul]) (by omega) (by decide) ?_
      refine r_goto 213 d187_164 rfl ?_
      refine r_aload_n (pc' := 214) d187_213 rfl rfl rfl ?_
      refine r_getS (pc' := 217) d187_214 rfl o187 sf12_7_12 sh50 (pl hN rfl) (rfm0 hM) ?_
      refine r_bipush (v := 57) (pc' := 219) d187_217 rfl (by decide) ?_
      refine r_iload_n (pc' := 220) d187_219 rfl rfl rfl ?_
      refine r_iadd (pc' := 221) d187_220 rfl ?_
      refine r_ialdN (pc' := 222) (j := (57 + t)) d187_221 rfl sh51 (pl hN rfl) (by simp only [lit, nI_add, pk_mul]) (by omega) (by decide) ?_
      refine r_aload_n (pc' := 223) d187_222 rfl rfl rfl ?_
      refine r_iload_n (pc' := 224) d187_223 rfl rfl rfl ?_
      refine r_call (pc' := 227) [vR (some 50), vI _] [vI _] d187_224 rfl o187 st12_172_12 (rcv1 sh50 (pl hN rfl)) rfl (by decide) ⟨rfl, rfl⟩ (Nat.le_of_ble_eq_true rfl) rfl (s_limit ?_)
      refine r_icmp_gt 247 (pc' := 230) d187_227 rfl rfl (fun c227 => ?_) (fun c227 => ?_)
      · refine r_iconst (v := 1) (pc' := 248) d187_247 rfl (by decide) ?_
        refine r_goto 252 d187_248 rfl ?_
        refine r_istore_n (pc' := 253) (ls' := [(3, vI _), (2, vI _), (0, vR (some 50)), (1, vI _)]) d187_252 rfl rfl (by decide) rfl ?_
        refine r_aload_n (pc' := 254) d187_253 rfl rfl rfl ?_
        refine r_getS (pc' := 257) d187_254 rfl o187 sf12_7_12 sh50 (pl hN rfl) (rfm0 hM) ?_
        refine r_bipush (v := 75) (pc' := 259) d187_257 rfl (by decide) ?_
        refine r_iload_n (pc' := 260) d187_259 rfl rfl rfl ?_
        refine r_iadd (pc' := 261) d187_260 rfl ?_
        refine r_iload_n (pc' := 262) d187_261 rfl rfl rfl ?_
        refine r_if_eq 269 (pc' := 265) d187_262 rfl rfl (fun c262 => absurd c262 (by decide)) (fun c262 => ?_)
        refine r_iconst (v := 1) (pc' := 266) d187_265 rfl (by decide) ?_
        refine r_goto 278 d187_266 rfl ?_
        refine r_iastN (pc' := 279) (j := (75 + t)) d187_278 rfl sh51 (pl hN rfl) (by simp only [lit, nI_add, pk_mul]) (by omega) (by decide) ?_
        exact r_ret d187_279 rfl (qh (by simp only [seti_w, setw_w, hi_setw_row, hi_setw, upd_ap, Nat.add_right_cancel_iff, Nat.reduceEqDiff, reduceIte] at c227; rw [gT, gBurnt, gCore, gOne, gOther]; simp only [if_pos c14, if_pos c26]; rw [if_pos (Or.inl c227)]; simp only [seti_w, setw_w, hi_setw_row, hi_setw, upd_ap, Nat.add_right_cancel_iff, Nat.reduceEqDiff, reduceIte]) kk)
      · refine r_aload_n (pc' := 231) d187_230 rfl rfl rfl ?_
        refine r_getS (pc' := 234) d187_231 rfl o187 sf12_7_12 sh50 (pl hN rfl) (rfm0 hM) ?_
        refine r_bipush (v := 63) (pc' := 236) d187_234 rfl (by decide) ?_
        refine r_iload_n (pc' := 237) d187_236 rfl rfl rfl ?_
        refine r_iadd (pc' := 238) d187_237 rfl ?_
        refine r_ialdN (pc' := 239) (j := (63 + t)) d187_238 rfl sh51 (pl hN rfl) (by simp only [lit, nI_add, pk_mul]) (by omega) (by decide) ?_
        refine r_aload_n (pc' := 240) d187_239 rfl rfl rfl ?_
        refine r_iload_n (pc' := 241) d187_240 rfl rfl rfl ?_
        refine r_call (pc' := 244) [vR (some 50), vI _] [vI _] d187_241 rfl o187 st12_172_12 (rcv1 sh50 (pl hN rfl)) rfl (by decide) ⟨rfl, rfl⟩ (Nat.le_of_ble_eq_true rfl) rfl (s_limit ?_)
        refine r_icmp_le 251 (pc' := 247) d187_244 rfl rfl (fun c244 => ?_) (fun c244 => ?_)
        · refine r_iconst (v := 0) (pc' := 252) d187_251 rfl (by decide) ?_
          refine r_istore_n (pc' := 253) (ls' := [(3, vI _), (2, vI _), (0, vR (some 50)), (1, vI _)]) d187_252 rfl rfl (by decide) rfl ?_
          refine r_aload_n (pc' := 254) d187_253 rfl rfl rfl ?_
          refine r_getS (pc' := 257) d187_254 rfl o187 sf12_7_12 sh50 (pl hN rfl) (rfm0 hM) ?_
          refine r_bipush (v := 75) (pc' := 259) d187_257 rfl (by decide) ?_
          refine r_iload_n (pc' := 260) d187_259 rfl rfl rfl ?_
          refine r_iadd (pc' := 261) d187_260 rfl ?_
          refine r_iload_n (pc' := 262) d187_261 rfl rfl rfl ?_
          refine r_if_eq 269 (pc' := 265) d187_262 rfl rfl (fun c262 => ?_) (fun c262 => absurd (by decide) c262)
          refine r_aload_n (pc' := 270) d187_269 rfl rfl rfl ?_
          refine r_getS (pc' := 273) d187_270 rfl o187 sf12_7_12 sh50 (pl hN rfl) (rfm0 hM) ?_
          refine r_bipush (v := 75) (pc' := 275) d187_273 rfl (by decide) ?_
          refine r_iload_n (pc' := 276) d187_275 rfl rfl rfl ?_
          refine r_iadd (pc' := 277) d187_276 rfl ?_
          refine r_ialdN (pc' := 278) (j := (75 + t)) d187_277 rfl sh51 (pl hN rfl) (by simp only [lit, nI_add, pk_mul]) (by omega) (by decide) ?_
          refine r_iastN (pc' := 279) (j := (75 + t)) d187_278 rfl sh51 (pl hN rfl) (by simp only [lit, nI_add, pk_mul]) (by omega) (by decide) ?_
          exact r_ret d187_279 rfl (qh (by simp only [seti_w, setw_w, hi_setw_row, hi_setw, upd_ap, Nat.add_right_cancel_iff, Nat.reduceEqDiff, reduceIte] at c227; simp only [seti_w, setw_w, hi_setw_row, hi_setw, upd_ap, Nat.add_right_cancel_iff, Nat.reduceEqDiff, reduceIte] at c244; rw [gT, gBurnt, gCore, gOne, gOther]; simp only [if_pos c14, if_pos c26]; rw [if_neg (by rintro (w | w); exact c227 w; exact absurd c244 (Int32.not_le.mpr w))]; simp only [seti_w, setw_w, hi_setw_row, hi_setw, upd_ap, Nat.add_right_cancel_iff, Nat.reduceEqDiff, reduceIte]) kk)
        · refine r_iconst (v := 1) (pc' := 248) d187_247 rfl (by decide) ?_
          refine r_goto 252 d187_248 rfl ?_
          refine r_istore_n (pc' := 253) (ls' := [(3, vI _), (2, vI _), (0, vR (some 50)), (1, vI _)]) d187_252 rfl rfl (by decide) rfl ?_
          refine r_aload_n (pc' := 254) d187_253 rfl rfl rfl ?_
          refine r_getS (pc' := 257) d187_254 rfl o187 sf12_7_12 sh50 (pl hN rfl) (rfm0 hM) ?_
          refine r_bipush (v := 75) (pc' := 259) d187_257 rfl (by decide) ?_
          refine r_iload_n (pc' := 260) d187_259 rfl rfl rfl ?_
          refine r_iadd (pc' := 261) d187_260 rfl ?_
          refine r_iload_n (pc' := 262) d187_261 rfl rfl rfl ?_
          refine r_if_eq 269 (pc' := 265) d187_262 rfl rfl (fun c262 => absurd c262 (by decide)) (fun c262 => ?_)
          refine r_iconst (v := 1) (pc' := 266) d187_265 rfl (by decide) ?_
          refine r_goto 278 d187_266 rfl ?_
          refine r_iastN (pc' := 279) (j := (75 + t)) d187_278 rfl sh51 (pl hN rfl) (by simp only [lit, nI_add, pk_mul]) (by omega) (by decide) ?_
          exact r_ret d187_279 rfl (qh (by simp only [seti_w, setw_w, hi_setw_row, hi_setw, upd_ap, Nat.add_right_cancel_iff, Nat.reduceEqDiff, reduceIte] at c227; simp only [seti_w, setw_w, hi_setw_row, hi_setw, upd_ap, Nat.add_right_cancel_iff, Nat.reduceEqDiff, reduceIte] at c244; rw [gT, gBurnt, gCore, gOne, gOther]; simp only [if_pos c14, if_pos c26]; rw [if_pos (Or.inr (Int32.not_le.mp c244))]; simp only [seti_w, setw_w, hi_setw_row, hi_setw, upd_ap, Nat.add_right_cancel_iff, Nat.reduceEqDiff, reduceIte]) kk)
