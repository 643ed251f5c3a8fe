/-! the law's 38 cases (printed by wip/whole/p100.py) -/
section Ly
variable {b0 L0 : Nat} {xs0 : Nat → Int32} {d M : Nat} {Q : Option AV → Hp → Prop} {kc ks pc pc' : Nat} {ls ls' : List (Nat × AV)} {st st0 : List AV} {h : Hp}
theorem l_callH {M' : Nat} {ins : Instr} {cr : Option Nat} (av st : List AV) (hd : fet M pc = .ok (ins, 3)) (hp : pc + 3 = pc') {on : String} (hon : own M = on) (hs : Site on ins cr M') (hcr : rcv cr av h) (hlen : av.length = na M' + (if cr.isSome then 1 else 0)) (hml : ml M' ≤ 20) (hm : mc M' = 0 ∧ ms M' = 0) (hwt : (st.map wt).sum ≤ 8) (hst : st0 = av.reverse ++ st)
    (kk : Spec d M' av h (fun r h1 => hn h1 = hn h → lwp b0 L0 xs0 (d + 1) M Q kc ks pc' ls (nxt r st) h1)) : lwp b0 L0 xs0 (d + 1) M Q kc ks pc ls st0 h := by
  subst hp
  intro p l e R s m args below meth c A Z E ad H locs lsC K G D hl g1 g2 g3
  refine run_W (site_runL K D hl hd hon hs hcr hlen hml hwt hst (by rw [hm.1]; exact g1) (by rw [hm.2]; exact g2) kk) D.2.1 D.2.2 K.2.2.2.2.2.2.1 ?_
  intro r h1 ad' H1 locs1 a1 a2 a3 a4 a5
  obtain ⟨e1, e2⟩ := a3 hm.1
  subst e1
  rw [hm.1, hm.2]
  have w := a4 e2 p l e R s m args below meth c A Z E ad' H1 locs1 lsC K (by rw [e2]; exact G) a5 hl g1 g2 g3
  cases r with
  | none => exact w
  | some v => exact w
abbrev LSi (i : Nat) : List (Nat × AV) := [(0, vR (some 999)), (1, vR (some 0)), (2, vR (some 50)), (3, vI (nI i))]
theorem nIa (i j : Nat) : nI i + nI j = nI (i + j) := nI_add i j
theorem law_0 {i : Nat} (hi0 : i + 6 ≤ L0) (hL : L0 ≤ 384) (S0 : Sim h) (kk : ∀ h2, Sim h2 → lwp b0 L0 xs0 41 252 Q kc ks 1304 (LSi i) [] h2) : lwp b0 L0 xs0 41 252 Q kc ks 200 (LSi i) [] h := by
  obtain ⟨b, c, S⟩ := S0
  refine l_aload_n (pc' := 201) d252_200 rfl rfl rfl ?_
  refine l_aload_n (pc' := 202) d252_201 rfl rfl rfl ?_
  refine l_iload_n (pc' := 203) d252_202 rfl rfl rfl ?_
  refine l_iconst (v := 1) (pc' := 204) d252_203 rfl (by decide) ?_
  refine l_iadd (pc' := 205) d252_204 rfl ?_
  refine l_sld (k := i + 1) (pc' := 206) d252_205 rfl (nIa i 1) (by omega) hL ?_
  refine l_aload_n (pc' := 207) d252_206 rfl rfl rfl ?_
  refine l_iload_n (pc' := 208) d252_207 rfl rfl rfl ?_
  refine l_iconst (v := 2) (pc' := 209) d252_208 rfl (by decide) ?_
  refine l_iadd (pc' := 210) d252_209 rfl ?_
  refine l_sld (k := i + 2) (pc' := 211) d252_210 rfl (nIa i 2) (by omega) hL ?_
  refine l_aload_n (pc' := 212) d252_211 rfl rfl rfl ?_
  refine l_iload_n (pc' := 213) d252_212 rfl rfl rfl ?_
  refine l_iconst (v := 3) (pc' := 214) d252_213 rfl (by decide) ?_
  refine l_iadd (pc' := 215) d252_214 rfl ?_
  refine l_sld (k := i + 3) (pc' := 216) d252_215 rfl (nIa i 3) (by omega) hL ?_
  refine l_callH (pc' := 219) [vR (some 0), vI _, vI _, vI _] [] d252_216 rfl o252 stL_13_11 (rcv1 sh0 (pl S.1.1 rfl)) rfl (by decide) ⟨rfl, rfl⟩ (Nat.le_of_ble_eq_true rfl) rfl (Spec.mono (P_row S) ?_)
  rintro r h1 ⟨v, rfl, sp⟩ e1
  have hN1 : hn h1 = 65 := e1.trans S.1.1
  refine l_aload_n (pc' := 220) d252_219 rfl rfl rfl ?_
  refine l_aload_n (pc' := 221) d252_220 rfl rfl rfl ?_
  refine l_iload_n (pc' := 222) d252_221 rfl rfl rfl ?_
  refine l_iconst (v := 1) (pc' := 223) d252_222 rfl (by decide) ?_
  refine l_iadd (pc' := 224) d252_223 rfl ?_
  refine l_sld (k := i + 1) (pc' := 225) d252_224 rfl (nIa i 1) (by omega) hL ?_
  refine l_aload_n (pc' := 226) d252_225 rfl rfl rfl ?_
  refine l_iload_n (pc' := 227) d252_226 rfl rfl rfl ?_
  refine l_iconst (v := 2) (pc' := 228) d252_227 rfl (by decide) ?_
  refine l_iadd (pc' := 229) d252_228 rfl ?_
  refine l_sld (k := i + 2) (pc' := 230) d252_229 rfl (nIa i 2) (by omega) hL ?_
  refine l_aload_n (pc' := 231) d252_230 rfl rfl rfl ?_
  refine l_iload_n (pc' := 232) d252_231 rfl rfl rfl ?_
  refine l_iconst (v := 3) (pc' := 233) d252_232 rfl (by decide) ?_
  refine l_iadd (pc' := 234) d252_233 rfl ?_
  refine l_sld (k := i + 3) (pc' := 235) d252_234 rfl (nIa i 3) (by omega) hL ?_
  refine l_callH (pc' := 238) [vR (some 50), vI _, vI _, vI _] [vI v] d252_235 rfl o252 stL_17_12 (rcv1 sh50 (pl hN1 rfl)) rfl (by decide) ⟨rfl, rfl⟩ (Nat.le_of_ble_eq_true rfl) rfl (Spec.mono sp ?_)
  rintro r2 h2 ⟨rfl, S2⟩ _
  exact l_icmp_eq 1304 d252_238 rfl rfl (fun _ => kk h2 S2) (fun w => absurd rfl w)
theorem law_1 {i : Nat} (hi0 : i + 6 ≤ L0) (hL : L0 ≤ 384) (S0 : Sim h) (kk : ∀ h2, Sim h2 → lwp b0 L0 xs0 41 252 Q kc ks 1304 (LSi i) [] h2) : lwp b0 L0 xs0 41 252 Q kc ks 243 (LSi i) [] h := by
  obtain ⟨b, c, S⟩ := S0
  refine l_aload_n (pc' := 244) d252_243 rfl rfl rfl ?_
  refine l_aload_n (pc' := 245) d252_244 rfl rfl rfl ?_
  refine l_iload_n (pc' := 246) d252_245 rfl rfl rfl ?_
  refine l_iconst (v := 1) (pc' := 247) d252_246 rfl (by decide) ?_
  refine l_iadd (pc' := 248) d252_247 rfl ?_
  refine l_sld (k := i + 1) (pc' := 249) d252_248 rfl (nIa i 1) (by omega) hL ?_
  refine l_aload_n (pc' := 250) d252_249 rfl rfl rfl ?_
  refine l_iload_n (pc' := 251) d252_250 rfl rfl rfl ?_
  refine l_iconst (v := 2) (pc' := 252) d252_251 rfl (by decide) ?_
  refine l_iadd (pc' := 253) d252_252 rfl ?_
  refine l_sld (k := i + 2) (pc' := 254) d252_253 rfl (nIa i 2) (by omega) hL ?_
  refine l_aload_n (pc' := 255) d252_254 rfl rfl rfl ?_
  refine l_iload_n (pc' := 256) d252_255 rfl rfl rfl ?_
  refine l_iconst (v := 3) (pc' := 257) d252_256 rfl (by decide) ?_
  refine l_iadd (pc' := 258) d252_257 rfl ?_
  refine l_sld (k := i + 3) (pc' := 259) d252_258 rfl (nIa i 3) (by omega) hL ?_
  refine l_callH (pc' := 262) [vR (some 0), vI _, vI _, vI _] [] d252_259 rfl o252 stL_18_11 (rcv1 sh0 (pl S.1.1 rfl)) rfl (by decide) ⟨rfl, rfl⟩ (Nat.le_of_ble_eq_true rfl) rfl (Spec.mono (P_set S) ?_)
  rintro r h1 ⟨v, rfl, sp⟩ e1
  have hN1 : hn h1 = 65 := e1.trans S.1.1
  refine l_aload_n (pc' := 263) d252_262 rfl rfl rfl ?_
  refine l_aload_n (pc' := 264) d252_263 rfl rfl rfl ?_
  refine l_iload_n (pc' := 265) d252_264 rfl rfl rfl ?_
  refine l_iconst (v := 1) (pc' := 266) d252_265 rfl (by decide) ?_
  refine l_iadd (pc' := 267) d252_266 rfl ?_
  refine l_sld (k := i + 1) (pc' := 268) d252_267 rfl (nIa i 1) (by omega) hL ?_
  refine l_aload_n (pc' := 269) d252_268 rfl rfl rfl ?_
  refine l_iload_n (pc' := 270) d252_269 rfl rfl rfl ?_
  refine l_iconst (v := 2) (pc' := 271) d252_270 rfl (by decide) ?_
  refine l_iadd (pc' := 272) d252_271 rfl ?_
  refine l_sld (k := i + 2) (pc' := 273) d252_272 rfl (nIa i 2) (by omega) hL ?_
  refine l_aload_n (pc' := 274) d252_273 rfl rfl rfl ?_
  refine l_iload_n (pc' := 275) d252_274 rfl rfl rfl ?_
  refine l_iconst (v := 3) (pc' := 276) d252_275 rfl (by decide) ?_
  refine l_iadd (pc' := 277) d252_276 rfl ?_
  refine l_sld (k := i + 3) (pc' := 278) d252_277 rfl (nIa i 3) (by omega) hL ?_
  refine l_callH (pc' := 281) [vR (some 50), vI _, vI _, vI _] [vI v] d252_278 rfl o252 stL_21_12 (rcv1 sh50 (pl hN1 rfl)) rfl (by decide) ⟨rfl, rfl⟩ (Nat.le_of_ble_eq_true rfl) rfl (Spec.mono sp ?_)
  rintro r2 h2 ⟨rfl, S2⟩ _
  exact l_icmp_eq 1304 d252_281 rfl rfl (fun _ => kk h2 S2) (fun w => absurd rfl w)
theorem law_2 {i : Nat} (hi0 : i + 6 ≤ L0) (hL : L0 ≤ 384) (S0 : Sim h) (kk : ∀ h2, Sim h2 → lwp b0 L0 xs0 41 252 Q kc ks 1304 (LSi i) [] h2) : lwp b0 L0 xs0 41 252 Q kc ks 286 (LSi i) [] h := by
  obtain ⟨b, c, S⟩ := S0
  refine l_aload_n (pc' := 287) d252_286 rfl rfl rfl ?_
  refine l_aload_n (pc' := 288) d252_287 rfl rfl rfl ?_
  refine l_iload_n (pc' := 289) d252_288 rfl rfl rfl ?_
  refine l_iconst (v := 1) (pc' := 290) d252_289 rfl (by decide) ?_
  refine l_iadd (pc' := 291) d252_290 rfl ?_
  refine l_sld (k := i + 1) (pc' := 292) d252_291 rfl (nIa i 1) (by omega) hL ?_
  refine l_aload_n (pc' := 293) d252_292 rfl rfl rfl ?_
  refine l_iload_n (pc' := 294) d252_293 rfl rfl rfl ?_
  refine l_iconst (v := 2) (pc' := 295) d252_294 rfl (by decide) ?_
  refine l_iadd (pc' := 296) d252_295 rfl ?_
  refine l_sld (k := i + 2) (pc' := 297) d252_296 rfl (nIa i 2) (by omega) hL ?_
  refine l_aload_n (pc' := 298) d252_297 rfl rfl rfl ?_
  refine l_iload_n (pc' := 299) d252_298 rfl rfl rfl ?_
  refine l_iconst (v := 3) (pc' := 300) d252_299 rfl (by decide) ?_
  refine l_iadd (pc' := 301) d252_300 rfl ?_
  refine l_sld (k := i + 3) (pc' := 302) d252_301 rfl (nIa i 3) (by omega) hL ?_
  refine l_aload_n (pc' := 303) d252_302 rfl rfl rfl ?_
  refine l_iload_n (pc' := 304) d252_303 rfl rfl rfl ?_
  refine l_iconst (v := 4) (pc' := 305) d252_304 rfl (by decide) ?_
  refine l_iadd (pc' := 306) d252_305 rfl ?_
  refine l_sld (k := i + 4) (pc' := 307) d252_306 rfl (nIa i 4) (by omega) hL ?_
  refine l_aload_n (pc' := 308) d252_307 rfl rfl rfl ?_
  refine l_iload_n (pc' := 309) d252_308 rfl rfl rfl ?_
  refine l_iconst (v := 5) (pc' := 310) d252_309 rfl (by decide) ?_
  refine l_iadd (pc' := 311) d252_310 rfl ?_
  refine l_sld (k := i + 5) (pc' := 312) d252_311 rfl (nIa i 5) (by omega) hL ?_
  refine l_callH (pc' := 315) [vR (some 0), vI _, vI _, vI _, vI _, vI _] [] d252_312 rfl o252 stL_22_11 (rcv1 sh0 (pl S.1.1 rfl)) rfl (by decide) ⟨rfl, rfl⟩ (Nat.le_of_ble_eq_true rfl) rfl (Spec.mono (P_copy S) ?_)
  rintro r h1 ⟨v, rfl, sp⟩ e1
  have hN1 : hn h1 = 65 := e1.trans S.1.1
  refine l_aload_n (pc' := 316) d252_315 rfl rfl rfl ?_
  refine l_aload_n (pc' := 317) d252_316 rfl rfl rfl ?_
  refine l_iload_n (pc' := 318) d252_317 rfl rfl rfl ?_
  refine l_iconst (v := 1) (pc' := 319) d252_318 rfl (by decide) ?_
  refine l_iadd (pc' := 320) d252_319 rfl ?_
  refine l_sld (k := i + 1) (pc' := 321) d252_320 rfl (nIa i 1) (by omega) hL ?_
  refine l_aload_n (pc' := 322) d252_321 rfl rfl rfl ?_
  refine l_iload_n (pc' := 323) d252_322 rfl rfl rfl ?_
  refine l_iconst (v := 2) (pc' := 324) d252_323 rfl (by decide) ?_
  refine l_iadd (pc' := 325) d252_324 rfl ?_
  refine l_sld (k := i + 2) (pc' := 326) d252_325 rfl (nIa i 2) (by omega) hL ?_
  refine l_aload_n (pc' := 327) d252_326 rfl rfl rfl ?_
  refine l_iload_n (pc' := 328) d252_327 rfl rfl rfl ?_
  refine l_iconst (v := 3) (pc' := 329) d252_328 rfl (by decide) ?_
  refine l_iadd (pc' := 330) d252_329 rfl ?_
  refine l_sld (k := i + 3) (pc' := 331) d252_330 rfl (nIa i 3) (by omega) hL ?_
  refine l_aload_n (pc' := 332) d252_331 rfl rfl rfl ?_
  refine l_iload_n (pc' := 333) d252_332 rfl rfl rfl ?_
  refine l_iconst (v := 4) (pc' := 334) d252_333 rfl (by decide) ?_
  refine l_iadd (pc' := 335) d252_334 rfl ?_
  refine l_sld (k := i + 4) (pc' := 336) d252_335 rfl (nIa i 4) (by omega) hL ?_
  refine l_aload_n (pc' := 337) d252_336 rfl rfl rfl ?_
  refine l_iload_n (pc' := 338) d252_337 rfl rfl rfl ?_
  refine l_iconst (v := 5) (pc' := 339) d252_338 rfl (by decide) ?_
  refine l_iadd (pc' := 340) d252_339 rfl ?_
  refine l_sld (k := i + 5) (pc' := 341) d252_340 rfl (nIa i 5) (by omega) hL ?_
  refine l_callH (pc' := 344) [vR (some 50), vI _, vI _, vI _, vI _, vI _] [vI v] d252_341 rfl o252 stL_26_12 (rcv1 sh50 (pl hN1 rfl)) rfl (by decide) ⟨rfl, rfl⟩ (Nat.le_of_ble_eq_true rfl) rfl (Spec.mono sp ?_)
  rintro r2 h2 ⟨rfl, S2⟩ _
  exact l_icmp_eq 1304 d252_344 rfl rfl (fun _ => kk h2 S2) (fun w => absurd rfl w)
theorem law_3 {i : Nat} (hi0 : i + 6 ≤ L0) (hL : L0 ≤ 384) (S0 : Sim h) (kk : ∀ h2, Sim h2 → lwp b0 L0 xs0 41 252 Q kc ks 1304 (LSi i) [] h2) : lwp b0 L0 xs0 41 252 Q kc ks 349 (LSi i) [] h := by
  obtain ⟨b, c, S⟩ := S0
  refine l_aload_n (pc' := 350) d252_349 rfl rfl rfl ?_
  refine l_aload_n (pc' := 351) d252_350 rfl rfl rfl ?_
  refine l_iload_n (pc' := 352) d252_351 rfl rfl rfl ?_
  refine l_iconst (v := 1) (pc' := 353) d252_352 rfl (by decide) ?_
  refine l_iadd (pc' := 354) d252_353 rfl ?_
  refine l_sld (k := i + 1) (pc' := 355) d252_354 rfl (nIa i 1) (by omega) hL ?_
  refine l_callH (pc' := 358) [vR (some 0), vI _] [] d252_355 rfl o252 stL_27_11 (rcv1 sh0 (pl S.1.1 rfl)) rfl (by decide) ⟨rfl, rfl⟩ (Nat.le_of_ble_eq_true rfl) rfl (Spec.mono (P_drop S) ?_)
  rintro r h1 ⟨v, rfl, sp⟩ e1
  have hN1 : hn h1 = 65 := e1.trans S.1.1
  refine l_aload_n (pc' := 359) d252_358 rfl rfl rfl ?_
  refine l_aload_n (pc' := 360) d252_359 rfl rfl rfl ?_
  refine l_iload_n (pc' := 361) d252_360 rfl rfl rfl ?_
  refine l_iconst (v := 1) (pc' := 362) d252_361 rfl (by decide) ?_
  refine l_iadd (pc' := 363) d252_362 rfl ?_
  refine l_sld (k := i + 1) (pc' := 364) d252_363 rfl (nIa i 1) (by omega) hL ?_
  refine l_callH (pc' := 367) [vR (some 50), vI _] [vI v] d252_364 rfl o252 stL_31_12 (rcv1 sh50 (pl hN1 rfl)) rfl (by decide) ⟨rfl, rfl⟩ (Nat.le_of_ble_eq_true rfl) rfl (Spec.mono sp ?_)
  rintro r2 h2 ⟨rfl, S2⟩ _
  exact l_icmp_eq 1304 d252_367 rfl rfl (fun _ => kk h2 S2) (fun w => absurd rfl w)
theorem law_4 {i : Nat} (hi0 : i + 6 ≤ L0) (hL : L0 ≤ 384) (S0 : Sim h) (kk : ∀ h2, Sim h2 → lwp b0 L0 xs0 41 252 Q kc ks 1304 (LSi i) [] h2) : lwp b0 L0 xs0 41 252 Q kc ks 372 (LSi i) [] h := by
  obtain ⟨b, c, S⟩ := S0
  refine l_aload_n (pc' := 373) d252_372 rfl rfl rfl ?_
  refine l_aload_n (pc' := 374) d252_373 rfl rfl rfl ?_
  refine l_iload_n (pc' := 375) d252_374 rfl rfl rfl ?_
  refine l_iconst (v := 1) (pc' := 376) d252_375 rfl (by decide) ?_
  refine l_iadd (pc' := 377) d252_376 rfl ?_
  refine l_sld (k := i + 1) (pc' := 378) d252_377 rfl (nIa i 1) (by omega) hL ?_
  refine l_callH (pc' := 381) [vR (some 0), vI _] [] d252_378 rfl o252 stL_32_11 (rcv1 sh0 (pl S.1.1 rfl)) rfl (by decide) ⟨rfl, rfl⟩ (Nat.le_of_ble_eq_true rfl) rfl (Spec.mono (P_feed S) ?_)
  rintro r h1 ⟨v, rfl, sp⟩ e1
  have hN1 : hn h1 = 65 := e1.trans S.1.1
  refine l_aload_n (pc' := 382) d252_381 rfl rfl rfl ?_
  refine l_aload_n (pc' := 383) d252_382 rfl rfl rfl ?_
  refine l_iload_n (pc' := 384) d252_383 rfl rfl rfl ?_
  refine l_iconst (v := 1) (pc' := 385) d252_384 rfl (by decide) ?_
  refine l_iadd (pc' := 386) d252_385 rfl ?_
  refine l_sld (k := i + 1) (pc' := 387) d252_386 rfl (nIa i 1) (by omega) hL ?_
  refine l_callH (pc' := 390) [vR (some 50), vI _] [vI v] d252_387 rfl o252 stL_35_12 (rcv1 sh50 (pl hN1 rfl)) rfl (by decide) ⟨rfl, rfl⟩ (Nat.le_of_ble_eq_true rfl) rfl (Spec.mono sp ?_)
  rintro r2 h2 ⟨rfl, S2⟩ _
  exact l_icmp_eq 1304 d252_390 rfl rfl (fun _ => kk h2 S2) (fun w => absurd rfl w)
theorem law_5 {i : Nat} (hi0 : i + 6 ≤ L0) (hL : L0 ≤ 384) (S0 : Sim h) (kk : ∀ h2, Sim h2 → lwp b0 L0 xs0 41 252 Q kc ks 1304 (LSi i) [] h2) : lwp b0 L0 xs0 41 252 Q kc ks 395 (LSi i) [] h := by
  obtain ⟨b, c, S⟩ := S0
  refine l_aload_n (pc' := 396) d252_395 rfl rfl rfl ?_
  refine l_callH (pc' := 399) [vR (some 0)] [] d252_396 rfl o252 stL_36_11 (rcv1 sh0 (pl S.1.1 rfl)) rfl (by decide) ⟨rfl, rfl⟩ (Nat.le_of_ble_eq_true rfl) rfl (Spec.mono (P_yard S) ?_)
  rintro r h1 ⟨v, rfl, sp⟩ e1
  have hN1 : hn h1 = 65 := e1.trans S.1.1
  refine l_aload_n (pc' := 400) d252_399 rfl rfl rfl ?_
  refine l_callH (pc' := 403) [vR (some 50)] [vI v] d252_400 rfl o252 stL_40_12 (rcv1 sh50 (pl hN1 rfl)) rfl (by decide) ⟨rfl, rfl⟩ (Nat.le_of_ble_eq_true rfl) rfl (Spec.mono sp ?_)
  rintro r2 h2 ⟨rfl, S2⟩ _
  exact l_icmp_eq 1304 d252_403 rfl rfl (fun _ => kk h2 S2) (fun w => absurd rfl w)
theorem law_6 {i : Nat} (hi0 : i + 6 ≤ L0) (hL : L0 ≤ 384) (S0 : Sim h) (kk : ∀ h2, Sim h2 → lwp b0 L0 xs0 41 252 Q kc ks 1304 (LSi i) [] h2) : lwp b0 L0 xs0 41 252 Q kc ks 408 (LSi i) [] h := by
  obtain ⟨b, c, S⟩ := S0
  refine l_aload_n (pc' := 409) d252_408 rfl rfl rfl ?_
  refine l_callH (pc' := 412) [vR (some 0)] [] d252_409 rfl o252 stL_41_11 (rcv1 sh0 (pl S.1.1 rfl)) rfl (by decide) ⟨rfl, rfl⟩ (Nat.le_of_ble_eq_true rfl) rfl (Spec.mono (P_fault S) ?_)
  rintro r h1 ⟨v, rfl, sp⟩ e1
  have hN1 : hn h1 = 65 := e1.trans S.1.1
  refine l_aload_n (pc' := 413) d252_412 rfl rfl rfl ?_
  refine l_callH (pc' := 416) [vR (some 50)] [vI v] d252_413 rfl o252 stL_44_12 (rcv1 sh50 (pl hN1 rfl)) rfl (by decide) ⟨rfl, rfl⟩ (Nat.le_of_ble_eq_true rfl) rfl (Spec.mono sp ?_)
  rintro r2 h2 ⟨rfl, S2⟩ _
  exact l_icmp_eq 1304 d252_416 rfl rfl (fun _ => kk h2 S2) (fun w => absurd rfl w)
theorem law_7 {i : Nat} (hi0 : i + 6 ≤ L0) (hL : L0 ≤ 384) (S0 : Sim h) (kk : ∀ h2, Sim h2 → lwp b0 L0 xs0 41 252 Q kc ks 1304 (LSi i) [] h2) : lwp b0 L0 xs0 41 252 Q kc ks 421 (LSi i) [] h := by
  obtain ⟨b, c, S⟩ := S0
  refine l_aload_n (pc' := 422) d252_421 rfl rfl rfl ?_
  refine l_aload_n (pc' := 423) d252_422 rfl rfl rfl ?_
  refine l_iload_n (pc' := 424) d252_423 rfl rfl rfl ?_
  refine l_iconst (v := 1) (pc' := 425) d252_424 rfl (by decide) ?_
  refine l_iadd (pc' := 426) d252_425 rfl ?_
  refine l_sld (k := i + 1) (pc' := 427) d252_426 rfl (nIa i 1) (by omega) hL ?_
  refine l_callH (pc' := 430) [vR (some 0), vI _] [] d252_427 rfl o252 stL_45_11 (rcv1 sh0 (pl S.1.1 rfl)) rfl (by decide) ⟨rfl, rfl⟩ (Nat.le_of_ble_eq_true rfl) rfl (Spec.mono (P_minutes S) ?_)
  rintro r h1 ⟨v, rfl, sp⟩ e1
  have hN1 : hn h1 = 65 := e1.trans S.1.1
  refine l_aload_n (pc' := 431) d252_430 rfl rfl rfl ?_
  refine l_aload_n (pc' := 432) d252_431 rfl rfl rfl ?_
  refine l_iload_n (pc' := 433) d252_432 rfl rfl rfl ?_
  refine l_iconst (v := 1) (pc' := 434) d252_433 rfl (by decide) ?_
  refine l_iadd (pc' := 435) d252_434 rfl ?_
  refine l_sld (k := i + 1) (pc' := 436) d252_435 rfl (nIa i 1) (by omega) hL ?_
  refine l_callH (pc' := 439) [vR (some 50), vI _] [vI v] d252_436 rfl o252 stL_48_12 (rcv1 sh50 (pl hN1 rfl)) rfl (by decide) ⟨rfl, rfl⟩ (Nat.le_of_ble_eq_true rfl) rfl (Spec.mono sp ?_)
  rintro r2 h2 ⟨rfl, S2⟩ _
  exact l_icmp_eq 1304 d252_439 rfl rfl (fun _ => kk h2 S2) (fun w => absurd rfl w)
theorem law_8 {i : Nat} (hi0 : i + 6 ≤ L0) (hL : L0 ≤ 384) (S0 : Sim h) (kk : ∀ h2, Sim h2 → lwp b0 L0 xs0 41 252 Q kc ks 1304 (LSi i) [] h2) : lwp b0 L0 xs0 41 252 Q kc ks 444 (LSi i) [] h := by
  obtain ⟨b, c, S⟩ := S0
  refine l_aload_n (pc' := 445) d252_444 rfl rfl rfl ?_
  refine l_aload_n (pc' := 446) d252_445 rfl rfl rfl ?_
  refine l_iload_n (pc' := 447) d252_446 rfl rfl rfl ?_
  refine l_iconst (v := 1) (pc' := 448) d252_447 rfl (by decide) ?_
  refine l_iadd (pc' := 449) d252_448 rfl ?_
  refine l_sld (k := i + 1) (pc' := 450) d252_449 rfl (nIa i 1) (by omega) hL ?_
  refine l_callH (pc' := 453) [vR (some 0), vI _] [] d252_450 rfl o252 stL_49_11 (rcv1 sh0 (pl S.1.1 rfl)) rfl (by decide) ⟨rfl, rfl⟩ (Nat.le_of_ble_eq_true rfl) rfl (Spec.mono (P_turn S) ?_)
  rintro r h1 ⟨v, rfl, sp⟩ e1
  have hN1 : hn h1 = 65 := e1.trans S.1.1
  refine l_aload_n (pc' := 454) d252_453 rfl rfl rfl ?_
  refine l_aload_n (pc' := 455) d252_454 rfl rfl rfl ?_
  refine l_iload_n (pc' := 456) d252_455 rfl rfl rfl ?_
  refine l_iconst (v := 1) (pc' := 457) d252_456 rfl (by decide) ?_
  refine l_iadd (pc' := 458) d252_457 rfl ?_
  refine l_sld (k := i + 1) (pc' := 459) d252_458 rfl (nIa i 1) (by omega) hL ?_
  refine l_callH (pc' := 462) [vR (some 50), vI _] [vI v] d252_459 rfl o252 stL_52_12 (rcv1 sh50 (pl hN1 rfl)) rfl (by decide) ⟨rfl, rfl⟩ (Nat.le_of_ble_eq_true rfl) rfl (Spec.mono sp ?_)
  rintro r2 h2 ⟨rfl, S2⟩ _
  exact l_icmp_eq 1304 d252_462 rfl rfl (fun _ => kk h2 S2) (fun w => absurd rfl w)
theorem law_9 {i : Nat} (hi0 : i + 6 ≤ L0) (hL : L0 ≤ 384) (S0 : Sim h) (kk : ∀ h2, Sim h2 → lwp b0 L0 xs0 41 252 Q kc ks 1304 (LSi i) [] h2) : lwp b0 L0 xs0 41 252 Q kc ks 467 (LSi i) [] h := by
  obtain ⟨b, c, S⟩ := S0
  refine l_aload_n (pc' := 468) d252_467 rfl rfl rfl ?_
  refine l_aload_n (pc' := 469) d252_468 rfl rfl rfl ?_
  refine l_iload_n (pc' := 470) d252_469 rfl rfl rfl ?_
  refine l_iconst (v := 1) (pc' := 471) d252_470 rfl (by decide) ?_
  refine l_iadd (pc' := 472) d252_471 rfl ?_
  refine l_sld (k := i + 1) (pc' := 473) d252_472 rfl (nIa i 1) (by omega) hL ?_
  refine l_aload_n (pc' := 474) d252_473 rfl rfl rfl ?_
  refine l_iload_n (pc' := 475) d252_474 rfl rfl rfl ?_
  refine l_iconst (v := 2) (pc' := 476) d252_475 rfl (by decide) ?_
  refine l_iadd (pc' := 477) d252_476 rfl ?_
  refine l_sld (k := i + 2) (pc' := 478) d252_477 rfl (nIa i 2) (by omega) hL ?_
  refine l_callH (pc' := 481) [vR (some 0), vI _, vI _] [] d252_478 rfl o252 stL_53_11 (rcv1 sh0 (pl S.1.1 rfl)) rfl (by decide) ⟨rfl, rfl⟩ (Nat.le_of_ble_eq_true rfl) rfl (Spec.mono (P_move S) ?_)
  rintro r h1 ⟨v, rfl, sp⟩ e1
  have hN1 : hn h1 = 65 := e1.trans S.1.1
  refine l_aload_n (pc' := 482) d252_481 rfl rfl rfl ?_
  refine l_aload_n (pc' := 483) d252_482 rfl rfl rfl ?_
  refine l_iload_n (pc' := 484) d252_483 rfl rfl rfl ?_
  refine l_iconst (v := 1) (pc' := 485) d252_484 rfl (by decide) ?_
  refine l_iadd (pc' := 486) d252_485 rfl ?_
  refine l_sld (k := i + 1) (pc' := 487) d252_486 rfl (nIa i 1) (by omega) hL ?_
  refine l_aload_n (pc' := 488) d252_487 rfl rfl rfl ?_
  refine l_iload_n (pc' := 489) d252_488 rfl rfl rfl ?_
  refine l_iconst (v := 2) (pc' := 490) d252_489 rfl (by decide) ?_
  refine l_iadd (pc' := 491) d252_490 rfl ?_
  refine l_sld (k := i + 2) (pc' := 492) d252_491 rfl (nIa i 2) (by omega) hL ?_
  refine l_callH (pc' := 495) [vR (some 50), vI _, vI _] [vI v] d252_492 rfl o252 stL_57_12 (rcv1 sh50 (pl hN1 rfl)) rfl (by decide) ⟨rfl, rfl⟩ (Nat.le_of_ble_eq_true rfl) rfl (Spec.mono sp ?_)
  rintro r2 h2 ⟨rfl, S2⟩ _
  exact l_icmp_eq 1304 d252_495 rfl rfl (fun _ => kk h2 S2) (fun w => absurd rfl w)
theorem law_10 {i : Nat} (hi0 : i + 6 ≤ L0) (hL : L0 ≤ 384) (S0 : Sim h) (kk : ∀ h2, Sim h2 → lwp b0 L0 xs0 41 252 Q kc ks 1304 (LSi i) [] h2) : lwp b0 L0 xs0 41 252 Q kc ks 500 (LSi i) [] h := by
  obtain ⟨b, c, S⟩ := S0
  refine l_aload_n (pc' := 501) d252_500 rfl rfl rfl ?_
  refine l_aload_n (pc' := 502) d252_501 rfl rfl rfl ?_
  refine l_iload_n (pc' := 503) d252_502 rfl rfl rfl ?_
  refine l_iconst (v := 1) (pc' := 504) d252_503 rfl (by decide) ?_
  refine l_iadd (pc' := 505) d252_504 rfl ?_
  refine l_sld (k := i + 1) (pc' := 506) d252_505 rfl (nIa i 1) (by omega) hL ?_
  refine l_aload_n (pc' := 507) d252_506 rfl rfl rfl ?_
  refine l_iload_n (pc' := 508) d252_507 rfl rfl rfl ?_
  refine l_iconst (v := 2) (pc' := 509) d252_508 rfl (by decide) ?_
  refine l_iadd (pc' := 510) d252_509 rfl ?_
  refine l_sld (k := i + 2) (pc' := 511) d252_510 rfl (nIa i 2) (by omega) hL ?_
  refine l_callH (pc' := 514) [vR (some 0), vI _, vI _] [] d252_511 rfl o252 stL_58_11 (rcv1 sh0 (pl S.1.1 rfl)) rfl (by decide) ⟨rfl, rfl⟩ (Nat.le_of_ble_eq_true rfl) rfl (Spec.mono (P_coal S) ?_)
  rintro r h1 ⟨v, rfl, sp⟩ e1
  have hN1 : hn h1 = 65 := e1.trans S.1.1
  refine l_aload_n (pc' := 515) d252_514 rfl rfl rfl ?_
  refine l_aload_n (pc' := 516) d252_515 rfl rfl rfl ?_
  refine l_iload_n (pc' := 517) d252_516 rfl rfl rfl ?_
  refine l_iconst (v := 1) (pc' := 518) d252_517 rfl (by decide) ?_
  refine l_iadd (pc' := 519) d252_518 rfl ?_
  refine l_sld (k := i + 1) (pc' := 520) d252_519 rfl (nIa i 1) (by omega) hL ?_
  refine l_aload_n (pc' := 521) d252_520 rfl rfl rfl ?_
  refine l_iload_n (pc' := 522) d252_521 rfl rfl rfl ?_
  refine l_iconst (v := 2) (pc' := 523) d252_522 rfl (by decide) ?_
  refine l_iadd (pc' := 524) d252_523 rfl ?_
  refine l_sld (k := i + 2) (pc' := 525) d252_524 rfl (nIa i 2) (by omega) hL ?_
  refine l_callH (pc' := 528) [vR (some 50), vI _, vI _] [vI v] d252_525 rfl o252 stL_61_12 (rcv1 sh50 (pl hN1 rfl)) rfl (by decide) ⟨rfl, rfl⟩ (Nat.le_of_ble_eq_true rfl) rfl (Spec.mono sp ?_)
  rintro r2 h2 ⟨rfl, S2⟩ _
  exact l_icmp_eq 1304 d252_528 rfl rfl (fun _ => kk h2 S2) (fun w => absurd rfl w)
theorem law_11 {i : Nat} (hi0 : i + 6 ≤ L0) (hL : L0 ≤ 384) (S0 : Sim h) (kk : ∀ h2, Sim h2 → lwp b0 L0 xs0 41 252 Q kc ks 1304 (LSi i) [] h2) : lwp b0 L0 xs0 41 252 Q kc ks 533 (LSi i) [] h := by
  obtain ⟨b, c, S⟩ := S0
  refine l_aload_n (pc' := 534) d252_533 rfl rfl rfl ?_
  refine l_callH (pc' := 537) [vR (some 0)] [] d252_534 rfl o252 stL_62_11 (rcv1 sh0 (pl S.1.1 rfl)) rfl (by decide) ⟨rfl, rfl⟩ (Nat.le_of_ble_eq_true rfl) rfl (Spec.mono (P_water S) ?_)
  rintro r h1 ⟨v, rfl, sp⟩ e1
  have hN1 : hn h1 = 65 := e1.trans S.1.1
  refine l_aload_n (pc' := 538) d252_537 rfl rfl rfl ?_
  refine l_callH (pc' := 541) [vR (some 50)] [vI v] d252_538 rfl o252 stL_65_12 (rcv1 sh50 (pl hN1 rfl)) rfl (by decide) ⟨rfl, rfl⟩ (Nat.le_of_ble_eq_true rfl) rfl (Spec.mono sp ?_)
  rintro r2 h2 ⟨rfl, S2⟩ _
  exact l_icmp_eq 1304 d252_541 rfl rfl (fun _ => kk h2 S2) (fun w => absurd rfl w)
theorem law_12 {i : Nat} (hi0 : i + 6 ≤ L0) (hL : L0 ≤ 384) (S0 : Sim h) (kk : ∀ h2, Sim h2 → lwp b0 L0 xs0 41 252 Q kc ks 1304 (LSi i) [] h2) : lwp b0 L0 xs0 41 252 Q kc ks 546 (LSi i) [] h := by
  obtain ⟨b, c, S⟩ := S0
  refine l_aload_n (pc' := 547) d252_546 rfl rfl rfl ?_
  refine l_aload_n (pc' := 548) d252_547 rfl rfl rfl ?_
  refine l_iload_n (pc' := 549) d252_548 rfl rfl rfl ?_
  refine l_iconst (v := 1) (pc' := 550) d252_549 rfl (by decide) ?_
  refine l_iadd (pc' := 551) d252_550 rfl ?_
  refine l_sld (k := i + 1) (pc' := 552) d252_551 rfl (nIa i 1) (by omega) hL ?_
  refine l_aload_n (pc' := 553) d252_552 rfl rfl rfl ?_
  refine l_iload_n (pc' := 554) d252_553 rfl rfl rfl ?_
  refine l_iconst (v := 2) (pc' := 555) d252_554 rfl (by decide) ?_
  refine l_iadd (pc' := 556) d252_555 rfl ?_
  refine l_sld (k := i + 2) (pc' := 557) d252_556 rfl (nIa i 2) (by omega) hL ?_
  refine l_callH (pc' := 560) [vR (some 0), vI _, vI _] [] d252_557 rfl o252 stL_66_11 (rcv1 sh0 (pl S.1.1 rfl)) rfl (by decide) ⟨rfl, rfl⟩ (Nat.le_of_ble_eq_true rfl) rfl (Spec.mono (P_serve S) ?_)
  rintro r h1 ⟨v, rfl, sp⟩ e1
  have hN1 : hn h1 = 65 := e1.trans S.1.1
  refine l_aload_n (pc' := 561) d252_560 rfl rfl rfl ?_
  refine l_aload_n (pc' := 562) d252_561 rfl rfl rfl ?_
  refine l_iload_n (pc' := 563) d252_562 rfl rfl rfl ?_
  refine l_iconst (v := 1) (pc' := 564) d252_563 rfl (by decide) ?_
  refine l_iadd (pc' := 565) d252_564 rfl ?_
  refine l_sld (k := i + 1) (pc' := 566) d252_565 rfl (nIa i 1) (by omega) hL ?_
  refine l_aload_n (pc' := 567) d252_566 rfl rfl rfl ?_
  refine l_iload_n (pc' := 568) d252_567 rfl rfl rfl ?_
  refine l_iconst (v := 2) (pc' := 569) d252_568 rfl (by decide) ?_
  refine l_iadd (pc' := 570) d252_569 rfl ?_
  refine l_sld (k := i + 2) (pc' := 571) d252_570 rfl (nIa i 2) (by omega) hL ?_
  refine l_callH (pc' := 574) [vR (some 50), vI _, vI _] [vI v] d252_571 rfl o252 stL_69_12 (rcv1 sh50 (pl hN1 rfl)) rfl (by decide) ⟨rfl, rfl⟩ (Nat.le_of_ble_eq_true rfl) rfl (Spec.mono sp ?_)
  rintro r2 h2 ⟨rfl, S2⟩ _
  exact l_icmp_eq 1304 d252_574 rfl rfl (fun _ => kk h2 S2) (fun w => absurd rfl w)
theorem law_13 {i : Nat} (hi0 : i + 6 ≤ L0) (hL : L0 ≤ 384) (S0 : Sim h) (kk : ∀ h2, Sim h2 → lwp b0 L0 xs0 41 252 Q kc ks 1304 (LSi i) [] h2) : lwp b0 L0 xs0 41 252 Q kc ks 579 (LSi i) [] h := by
  obtain ⟨b, c, S⟩ := S0
  refine l_aload_n (pc' := 580) d252_579 rfl rfl rfl ?_
  refine l_callH (pc' := 583) [vR (some 0)] [] d252_580 rfl o252 stL_70_11 (rcv1 sh0 (pl S.1.1 rfl)) rfl (by decide) ⟨rfl, rfl⟩ (Nat.le_of_ble_eq_true rfl) rfl (Spec.mono (P_undo S) ?_)
  rintro r h1 ⟨v, rfl, sp⟩ e1
  have hN1 : hn h1 = 65 := e1.trans S.1.1
  refine l_aload_n (pc' := 584) d252_583 rfl rfl rfl ?_
  refine l_callH (pc' := 587) [vR (some 50)] [vI v] d252_584 rfl o252 stL_73_12 (rcv1 sh50 (pl hN1 rfl)) rfl (by decide) ⟨rfl, rfl⟩ (Nat.le_of_ble_eq_true rfl) rfl (Spec.mono sp ?_)
  rintro r2 h2 ⟨rfl, S2⟩ _
  exact l_icmp_eq 1304 d252_587 rfl rfl (fun _ => kk h2 S2) (fun w => absurd rfl w)
theorem law_14 {i : Nat} (hi0 : i + 6 ≤ L0) (hL : L0 ≤ 384) (S0 : Sim h) (kk : ∀ h2, Sim h2 → lwp b0 L0 xs0 41 252 Q kc ks 1304 (LSi i) [] h2) : lwp b0 L0 xs0 41 252 Q kc ks 592 (LSi i) [] h := by
  obtain ⟨b, c, S⟩ := S0
  refine l_aload_n (pc' := 593) d252_592 rfl rfl rfl ?_
  refine l_aload_n (pc' := 594) d252_593 rfl rfl rfl ?_
  refine l_iload_n (pc' := 595) d252_594 rfl rfl rfl ?_
  refine l_iconst (v := 1) (pc' := 596) d252_595 rfl (by decide) ?_
  refine l_iadd (pc' := 597) d252_596 rfl ?_
  refine l_sld (k := i + 1) (pc' := 598) d252_597 rfl (nIa i 1) (by omega) hL ?_
  refine l_aload_n (pc' := 599) d252_598 rfl rfl rfl ?_
  refine l_iload_n (pc' := 600) d252_599 rfl rfl rfl ?_
  refine l_iconst (v := 2) (pc' := 601) d252_600 rfl (by decide) ?_
  refine l_iadd (pc' := 602) d252_601 rfl ?_
  refine l_sld (k := i + 2) (pc' := 603) d252_602 rfl (nIa i 2) (by omega) hL ?_
  refine l_callH (pc' := 606) [vR (some 0), vI _, vI _] [] d252_603 rfl o252 stL_74_11 (rcv1 sh0 (pl S.1.1 rfl)) rfl (by decide) ⟨rfl, rfl⟩ (Nat.le_of_ble_eq_true rfl) rfl (Spec.mono (P_thing S) ?_)
  rintro r h1 ⟨v, rfl, sp⟩ e1
  have hN1 : hn h1 = 65 := e1.trans S.1.1
  refine l_aload_n (pc' := 607) d252_606 rfl rfl rfl ?_
  refine l_aload_n (pc' := 608) d252_607 rfl rfl rfl ?_
  refine l_iload_n (pc' := 609) d252_608 rfl rfl rfl ?_
  refine l_iconst (v := 1) (pc' := 610) d252_609 rfl (by decide) ?_
  refine l_iadd (pc' := 611) d252_610 rfl ?_
  refine l_sld (k := i + 1) (pc' := 612) d252_611 rfl (nIa i 1) (by omega) hL ?_
  refine l_aload_n (pc' := 613) d252_612 rfl rfl rfl ?_
  refine l_iload_n (pc' := 614) d252_613 rfl rfl rfl ?_
  refine l_iconst (v := 2) (pc' := 615) d252_614 rfl (by decide) ?_
  refine l_iadd (pc' := 616) d252_615 rfl ?_
  refine l_sld (k := i + 2) (pc' := 617) d252_616 rfl (nIa i 2) (by omega) hL ?_
  refine l_callH (pc' := 620) [vR (some 50), vI _, vI _] [vI v] d252_617 rfl o252 stL_77_12 (rcv1 sh50 (pl hN1 rfl)) rfl (by decide) ⟨rfl, rfl⟩ (Nat.le_of_ble_eq_true rfl) rfl (Spec.mono sp ?_)
  rintro r2 h2 ⟨rfl, S2⟩ _
  exact l_icmp_eq 1304 d252_620 rfl rfl (fun _ => kk h2 S2) (fun w => absurd rfl w)
theorem law_15 {i : Nat} (hi0 : i + 6 ≤ L0) (hL : L0 ≤ 384) (S0 : Sim h) (kk : ∀ h2, Sim h2 → lwp b0 L0 xs0 41 252 Q kc ks 1304 (LSi i) [] h2) : lwp b0 L0 xs0 41 252 Q kc ks 625 (LSi i) [] h := by
  obtain ⟨b, c, S⟩ := S0
  refine l_aload_n (pc' := 626) d252_625 rfl rfl rfl ?_
  refine l_aload_n (pc' := 627) d252_626 rfl rfl rfl ?_
  refine l_iload_n (pc' := 628) d252_627 rfl rfl rfl ?_
  refine l_iconst (v := 1) (pc' := 629) d252_628 rfl (by decide) ?_
  refine l_iadd (pc' := 630) d252_629 rfl ?_
  refine l_sld (k := i + 1) (pc' := 631) d252_630 rfl (nIa i 1) (by omega) hL ?_
  refine l_aload_n (pc' := 632) d252_631 rfl rfl rfl ?_
  refine l_iload_n (pc' := 633) d252_632 rfl rfl rfl ?_
  refine l_iconst (v := 2) (pc' := 634) d252_633 rfl (by decide) ?_
  refine l_iadd (pc' := 635) d252_634 rfl ?_
  refine l_sld (k := i + 2) (pc' := 636) d252_635 rfl (nIa i 2) (by omega) hL ?_
  refine l_callH (pc' := 639) [vR (some 0), vI _, vI _] [] d252_636 rfl o252 stL_78_11 (rcv1 sh0 (pl S.1.1 rfl)) rfl (by decide) ⟨rfl, rfl⟩ (Nat.le_of_ble_eq_true rfl) rfl (Spec.mono (P_eater S) ?_)
  rintro r h1 ⟨v, rfl, sp⟩ e1
  have hN1 : hn h1 = 65 := e1.trans S.1.1
  refine l_aload_n (pc' := 640) d252_639 rfl rfl rfl ?_
  refine l_aload_n (pc' := 641) d252_640 rfl rfl rfl ?_
  refine l_iload_n (pc' := 642) d252_641 rfl rfl rfl ?_
  refine l_iconst (v := 1) (pc' := 643) d252_642 rfl (by decide) ?_
  refine l_iadd (pc' := 644) d252_643 rfl ?_
  refine l_sld (k := i + 1) (pc' := 645) d252_644 rfl (nIa i 1) (by omega) hL ?_
  refine l_aload_n (pc' := 646) d252_645 rfl rfl rfl ?_
  refine l_iload_n (pc' := 647) d252_646 rfl rfl rfl ?_
  refine l_iconst (v := 2) (pc' := 648) d252_647 rfl (by decide) ?_
  refine l_iadd (pc' := 649) d252_648 rfl ?_
  refine l_sld (k := i + 2) (pc' := 650) d252_649 rfl (nIa i 2) (by omega) hL ?_
  refine l_callH (pc' := 653) [vR (some 50), vI _, vI _] [vI v] d252_650 rfl o252 stL_81_12 (rcv1 sh50 (pl hN1 rfl)) rfl (by decide) ⟨rfl, rfl⟩ (Nat.le_of_ble_eq_true rfl) rfl (Spec.mono sp ?_)
  rintro r2 h2 ⟨rfl, S2⟩ _
  exact l_icmp_eq 1304 d252_653 rfl rfl (fun _ => kk h2 S2) (fun w => absurd rfl w)
theorem law_16 {i : Nat} (hi0 : i + 6 ≤ L0) (hL : L0 ≤ 384) (S0 : Sim h) (kk : ∀ h2, Sim h2 → lwp b0 L0 xs0 41 252 Q kc ks 1304 (LSi i) [] h2) : lwp b0 L0 xs0 41 252 Q kc ks 658 (LSi i) [] h := by
  obtain ⟨b, c, S⟩ := S0
  refine l_aload_n (pc' := 659) d252_658 rfl rfl rfl ?_
  refine l_aload_n (pc' := 660) d252_659 rfl rfl rfl ?_
  refine l_iload_n (pc' := 661) d252_660 rfl rfl rfl ?_
  refine l_iconst (v := 1) (pc' := 662) d252_661 rfl (by decide) ?_
  refine l_iadd (pc' := 663) d252_662 rfl ?_
  refine l_sld (k := i + 1) (pc' := 664) d252_663 rfl (nIa i 1) (by omega) hL ?_
  refine l_aload_n (pc' := 665) d252_664 rfl rfl rfl ?_
  refine l_iload_n (pc' := 666) d252_665 rfl rfl rfl ?_
  refine l_iconst (v := 2) (pc' := 667) d252_666 rfl (by decide) ?_
  refine l_iadd (pc' := 668) d252_667 rfl ?_
  refine l_sld (k := i + 2) (pc' := 669) d252_668 rfl (nIa i 2) (by omega) hL ?_
  refine l_callH (pc' := 672) [vR (some 0), vI _, vI _] [] d252_669 rfl o252 stL_82_11 (rcv1 sh0 (pl S.1.1 rfl)) rfl (by decide) ⟨rfl, rfl⟩ (Nat.le_of_ble_eq_true rfl) rfl (Spec.mono (P_ember S) ?_)
  rintro r h1 ⟨v, rfl, sp⟩ e1
  have hN1 : hn h1 = 65 := e1.trans S.1.1
  refine l_aload_n (pc' := 673) d252_672 rfl rfl rfl ?_
  refine l_aload_n (pc' := 674) d252_673 rfl rfl rfl ?_
  refine l_iload_n (pc' := 675) d252_674 rfl rfl rfl ?_
  refine l_iconst (v := 1) (pc' := 676) d252_675 rfl (by decide) ?_
  refine l_iadd (pc' := 677) d252_676 rfl ?_
  refine l_sld (k := i + 1) (pc' := 678) d252_677 rfl (nIa i 1) (by omega) hL ?_
  refine l_aload_n (pc' := 679) d252_678 rfl rfl rfl ?_
  refine l_iload_n (pc' := 680) d252_679 rfl rfl rfl ?_
  refine l_iconst (v := 2) (pc' := 681) d252_680 rfl (by decide) ?_
  refine l_iadd (pc' := 682) d252_681 rfl ?_
  refine l_sld (k := i + 2) (pc' := 683) d252_682 rfl (nIa i 2) (by omega) hL ?_
  refine l_callH (pc' := 686) [vR (some 50), vI _, vI _] [vI v] d252_683 rfl o252 stL_85_12 (rcv1 sh50 (pl hN1 rfl)) rfl (by decide) ⟨rfl, rfl⟩ (Nat.le_of_ble_eq_true rfl) rfl (Spec.mono sp ?_)
  rintro r2 h2 ⟨rfl, S2⟩ _
  exact l_icmp_eq 1304 d252_686 rfl rfl (fun _ => kk h2 S2) (fun w => absurd rfl w)
theorem law_17 {i : Nat} (hi0 : i + 6 ≤ L0) (hL : L0 ≤ 384) (S0 : Sim h) (kk : ∀ h2, Sim h2 → lwp b0 L0 xs0 41 252 Q kc ks 1304 (LSi i) [] h2) : lwp b0 L0 xs0 41 252 Q kc ks 691 (LSi i) [] h := by
  obtain ⟨b, c, S⟩ := S0
  refine l_aload_n (pc' := 692) d252_691 rfl rfl rfl ?_
  refine l_aload_n (pc' := 693) d252_692 rfl rfl rfl ?_
  refine l_iload_n (pc' := 694) d252_693 rfl rfl rfl ?_
  refine l_iconst (v := 1) (pc' := 695) d252_694 rfl (by decide) ?_
  refine l_iadd (pc' := 696) d252_695 rfl ?_
  refine l_sld (k := i + 1) (pc' := 697) d252_696 rfl (nIa i 1) (by omega) hL ?_
  refine l_callH (pc' := 700) [vR (some 0), vI _] [] d252_697 rfl o252 stL_86_11 (rcv1 sh0 (pl S.1.1 rfl)) rfl (by decide) ⟨rfl, rfl⟩ (Nat.le_of_ble_eq_true rfl) rfl (Spec.mono (P_heat S) ?_)
  rintro r h1 ⟨v, rfl, sp⟩ e1
  have hN1 : hn h1 = 65 := e1.trans S.1.1
  refine l_aload_n (pc' := 701) d252_700 rfl rfl rfl ?_
  refine l_aload_n (pc' := 702) d252_701 rfl rfl rfl ?_
  refine l_iload_n (pc' := 703) d252_702 rfl rfl rfl ?_
  refine l_iconst (v := 1) (pc' := 704) d252_703 rfl (by decide) ?_
  refine l_iadd (pc' := 705) d252_704 rfl ?_
  refine l_sld (k := i + 1) (pc' := 706) d252_705 rfl (nIa i 1) (by omega) hL ?_
  refine l_callH (pc' := 709) [vR (some 50), vI _] [vI v] d252_706 rfl o252 stL_89_12 (rcv1 sh50 (pl hN1 rfl)) rfl (by decide) ⟨rfl, rfl⟩ (Nat.le_of_ble_eq_true rfl) rfl (Spec.mono sp ?_)
  rintro r2 h2 ⟨rfl, S2⟩ _
  exact l_icmp_eq 1304 d252_709 rfl rfl (fun _ => kk h2 S2) (fun w => absurd rfl w)
theorem law_18 {i : Nat} (hi0 : i + 6 ≤ L0) (hL : L0 ≤ 384) (S0 : Sim h) (kk : ∀ h2, Sim h2 → lwp b0 L0 xs0 41 252 Q kc ks 1304 (LSi i) [] h2) : lwp b0 L0 xs0 41 252 Q kc ks 714 (LSi i) [] h := by
  obtain ⟨b, c, S⟩ := S0
  refine l_aload_n (pc' := 715) d252_714 rfl rfl rfl ?_
  refine l_aload_n (pc' := 716) d252_715 rfl rfl rfl ?_
  refine l_iload_n (pc' := 717) d252_716 rfl rfl rfl ?_
  refine l_iconst (v := 1) (pc' := 718) d252_717 rfl (by decide) ?_
  refine l_iadd (pc' := 719) d252_718 rfl ?_
  refine l_sld (k := i + 1) (pc' := 720) d252_719 rfl (nIa i 1) (by omega) hL ?_
  refine l_aload_n (pc' := 721) d252_720 rfl rfl rfl ?_
  refine l_iload_n (pc' := 722) d252_721 rfl rfl rfl ?_
  refine l_iconst (v := 2) (pc' := 723) d252_722 rfl (by decide) ?_
  refine l_iadd (pc' := 724) d252_723 rfl ?_
  refine l_sld (k := i + 2) (pc' := 725) d252_724 rfl (nIa i 2) (by omega) hL ?_
  refine l_aload_n (pc' := 726) d252_725 rfl rfl rfl ?_
  refine l_iload_n (pc' := 727) d252_726 rfl rfl rfl ?_
  refine l_iconst (v := 3) (pc' := 728) d252_727 rfl (by decide) ?_
  refine l_iadd (pc' := 729) d252_728 rfl ?_
  refine l_sld (k := i + 3) (pc' := 730) d252_729 rfl (nIa i 3) (by omega) hL ?_
  refine l_callH (pc' := 733) [vR (some 0), vI _, vI _, vI _] [] d252_730 rfl o252 stL_90_11 (rcv1 sh0 (pl S.1.1 rfl)) rfl (by decide) ⟨rfl, rfl⟩ (Nat.le_of_ble_eq_true rfl) rfl (Spec.mono (P_ahead S) ?_)
  rintro r h1 ⟨v, rfl, sp⟩ e1
  have hN1 : hn h1 = 65 := e1.trans S.1.1
  refine l_aload_n (pc' := 734) d252_733 rfl rfl rfl ?_
  refine l_aload_n (pc' := 735) d252_734 rfl rfl rfl ?_
  refine l_iload_n (pc' := 736) d252_735 rfl rfl rfl ?_
  refine l_iconst (v := 1) (pc' := 737) d252_736 rfl (by decide) ?_
  refine l_iadd (pc' := 738) d252_737 rfl ?_
  refine l_sld (k := i + 1) (pc' := 739) d252_738 rfl (nIa i 1) (by omega) hL ?_
  refine l_aload_n (pc' := 740) d252_739 rfl rfl rfl ?_
  refine l_iload_n (pc' := 741) d252_740 rfl rfl rfl ?_
  refine l_iconst (v := 2) (pc' := 742) d252_741 rfl (by decide) ?_
  refine l_iadd (pc' := 743) d252_742 rfl ?_
  refine l_sld (k := i + 2) (pc' := 744) d252_743 rfl (nIa i 2) (by omega) hL ?_
  refine l_aload_n (pc' := 745) d252_744 rfl rfl rfl ?_
  refine l_iload_n (pc' := 746) d252_745 rfl rfl rfl ?_
  refine l_iconst (v := 3) (pc' := 747) d252_746 rfl (by decide) ?_
  refine l_iadd (pc' := 748) d252_747 rfl ?_
  refine l_sld (k := i + 3) (pc' := 749) d252_748 rfl (nIa i 3) (by omega) hL ?_
  refine l_callH (pc' := 752) [vR (some 50), vI _, vI _, vI _] [vI v] d252_749 rfl o252 stL_93_12 (rcv1 sh50 (pl hN1 rfl)) rfl (by decide) ⟨rfl, rfl⟩ (Nat.le_of_ble_eq_true rfl) rfl (Spec.mono sp ?_)
  rintro r2 h2 ⟨rfl, S2⟩ _
  exact l_icmp_eq 1304 d252_752 rfl rfl (fun _ => kk h2 S2) (fun w => absurd rfl w)
theorem law_19 {i : Nat} (hi0 : i + 6 ≤ L0) (hL : L0 ≤ 384) (S0 : Sim h) (kk : ∀ h2, Sim h2 → lwp b0 L0 xs0 41 252 Q kc ks 1304 (LSi i) [] h2) : lwp b0 L0 xs0 41 252 Q kc ks 757 (LSi i) [] h := by
  obtain ⟨b, c, S⟩ := S0
  refine l_aload_n (pc' := 758) d252_757 rfl rfl rfl ?_
  refine l_aload_n (pc' := 759) d252_758 rfl rfl rfl ?_
  refine l_iload_n (pc' := 760) d252_759 rfl rfl rfl ?_
  refine l_iconst (v := 1) (pc' := 761) d252_760 rfl (by decide) ?_
  refine l_iadd (pc' := 762) d252_761 rfl ?_
  refine l_sld (k := i + 1) (pc' := 763) d252_762 rfl (nIa i 1) (by omega) hL ?_
  refine l_aload_n (pc' := 764) d252_763 rfl rfl rfl ?_
  refine l_iload_n (pc' := 765) d252_764 rfl rfl rfl ?_
  refine l_iconst (v := 2) (pc' := 766) d252_765 rfl (by decide) ?_
  refine l_iadd (pc' := 767) d252_766 rfl ?_
  refine l_sld (k := i + 2) (pc' := 768) d252_767 rfl (nIa i 2) (by omega) hL ?_
  refine l_callH (pc' := 771) [vR (some 0), vI _, vI _] [] d252_768 rfl o252 stL_94_11 (rcv1 sh0 (pl S.1.1 rfl)) rfl (by decide) ⟨rfl, rfl⟩ (Nat.le_of_ble_eq_true rfl) rfl (Spec.mono (P_heatAhead S) ?_)
  rintro r h1 ⟨v, rfl, sp⟩ e1
  have hN1 : hn h1 = 65 := e1.trans S.1.1
  refine l_aload_n (pc' := 772) d252_771 rfl rfl rfl ?_
  refine l_aload_n (pc' := 773) d252_772 rfl rfl rfl ?_
  refine l_iload_n (pc' := 774) d252_773 rfl rfl rfl ?_
  refine l_iconst (v := 1) (pc' := 775) d252_774 rfl (by decide) ?_
  refine l_iadd (pc' := 776) d252_775 rfl ?_
  refine l_sld (k := i + 1) (pc' := 777) d252_776 rfl (nIa i 1) (by omega) hL ?_
  refine l_aload_n (pc' := 778) d252_777 rfl rfl rfl ?_
  refine l_iload_n (pc' := 779) d252_778 rfl rfl rfl ?_
  refine l_iconst (v := 2) (pc' := 780) d252_779 rfl (by decide) ?_
  refine l_iadd (pc' := 781) d252_780 rfl ?_
  refine l_sld (k := i + 2) (pc' := 782) d252_781 rfl (nIa i 2) (by omega) hL ?_
  refine l_callH (pc' := 785) [vR (some 50), vI _, vI _] [vI v] d252_782 rfl o252 stL_97_12 (rcv1 sh50 (pl hN1 rfl)) rfl (by decide) ⟨rfl, rfl⟩ (Nat.le_of_ble_eq_true rfl) rfl (Spec.mono sp ?_)
  rintro r2 h2 ⟨rfl, S2⟩ _
  exact l_icmp_eq 1304 d252_785 rfl rfl (fun _ => kk h2 S2) (fun w => absurd rfl w)
theorem law_20 {i : Nat} (hi0 : i + 6 ≤ L0) (hL : L0 ≤ 384) (S0 : Sim h) (kk : ∀ h2, Sim h2 → lwp b0 L0 xs0 41 252 Q kc ks 1304 (LSi i) [] h2) : lwp b0 L0 xs0 41 252 Q kc ks 790 (LSi i) [] h := by
  obtain ⟨b, c, S⟩ := S0
  refine l_aload_n (pc' := 791) d252_790 rfl rfl rfl ?_
  refine l_aload_n (pc' := 792) d252_791 rfl rfl rfl ?_
  refine l_iload_n (pc' := 793) d252_792 rfl rfl rfl ?_
  refine l_iconst (v := 1) (pc' := 794) d252_793 rfl (by decide) ?_
  refine l_iadd (pc' := 795) d252_794 rfl ?_
  refine l_sld (k := i + 1) (pc' := 796) d252_795 rfl (nIa i 1) (by omega) hL ?_
  refine l_callH (pc' := 799) [vR (some 0), vI _] [] d252_796 rfl o252 stL_98_11 (rcv1 sh0 (pl S.1.1 rfl)) rfl (by decide) ⟨rfl, rfl⟩ (Nat.le_of_ble_eq_true rfl) rfl (Spec.mono (P_ready S) ?_)
  rintro r h1 ⟨v, rfl, sp⟩ e1
  have hN1 : hn h1 = 65 := e1.trans S.1.1
  refine l_aload_n (pc' := 800) d252_799 rfl rfl rfl ?_
  refine l_aload_n (pc' := 801) d252_800 rfl rfl rfl ?_
  refine l_iload_n (pc' := 802) d252_801 rfl rfl rfl ?_
  refine l_iconst (v := 1) (pc' := 803) d252_802 rfl (by decide) ?_
  refine l_iadd (pc' := 804) d252_803 rfl ?_
  refine l_sld (k := i + 1) (pc' := 805) d252_804 rfl (nIa i 1) (by omega) hL ?_
  refine l_callH (pc' := 808) [vR (some 50), vI _] [vI v] d252_805 rfl o252 stL_101_12 (rcv1 sh50 (pl hN1 rfl)) rfl (by decide) ⟨rfl, rfl⟩ (Nat.le_of_ble_eq_true rfl) rfl (Spec.mono sp ?_)
  rintro r2 h2 ⟨rfl, S2⟩ _
  exact l_icmp_eq 1304 d252_808 rfl rfl (fun _ => kk h2 S2) (fun w => absurd rfl w)
theorem law_21 {i : Nat} (hi0 : i + 6 ≤ L0) (hL : L0 ≤ 384) (S0 : Sim h) (kk : ∀ h2, Sim h2 → lwp b0 L0 xs0 41 252 Q kc ks 1304 (LSi i) [] h2) : lwp b0 L0 xs0 41 252 Q kc ks 813 (LSi i) [] h := by
  obtain ⟨b, c, S⟩ := S0
  refine l_aload_n (pc' := 814) d252_813 rfl rfl rfl ?_
  refine l_aload_n (pc' := 815) d252_814 rfl rfl rfl ?_
  refine l_iload_n (pc' := 816) d252_815 rfl rfl rfl ?_
  refine l_iconst (v := 1) (pc' := 817) d252_816 rfl (by decide) ?_
  refine l_iadd (pc' := 818) d252_817 rfl ?_
  refine l_sld (k := i + 1) (pc' := 819) d252_818 rfl (nIa i 1) (by omega) hL ?_
  refine l_callH (pc' := 822) [vR (some 0), vI _] [] d252_819 rfl o252 stL_102_11 (rcv1 sh0 (pl S.1.1 rfl)) rfl (by decide) ⟨rfl, rfl⟩ (Nat.le_of_ble_eq_true rfl) rfl (Spec.mono (P_where S) ?_)
  rintro r h1 ⟨v, rfl, sp⟩ e1
  have hN1 : hn h1 = 65 := e1.trans S.1.1
  refine l_aload_n (pc' := 823) d252_822 rfl rfl rfl ?_
  refine l_aload_n (pc' := 824) d252_823 rfl rfl rfl ?_
  refine l_iload_n (pc' := 825) d252_824 rfl rfl rfl ?_
  refine l_iconst (v := 1) (pc' := 826) d252_825 rfl (by decide) ?_
  refine l_iadd (pc' := 827) d252_826 rfl ?_
  refine l_sld (k := i + 1) (pc' := 828) d252_827 rfl (nIa i 1) (by omega) hL ?_
  refine l_callH (pc' := 831) [vR (some 50), vI _] [vI v] d252_828 rfl o252 stL_105_12 (rcv1 sh50 (pl hN1 rfl)) rfl (by decide) ⟨rfl, rfl⟩ (Nat.le_of_ble_eq_true rfl) rfl (Spec.mono sp ?_)
  rintro r2 h2 ⟨rfl, S2⟩ _
  exact l_icmp_eq 1304 d252_831 rfl rfl (fun _ => kk h2 S2) (fun w => absurd rfl w)
theorem law_22 {i : Nat} (hi0 : i + 6 ≤ L0) (hL : L0 ≤ 384) (S0 : Sim h) (kk : ∀ h2, Sim h2 → lwp b0 L0 xs0 41 252 Q kc ks 1304 (LSi i) [] h2) : lwp b0 L0 xs0 41 252 Q kc ks 836 (LSi i) [] h := by
  obtain ⟨b, c, S⟩ := S0
  refine l_aload_n (pc' := 837) d252_836 rfl rfl rfl ?_
  refine l_aload_n (pc' := 838) d252_837 rfl rfl rfl ?_
  refine l_iload_n (pc' := 839) d252_838 rfl rfl rfl ?_
  refine l_iconst (v := 1) (pc' := 840) d252_839 rfl (by decide) ?_
  refine l_iadd (pc' := 841) d252_840 rfl ?_
  refine l_sld (k := i + 1) (pc' := 842) d252_841 rfl (nIa i 1) (by omega) hL ?_
  refine l_aload_n (pc' := 843) d252_842 rfl rfl rfl ?_
  refine l_iload_n (pc' := 844) d252_843 rfl rfl rfl ?_
  refine l_iconst (v := 2) (pc' := 845) d252_844 rfl (by decide) ?_
  refine l_iadd (pc' := 846) d252_845 rfl ?_
  refine l_sld (k := i + 2) (pc' := 847) d252_846 rfl (nIa i 2) (by omega) hL ?_
  refine l_callH (pc' := 850) [vR (some 0), vI _, vI _] [] d252_847 rfl o252 stL_106_11 (rcv1 sh0 (pl S.1.1 rfl)) rfl (by decide) ⟨rfl, rfl⟩ (Nat.le_of_ble_eq_true rfl) rfl (Spec.mono (P_inTime S) ?_)
  rintro r h1 ⟨v, rfl, sp⟩ e1
  have hN1 : hn h1 = 65 := e1.trans S.1.1
  refine l_aload_n (pc' := 851) d252_850 rfl rfl rfl ?_
  refine l_aload_n (pc' := 852) d252_851 rfl rfl rfl ?_
  refine l_iload_n (pc' := 853) d252_852 rfl rfl rfl ?_
  refine l_iconst (v := 1) (pc' := 854) d252_853 rfl (by decide) ?_
  refine l_iadd (pc' := 855) d252_854 rfl ?_
  refine l_sld (k := i + 1) (pc' := 856) d252_855 rfl (nIa i 1) (by omega) hL ?_
  refine l_aload_n (pc' := 857) d252_856 rfl rfl rfl ?_
  refine l_iload_n (pc' := 858) d252_857 rfl rfl rfl ?_
  refine l_iconst (v := 2) (pc' := 859) d252_858 rfl (by decide) ?_
  refine l_iadd (pc' := 860) d252_859 rfl ?_
  refine l_sld (k := i + 2) (pc' := 861) d252_860 rfl (nIa i 2) (by omega) hL ?_
  refine l_callH (pc' := 864) [vR (some 50), vI _, vI _] [vI v] d252_861 rfl o252 stL_109_12 (rcv1 sh50 (pl hN1 rfl)) rfl (by decide) ⟨rfl, rfl⟩ (Nat.le_of_ble_eq_true rfl) rfl (Spec.mono sp ?_)
  rintro r2 h2 ⟨rfl, S2⟩ _
  exact l_icmp_eq 1304 d252_864 rfl rfl (fun _ => kk h2 S2) (fun w => absurd rfl w)
theorem law_23 {i : Nat} (hi0 : i + 6 ≤ L0) (hL : L0 ≤ 384) (S0 : Sim h) (kk : ∀ h2, Sim h2 → lwp b0 L0 xs0 41 252 Q kc ks 1304 (LSi i) [] h2) : lwp b0 L0 xs0 41 252 Q kc ks 869 (LSi i) [] h := by
  obtain ⟨b, c, S⟩ := S0
  refine l_aload_n (pc' := 870) d252_869 rfl rfl rfl ?_
  refine l_aload_n (pc' := 871) d252_870 rfl rfl rfl ?_
  refine l_iload_n (pc' := 872) d252_871 rfl rfl rfl ?_
  refine l_iconst (v := 1) (pc' := 873) d252_872 rfl (by decide) ?_
  refine l_iadd (pc' := 874) d252_873 rfl ?_
  refine l_sld (k := i + 1) (pc' := 875) d252_874 rfl (nIa i 1) (by omega) hL ?_
  refine l_aload_n (pc' := 876) d252_875 rfl rfl rfl ?_
  refine l_iload_n (pc' := 877) d252_876 rfl rfl rfl ?_
  refine l_iconst (v := 2) (pc' := 878) d252_877 rfl (by decide) ?_
  refine l_iadd (pc' := 879) d252_878 rfl ?_
  refine l_sld (k := i + 2) (pc' := 880) d252_879 rfl (nIa i 2) (by omega) hL ?_
  refine l_aload_n (pc' := 881) d252_880 rfl rfl rfl ?_
  refine l_iload_n (pc' := 882) d252_881 rfl rfl rfl ?_
  refine l_iconst (v := 3) (pc' := 883) d252_882 rfl (by decide) ?_
  refine l_iadd (pc' := 884) d252_883 rfl ?_
  refine l_sld (k := i + 3) (pc' := 885) d252_884 rfl (nIa i 3) (by omega) hL ?_
  refine l_callH (pc' := 888) [vR (some 0), vI _, vI _, vI _] [] d252_885 rfl o252 stL_110_11 (rcv1 sh0 (pl S.1.1 rfl)) rfl (by decide) ⟨rfl, rfl⟩ (Nat.le_of_ble_eq_true rfl) rfl (Spec.mono (P_flips S) ?_)
  rintro r h1 ⟨v, rfl, sp⟩ e1
  have hN1 : hn h1 = 65 := e1.trans S.1.1
  refine l_aload_n (pc' := 889) d252_888 rfl rfl rfl ?_
  refine l_aload_n (pc' := 890) d252_889 rfl rfl rfl ?_
  refine l_iload_n (pc' := 891) d252_890 rfl rfl rfl ?_
  refine l_iconst (v := 1) (pc' := 892) d252_891 rfl (by decide) ?_
  refine l_iadd (pc' := 893) d252_892 rfl ?_
  refine l_sld (k := i + 1) (pc' := 894) d252_893 rfl (nIa i 1) (by omega) hL ?_
  refine l_aload_n (pc' := 895) d252_894 rfl rfl rfl ?_
  refine l_iload_n (pc' := 896) d252_895 rfl rfl rfl ?_
  refine l_iconst (v := 2) (pc' := 897) d252_896 rfl (by decide) ?_
  refine l_iadd (pc' := 898) d252_897 rfl ?_
  refine l_sld (k := i + 2) (pc' := 899) d252_898 rfl (nIa i 2) (by omega) hL ?_
  refine l_aload_n (pc' := 900) d252_899 rfl rfl rfl ?_
  refine l_iload_n (pc' := 901) d252_900 rfl rfl rfl ?_
  refine l_iconst (v := 3) (pc' := 902) d252_901 rfl (by decide) ?_
  refine l_iadd (pc' := 903) d252_902 rfl ?_
  refine l_sld (k := i + 3) (pc' := 904) d252_903 rfl (nIa i 3) (by omega) hL ?_
  refine l_callH (pc' := 907) [vR (some 50), vI _, vI _, vI _] [vI v] d252_904 rfl o252 stL_113_12 (rcv1 sh50 (pl hN1 rfl)) rfl (by decide) ⟨rfl, rfl⟩ (Nat.le_of_ble_eq_true rfl) rfl (Spec.mono sp ?_)
  rintro r2 h2 ⟨rfl, S2⟩ _
  exact l_icmp_eq 1304 d252_907 rfl rfl (fun _ => kk h2 S2) (fun w => absurd rfl w)
theorem law_24 {i : Nat} (hi0 : i + 6 ≤ L0) (hL : L0 ≤ 384) (S0 : Sim h) (kk : ∀ h2, Sim h2 → lwp b0 L0 xs0 41 252 Q kc ks 1304 (LSi i) [] h2) : lwp b0 L0 xs0 41 252 Q kc ks 912 (LSi i) [] h := by
  obtain ⟨b, c, S⟩ := S0
  refine l_aload_n (pc' := 913) d252_912 rfl rfl rfl ?_
  refine l_aload_n (pc' := 914) d252_913 rfl rfl rfl ?_
  refine l_iload_n (pc' := 915) d252_914 rfl rfl rfl ?_
  refine l_iconst (v := 1) (pc' := 916) d252_915 rfl (by decide) ?_
  refine l_iadd (pc' := 917) d252_916 rfl ?_
  refine l_sld (k := i + 1) (pc' := 918) d252_917 rfl (nIa i 1) (by omega) hL ?_
  refine l_aload_n (pc' := 919) d252_918 rfl rfl rfl ?_
  refine l_iload_n (pc' := 920) d252_919 rfl rfl rfl ?_
  refine l_iconst (v := 2) (pc' := 921) d252_920 rfl (by decide) ?_
  refine l_iadd (pc' := 922) d252_921 rfl ?_
  refine l_sld (k := i + 2) (pc' := 923) d252_922 rfl (nIa i 2) (by omega) hL ?_
  refine l_aload_n (pc' := 924) d252_923 rfl rfl rfl ?_
  refine l_iload_n (pc' := 925) d252_924 rfl rfl rfl ?_
  refine l_iconst (v := 3) (pc' := 926) d252_925 rfl (by decide) ?_
  refine l_iadd (pc' := 927) d252_926 rfl ?_
  refine l_sld (k := i + 3) (pc' := 928) d252_927 rfl (nIa i 3) (by omega) hL ?_
  refine l_callH (pc' := 931) [vR (some 0), vI _, vI _, vI _] [] d252_928 rfl o252 stL_114_11 (rcv1 sh0 (pl S.1.1 rfl)) rfl (by decide) ⟨rfl, rfl⟩ (Nat.le_of_ble_eq_true rfl) rfl (Spec.mono (P_start S) ?_)
  rintro r h1 ⟨v, rfl, sp⟩ e1
  have hN1 : hn h1 = 65 := e1.trans S.1.1
  refine l_aload_n (pc' := 932) d252_931 rfl rfl rfl ?_
  refine l_aload_n (pc' := 933) d252_932 rfl rfl rfl ?_
  refine l_iload_n (pc' := 934) d252_933 rfl rfl rfl ?_
  refine l_iconst (v := 1) (pc' := 935) d252_934 rfl (by decide) ?_
  refine l_iadd (pc' := 936) d252_935 rfl ?_
  refine l_sld (k := i + 1) (pc' := 937) d252_936 rfl (nIa i 1) (by omega) hL ?_
  refine l_aload_n (pc' := 938) d252_937 rfl rfl rfl ?_
  refine l_iload_n (pc' := 939) d252_938 rfl rfl rfl ?_
  refine l_iconst (v := 2) (pc' := 940) d252_939 rfl (by decide) ?_
  refine l_iadd (pc' := 941) d252_940 rfl ?_
  refine l_sld (k := i + 2) (pc' := 942) d252_941 rfl (nIa i 2) (by omega) hL ?_
  refine l_aload_n (pc' := 943) d252_942 rfl rfl rfl ?_
  refine l_iload_n (pc' := 944) d252_943 rfl rfl rfl ?_
  refine l_iconst (v := 3) (pc' := 945) d252_944 rfl (by decide) ?_
  refine l_iadd (pc' := 946) d252_945 rfl ?_
  refine l_sld (k := i + 3) (pc' := 947) d252_946 rfl (nIa i 3) (by omega) hL ?_
  refine l_callH (pc' := 950) [vR (some 50), vI _, vI _, vI _] [vI v] d252_947 rfl o252 stL_117_12 (rcv1 sh50 (pl hN1 rfl)) rfl (by decide) ⟨rfl, rfl⟩ (Nat.le_of_ble_eq_true rfl) rfl (Spec.mono sp ?_)
  rintro r2 h2 ⟨rfl, S2⟩ _
  exact l_icmp_eq 1304 d252_950 rfl rfl (fun _ => kk h2 S2) (fun w => absurd rfl w)
theorem law_25 {i : Nat} (hi0 : i + 6 ≤ L0) (hL : L0 ≤ 384) (S0 : Sim h) (kk : ∀ h2, Sim h2 → lwp b0 L0 xs0 41 252 Q kc ks 1304 (LSi i) [] h2) : lwp b0 L0 xs0 41 252 Q kc ks 955 (LSi i) [] h := by
  obtain ⟨b, c, S⟩ := S0
  refine l_aload_n (pc' := 956) d252_955 rfl rfl rfl ?_
  refine l_aload_n (pc' := 957) d252_956 rfl rfl rfl ?_
  refine l_iload_n (pc' := 958) d252_957 rfl rfl rfl ?_
  refine l_iconst (v := 1) (pc' := 959) d252_958 rfl (by decide) ?_
  refine l_iadd (pc' := 960) d252_959 rfl ?_
  refine l_sld (k := i + 1) (pc' := 961) d252_960 rfl (nIa i 1) (by omega) hL ?_
  refine l_aload_n (pc' := 962) d252_961 rfl rfl rfl ?_
  refine l_iload_n (pc' := 963) d252_962 rfl rfl rfl ?_
  refine l_iconst (v := 2) (pc' := 964) d252_963 rfl (by decide) ?_
  refine l_iadd (pc' := 965) d252_964 rfl ?_
  refine l_sld (k := i + 2) (pc' := 966) d252_965 rfl (nIa i 2) (by omega) hL ?_
  refine l_callH (pc' := 969) [vR (some 0), vI _, vI _] [] d252_966 rfl o252 stL_118_11 (rcv1 sh0 (pl S.1.1 rfl)) rfl (by decide) ⟨rfl, rfl⟩ (Nat.le_of_ble_eq_true rfl) rfl (Spec.mono (P_fuelFor S) ?_)
  rintro r h1 ⟨v, rfl, sp⟩ e1
  have hN1 : hn h1 = 65 := e1.trans S.1.1
  refine l_aload_n (pc' := 970) d252_969 rfl rfl rfl ?_
  refine l_aload_n (pc' := 971) d252_970 rfl rfl rfl ?_
  refine l_iload_n (pc' := 972) d252_971 rfl rfl rfl ?_
  refine l_iconst (v := 1) (pc' := 973) d252_972 rfl (by decide) ?_
  refine l_iadd (pc' := 974) d252_973 rfl ?_
  refine l_sld (k := i + 1) (pc' := 975) d252_974 rfl (nIa i 1) (by omega) hL ?_
  refine l_aload_n (pc' := 976) d252_975 rfl rfl rfl ?_
  refine l_iload_n (pc' := 977) d252_976 rfl rfl rfl ?_
  refine l_iconst (v := 2) (pc' := 978) d252_977 rfl (by decide) ?_
  refine l_iadd (pc' := 979) d252_978 rfl ?_
  refine l_sld (k := i + 2) (pc' := 980) d252_979 rfl (nIa i 2) (by omega) hL ?_
  refine l_callH (pc' := 983) [vR (some 50), vI _, vI _] [vI v] d252_980 rfl o252 stL_121_12 (rcv1 sh50 (pl hN1 rfl)) rfl (by decide) ⟨rfl, rfl⟩ (Nat.le_of_ble_eq_true rfl) rfl (Spec.mono sp ?_)
  rintro r2 h2 ⟨rfl, S2⟩ _
  exact l_icmp_eq 1304 d252_983 rfl rfl (fun _ => kk h2 S2) (fun w => absurd rfl w)
theorem law_26 {i : Nat} (hi0 : i + 6 ≤ L0) (hL : L0 ≤ 384) (S0 : Sim h) (kk : ∀ h2, Sim h2 → lwp b0 L0 xs0 41 252 Q kc ks 1304 (LSi i) [] h2) : lwp b0 L0 xs0 41 252 Q kc ks 988 (LSi i) [] h := by
  obtain ⟨b, c, S⟩ := S0
  refine l_aload_n (pc' := 989) d252_988 rfl rfl rfl ?_
  refine l_aload_n (pc' := 990) d252_989 rfl rfl rfl ?_
  refine l_iload_n (pc' := 991) d252_990 rfl rfl rfl ?_
  refine l_iconst (v := 1) (pc' := 992) d252_991 rfl (by decide) ?_
  refine l_iadd (pc' := 993) d252_992 rfl ?_
  refine l_sld (k := i + 1) (pc' := 994) d252_993 rfl (nIa i 1) (by omega) hL ?_
  refine l_aload_n (pc' := 995) d252_994 rfl rfl rfl ?_
  refine l_iload_n (pc' := 996) d252_995 rfl rfl rfl ?_
  refine l_iconst (v := 2) (pc' := 997) d252_996 rfl (by decide) ?_
  refine l_iadd (pc' := 998) d252_997 rfl ?_
  refine l_sld (k := i + 2) (pc' := 999) d252_998 rfl (nIa i 2) (by omega) hL ?_
  refine l_callH (pc' := 1002) [vR (some 0), vI _, vI _] [] d252_999 rfl o252 stL_122_11 (rcv1 sh0 (pl S.1.1 rfl)) rfl (by decide) ⟨rfl, rfl⟩ (Nat.le_of_ble_eq_true rfl) rfl (Spec.mono (P_servable S) ?_)
  rintro r h1 ⟨v, rfl, sp⟩ e1
  have hN1 : hn h1 = 65 := e1.trans S.1.1
  refine l_aload_n (pc' := 1003) d252_1002 rfl rfl rfl ?_
  refine l_aload_n (pc' := 1004) d252_1003 rfl rfl rfl ?_
  refine l_iload_n (pc' := 1005) d252_1004 rfl rfl rfl ?_
  refine l_iconst (v := 1) (pc' := 1006) d252_1005 rfl (by decide) ?_
  refine l_iadd (pc' := 1007) d252_1006 rfl ?_
  refine l_sld (k := i + 1) (pc' := 1008) d252_1007 rfl (nIa i 1) (by omega) hL ?_
  refine l_aload_n (pc' := 1009) d252_1008 rfl rfl rfl ?_
  refine l_iload_n (pc' := 1010) d252_1009 rfl rfl rfl ?_
  refine l_iconst (v := 2) (pc' := 1011) d252_1010 rfl (by decide) ?_
  refine l_iadd (pc' := 1012) d252_1011 rfl ?_
  refine l_sld (k := i + 2) (pc' := 1013) d252_1012 rfl (nIa i 2) (by omega) hL ?_
  refine l_callH (pc' := 1016) [vR (some 50), vI _, vI _] [vI v] d252_1013 rfl o252 stL_125_12 (rcv1 sh50 (pl hN1 rfl)) rfl (by decide) ⟨rfl, rfl⟩ (Nat.le_of_ble_eq_true rfl) rfl (Spec.mono sp ?_)
  rintro r2 h2 ⟨rfl, S2⟩ _
  exact l_icmp_eq 1304 d252_1016 rfl rfl (fun _ => kk h2 S2) (fun w => absurd rfl w)
theorem law_27 {i : Nat} (hi0 : i + 6 ≤ L0) (hL : L0 ≤ 384) (S0 : Sim h) (kk : ∀ h2, Sim h2 → lwp b0 L0 xs0 41 252 Q kc ks 1304 (LSi i) [] h2) : lwp b0 L0 xs0 41 252 Q kc ks 1021 (LSi i) [] h := by
  obtain ⟨b, c, S⟩ := S0
  refine l_aload_n (pc' := 1022) d252_1021 rfl rfl rfl ?_
  refine l_aload_n (pc' := 1023) d252_1022 rfl rfl rfl ?_
  refine l_iload_n (pc' := 1024) d252_1023 rfl rfl rfl ?_
  refine l_iconst (v := 1) (pc' := 1025) d252_1024 rfl (by decide) ?_
  refine l_iadd (pc' := 1026) d252_1025 rfl ?_
  refine l_sld (k := i + 1) (pc' := 1027) d252_1026 rfl (nIa i 1) (by omega) hL ?_
  refine l_aload_n (pc' := 1028) d252_1027 rfl rfl rfl ?_
  refine l_iload_n (pc' := 1029) d252_1028 rfl rfl rfl ?_
  refine l_iconst (v := 2) (pc' := 1030) d252_1029 rfl (by decide) ?_
  refine l_iadd (pc' := 1031) d252_1030 rfl ?_
  refine l_sld (k := i + 2) (pc' := 1032) d252_1031 rfl (nIa i 2) (by omega) hL ?_
  refine l_callH (pc' := 1035) [vR (some 0), vI _, vI _] [] d252_1032 rfl o252 stL_126_11 (rcv1 sh0 (pl S.1.1 rfl)) rfl (by decide) ⟨rfl, rfl⟩ (Nat.le_of_ble_eq_true rfl) rfl (Spec.mono (P_hand S) ?_)
  rintro r h1 ⟨v, rfl, sp⟩ e1
  have hN1 : hn h1 = 65 := e1.trans S.1.1
  refine l_aload_n (pc' := 1036) d252_1035 rfl rfl rfl ?_
  refine l_aload_n (pc' := 1037) d252_1036 rfl rfl rfl ?_
  refine l_iload_n (pc' := 1038) d252_1037 rfl rfl rfl ?_
  refine l_iconst (v := 1) (pc' := 1039) d252_1038 rfl (by decide) ?_
  refine l_iadd (pc' := 1040) d252_1039 rfl ?_
  refine l_sld (k := i + 1) (pc' := 1041) d252_1040 rfl (nIa i 1) (by omega) hL ?_
  refine l_aload_n (pc' := 1042) d252_1041 rfl rfl rfl ?_
  refine l_iload_n (pc' := 1043) d252_1042 rfl rfl rfl ?_
  refine l_iconst (v := 2) (pc' := 1044) d252_1043 rfl (by decide) ?_
  refine l_iadd (pc' := 1045) d252_1044 rfl ?_
  refine l_sld (k := i + 2) (pc' := 1046) d252_1045 rfl (nIa i 2) (by omega) hL ?_
  refine l_callH (pc' := 1049) [vR (some 50), vI _, vI _] [vI v] d252_1046 rfl o252 stL_129_12 (rcv1 sh50 (pl hN1 rfl)) rfl (by decide) ⟨rfl, rfl⟩ (Nat.le_of_ble_eq_true rfl) rfl (Spec.mono sp ?_)
  rintro r2 h2 ⟨rfl, S2⟩ _
  exact l_icmp_eq 1304 d252_1049 rfl rfl (fun _ => kk h2 S2) (fun w => absurd rfl w)
theorem law_28 {i : Nat} (hi0 : i + 6 ≤ L0) (hL : L0 ≤ 384) (S0 : Sim h) (kk : ∀ h2, Sim h2 → lwp b0 L0 xs0 41 252 Q kc ks 1304 (LSi i) [] h2) : lwp b0 L0 xs0 41 252 Q kc ks 1054 (LSi i) [] h := by
  obtain ⟨b, c, S⟩ := S0
  refine l_aload_n (pc' := 1055) d252_1054 rfl rfl rfl ?_
  refine l_aload_n (pc' := 1056) d252_1055 rfl rfl rfl ?_
  refine l_iload_n (pc' := 1057) d252_1056 rfl rfl rfl ?_
  refine l_iconst (v := 1) (pc' := 1058) d252_1057 rfl (by decide) ?_
  refine l_iadd (pc' := 1059) d252_1058 rfl ?_
  refine l_sld (k := i + 1) (pc' := 1060) d252_1059 rfl (nIa i 1) (by omega) hL ?_
  refine l_aload_n (pc' := 1061) d252_1060 rfl rfl rfl ?_
  refine l_iload_n (pc' := 1062) d252_1061 rfl rfl rfl ?_
  refine l_iconst (v := 2) (pc' := 1063) d252_1062 rfl (by decide) ?_
  refine l_iadd (pc' := 1064) d252_1063 rfl ?_
  refine l_sld (k := i + 2) (pc' := 1065) d252_1064 rfl (nIa i 2) (by omega) hL ?_
  refine l_aload_n (pc' := 1066) d252_1065 rfl rfl rfl ?_
  refine l_iload_n (pc' := 1067) d252_1066 rfl rfl rfl ?_
  refine l_iconst (v := 3) (pc' := 1068) d252_1067 rfl (by decide) ?_
  refine l_iadd (pc' := 1069) d252_1068 rfl ?_
  refine l_sld (k := i + 3) (pc' := 1070) d252_1069 rfl (nIa i 3) (by omega) hL ?_
  refine l_callH (pc' := 1073) [vR (some 0), vI _, vI _, vI _] [] d252_1070 rfl o252 stL_130_11 (rcv1 sh0 (pl S.1.1 rfl)) rfl (by decide) ⟨rfl, rfl⟩ (Nat.le_of_ble_eq_true rfl) rfl (Spec.mono (P_judged S) ?_)
  rintro r h1 ⟨v, rfl, sp⟩ e1
  have hN1 : hn h1 = 65 := e1.trans S.1.1
  refine l_aload_n (pc' := 1074) d252_1073 rfl rfl rfl ?_
  refine l_aload_n (pc' := 1075) d252_1074 rfl rfl rfl ?_
  refine l_iload_n (pc' := 1076) d252_1075 rfl rfl rfl ?_
  refine l_iconst (v := 1) (pc' := 1077) d252_1076 rfl (by decide) ?_
  refine l_iadd (pc' := 1078) d252_1077 rfl ?_
  refine l_sld (k := i + 1) (pc' := 1079) d252_1078 rfl (nIa i 1) (by omega) hL ?_
  refine l_aload_n (pc' := 1080) d252_1079 rfl rfl rfl ?_
  refine l_iload_n (pc' := 1081) d252_1080 rfl rfl rfl ?_
  refine l_iconst (v := 2) (pc' := 1082) d252_1081 rfl (by decide) ?_
  refine l_iadd (pc' := 1083) d252_1082 rfl ?_
  refine l_sld (k := i + 2) (pc' := 1084) d252_1083 rfl (nIa i 2) (by omega) hL ?_
  refine l_aload_n (pc' := 1085) d252_1084 rfl rfl rfl ?_
  refine l_iload_n (pc' := 1086) d252_1085 rfl rfl rfl ?_
  refine l_iconst (v := 3) (pc' := 1087) d252_1086 rfl (by decide) ?_
  refine l_iadd (pc' := 1088) d252_1087 rfl ?_
  refine l_sld (k := i + 3) (pc' := 1089) d252_1088 rfl (nIa i 3) (by omega) hL ?_
  refine l_callH (pc' := 1092) [vR (some 50), vI _, vI _, vI _] [vI v] d252_1089 rfl o252 stL_133_12 (rcv1 sh50 (pl hN1 rfl)) rfl (by decide) ⟨rfl, rfl⟩ (Nat.le_of_ble_eq_true rfl) rfl (Spec.mono sp ?_)
  rintro r2 h2 ⟨rfl, S2⟩ _
  exact l_icmp_eq 1304 d252_1092 rfl rfl (fun _ => kk h2 S2) (fun w => absurd rfl w)
theorem law_29 {i : Nat} (hi0 : i + 6 ≤ L0) (hL : L0 ≤ 384) (S0 : Sim h) (kk : ∀ h2, Sim h2 → lwp b0 L0 xs0 41 252 Q kc ks 1304 (LSi i) [] h2) : lwp b0 L0 xs0 41 252 Q kc ks 1097 (LSi i) [] h := by
  obtain ⟨b, c, S⟩ := S0
  refine l_aload_n (pc' := 1098) d252_1097 rfl rfl rfl ?_
  refine l_callH (pc' := 1101) [vR (some 0)] [] d252_1098 rfl o252 stL_134_11 (rcv1 sh0 (pl S.1.1 rfl)) rfl (by decide) ⟨rfl, rfl⟩ (Nat.le_of_ble_eq_true rfl) rfl (Spec.mono (P_fuel S) ?_)
  rintro r h1 ⟨v, rfl, sp⟩ e1
  have hN1 : hn h1 = 65 := e1.trans S.1.1
  refine l_aload_n (pc' := 1102) d252_1101 rfl rfl rfl ?_
  refine l_callH (pc' := 1105) [vR (some 50)] [vI v] d252_1102 rfl o252 stL_137_12 (rcv1 sh50 (pl hN1 rfl)) rfl (by decide) ⟨rfl, rfl⟩ (Nat.le_of_ble_eq_true rfl) rfl (Spec.mono sp ?_)
  rintro r2 h2 ⟨rfl, S2⟩ _
  exact l_icmp_eq 1304 d252_1105 rfl rfl (fun _ => kk h2 S2) (fun w => absurd rfl w)
theorem law_30 {i : Nat} (hi0 : i + 6 ≤ L0) (hL : L0 ≤ 384) (S0 : Sim h) (kk : ∀ h2, Sim h2 → lwp b0 L0 xs0 41 252 Q kc ks 1304 (LSi i) [] h2) : lwp b0 L0 xs0 41 252 Q kc ks 1110 (LSi i) [] h := by
  obtain ⟨b, c, S⟩ := S0
  refine l_aload_n (pc' := 1111) d252_1110 rfl rfl rfl ?_
  refine l_aload_n (pc' := 1112) d252_1111 rfl rfl rfl ?_
  refine l_iload_n (pc' := 1113) d252_1112 rfl rfl rfl ?_
  refine l_iconst (v := 1) (pc' := 1114) d252_1113 rfl (by decide) ?_
  refine l_iadd (pc' := 1115) d252_1114 rfl ?_
  refine l_sld (k := i + 1) (pc' := 1116) d252_1115 rfl (nIa i 1) (by omega) hL ?_
  refine l_callH (pc' := 1119) [vR (some 0), vI _] [] d252_1116 rfl o252 stL_138_11 (rcv1 sh0 (pl S.1.1 rfl)) rfl (by decide) ⟨rfl, rfl⟩ (Nat.le_of_ble_eq_true rfl) rfl (Spec.mono (P_image S) ?_)
  rintro r h1 ⟨v, rfl, sp⟩ e1
  have hN1 : hn h1 = 65 := e1.trans S.1.1
  refine l_aload_n (pc' := 1120) d252_1119 rfl rfl rfl ?_
  refine l_aload_n (pc' := 1121) d252_1120 rfl rfl rfl ?_
  refine l_iload_n (pc' := 1122) d252_1121 rfl rfl rfl ?_
  refine l_iconst (v := 1) (pc' := 1123) d252_1122 rfl (by decide) ?_
  refine l_iadd (pc' := 1124) d252_1123 rfl ?_
  refine l_sld (k := i + 1) (pc' := 1125) d252_1124 rfl (nIa i 1) (by omega) hL ?_
  refine l_callH (pc' := 1128) [vR (some 50), vI _] [vI v] d252_1125 rfl o252 stL_141_12 (rcv1 sh50 (pl hN1 rfl)) rfl (by decide) ⟨rfl, rfl⟩ (Nat.le_of_ble_eq_true rfl) rfl (Spec.mono sp ?_)
  rintro r2 h2 ⟨rfl, S2⟩ _
  exact l_icmp_eq 1304 d252_1128 rfl rfl (fun _ => kk h2 S2) (fun w => absurd rfl w)
theorem law_31 {i : Nat} (hi0 : i + 6 ≤ L0) (hL : L0 ≤ 384) (S0 : Sim h) (kk : ∀ h2, Sim h2 → lwp b0 L0 xs0 41 252 Q kc ks 1304 (LSi i) [] h2) : lwp b0 L0 xs0 41 252 Q kc ks 1133 (LSi i) [] h := by
  obtain ⟨b, c, S⟩ := S0
  refine l_aload_n (pc' := 1134) d252_1133 rfl rfl rfl ?_
  refine l_aload_n (pc' := 1135) d252_1134 rfl rfl rfl ?_
  refine l_iload_n (pc' := 1136) d252_1135 rfl rfl rfl ?_
  refine l_iconst (v := 1) (pc' := 1137) d252_1136 rfl (by decide) ?_
  refine l_iadd (pc' := 1138) d252_1137 rfl ?_
  refine l_sld (k := i + 1) (pc' := 1139) d252_1138 rfl (nIa i 1) (by omega) hL ?_
  refine l_callH (pc' := 1142) [vR (some 0), vI _] [] d252_1139 rfl o252 stL_142_11 (rcv1 sh0 (pl S.1.1 rfl)) rfl (by decide) ⟨rfl, rfl⟩ (Nat.le_of_ble_eq_true rfl) rfl (Spec.mono (P_restore S) ?_)
  rintro r h1 ⟨v, rfl, sp⟩ e1
  have hN1 : hn h1 = 65 := e1.trans S.1.1
  refine l_aload_n (pc' := 1143) d252_1142 rfl rfl rfl ?_
  refine l_aload_n (pc' := 1144) d252_1143 rfl rfl rfl ?_
  refine l_iload_n (pc' := 1145) d252_1144 rfl rfl rfl ?_
  refine l_iconst (v := 1) (pc' := 1146) d252_1145 rfl (by decide) ?_
  refine l_iadd (pc' := 1147) d252_1146 rfl ?_
  refine l_sld (k := i + 1) (pc' := 1148) d252_1147 rfl (nIa i 1) (by omega) hL ?_
  refine l_callH (pc' := 1151) [vR (some 50), vI _] [vI v] d252_1148 rfl o252 stL_145_12 (rcv1 sh50 (pl hN1 rfl)) rfl (by decide) ⟨rfl, rfl⟩ (Nat.le_of_ble_eq_true rfl) rfl (Spec.mono sp ?_)
  rintro r2 h2 ⟨rfl, S2⟩ _
  exact l_icmp_eq 1304 d252_1151 rfl rfl (fun _ => kk h2 S2) (fun w => absurd rfl w)
theorem law_32 {i : Nat} (hi0 : i + 6 ≤ L0) (hL : L0 ≤ 384) (S0 : Sim h) (kk : ∀ h2, Sim h2 → lwp b0 L0 xs0 41 252 Q kc ks 1304 (LSi i) [] h2) : lwp b0 L0 xs0 41 252 Q kc ks 1156 (LSi i) [] h := by
  obtain ⟨b, c, S⟩ := S0
  refine l_aload_n (pc' := 1157) d252_1156 rfl rfl rfl ?_
  refine l_aload_n (pc' := 1158) d252_1157 rfl rfl rfl ?_
  refine l_iload_n (pc' := 1159) d252_1158 rfl rfl rfl ?_
  refine l_iconst (v := 1) (pc' := 1160) d252_1159 rfl (by decide) ?_
  refine l_iadd (pc' := 1161) d252_1160 rfl ?_
  refine l_sld (k := i + 1) (pc' := 1162) d252_1161 rfl (nIa i 1) (by omega) hL ?_
  refine l_callH (pc' := 1165) [vR (some 0), vI _] [] d252_1162 rfl o252 stL_146_11 (rcv1 sh0 (pl S.1.1 rfl)) rfl (by decide) ⟨rfl, rfl⟩ (Nat.le_of_ble_eq_true rfl) rfl (Spec.mono (P_kind S) ?_)
  rintro r h1 ⟨v, rfl, sp⟩ e1
  have hN1 : hn h1 = 65 := e1.trans S.1.1
  refine l_aload_n (pc' := 1166) d252_1165 rfl rfl rfl ?_
  refine l_aload_n (pc' := 1167) d252_1166 rfl rfl rfl ?_
  refine l_iload_n (pc' := 1168) d252_1167 rfl rfl rfl ?_
  refine l_iconst (v := 1) (pc' := 1169) d252_1168 rfl (by decide) ?_
  refine l_iadd (pc' := 1170) d252_1169 rfl ?_
  refine l_sld (k := i + 1) (pc' := 1171) d252_1170 rfl (nIa i 1) (by omega) hL ?_
  refine l_callH (pc' := 1174) [vR (some 50), vI _] [vI v] d252_1171 rfl o252 stL_149_12 (rcv1 sh50 (pl hN1 rfl)) rfl (by decide) ⟨rfl, rfl⟩ (Nat.le_of_ble_eq_true rfl) rfl (Spec.mono sp ?_)
  rintro r2 h2 ⟨rfl, S2⟩ _
  exact l_icmp_eq 1304 d252_1174 rfl rfl (fun _ => kk h2 S2) (fun w => absurd rfl w)
theorem law_33 {i : Nat} (hi0 : i + 6 ≤ L0) (hL : L0 ≤ 384) (S0 : Sim h) (kk : ∀ h2, Sim h2 → lwp b0 L0 xs0 41 252 Q kc ks 1304 (LSi i) [] h2) : lwp b0 L0 xs0 41 252 Q kc ks 1179 (LSi i) [] h := by
  obtain ⟨b, c, S⟩ := S0
  refine l_aload_n (pc' := 1180) d252_1179 rfl rfl rfl ?_
  refine l_aload_n (pc' := 1181) d252_1180 rfl rfl rfl ?_
  refine l_iload_n (pc' := 1182) d252_1181 rfl rfl rfl ?_
  refine l_iconst (v := 1) (pc' := 1183) d252_1182 rfl (by decide) ?_
  refine l_iadd (pc' := 1184) d252_1183 rfl ?_
  refine l_sld (k := i + 1) (pc' := 1185) d252_1184 rfl (nIa i 1) (by omega) hL ?_
  refine l_aload_n (pc' := 1186) d252_1185 rfl rfl rfl ?_
  refine l_iload_n (pc' := 1187) d252_1186 rfl rfl rfl ?_
  refine l_iconst (v := 2) (pc' := 1188) d252_1187 rfl (by decide) ?_
  refine l_iadd (pc' := 1189) d252_1188 rfl ?_
  refine l_sld (k := i + 2) (pc' := 1190) d252_1189 rfl (nIa i 2) (by omega) hL ?_
  refine l_callH (pc' := 1193) [vR (some 0), vI _, vI _] [] d252_1190 rfl o252 stL_150_11 (rcv1 sh0 (pl S.1.1 rfl)) rfl (by decide) ⟨rfl, rfl⟩ (Nat.le_of_ble_eq_true rfl) rfl (Spec.mono (P_as S) ?_)
  rintro r h1 ⟨v, rfl, sp⟩ e1
  have hN1 : hn h1 = 65 := e1.trans S.1.1
  refine l_aload_n (pc' := 1194) d252_1193 rfl rfl rfl ?_
  refine l_aload_n (pc' := 1195) d252_1194 rfl rfl rfl ?_
  refine l_iload_n (pc' := 1196) d252_1195 rfl rfl rfl ?_
  refine l_iconst (v := 1) (pc' := 1197) d252_1196 rfl (by decide) ?_
  refine l_iadd (pc' := 1198) d252_1197 rfl ?_
  refine l_sld (k := i + 1) (pc' := 1199) d252_1198 rfl (nIa i 1) (by omega) hL ?_
  refine l_aload_n (pc' := 1200) d252_1199 rfl rfl rfl ?_
  refine l_iload_n (pc' := 1201) d252_1200 rfl rfl rfl ?_
  refine l_iconst (v := 2) (pc' := 1202) d252_1201 rfl (by decide) ?_
  refine l_iadd (pc' := 1203) d252_1202 rfl ?_
  refine l_sld (k := i + 2) (pc' := 1204) d252_1203 rfl (nIa i 2) (by omega) hL ?_
  refine l_callH (pc' := 1207) [vR (some 50), vI _, vI _] [vI v] d252_1204 rfl o252 stL_153_12 (rcv1 sh50 (pl hN1 rfl)) rfl (by decide) ⟨rfl, rfl⟩ (Nat.le_of_ble_eq_true rfl) rfl (Spec.mono sp ?_)
  rintro r2 h2 ⟨rfl, S2⟩ _
  exact l_icmp_eq 1304 d252_1207 rfl rfl (fun _ => kk h2 S2) (fun w => absurd rfl w)
theorem law_34 {i : Nat} (hi0 : i + 6 ≤ L0) (hL : L0 ≤ 384) (S0 : Sim h) (kk : ∀ h2, Sim h2 → lwp b0 L0 xs0 41 252 Q kc ks 1304 (LSi i) [] h2) : lwp b0 L0 xs0 41 252 Q kc ks 1212 (LSi i) [] h := by
  obtain ⟨b, c, S⟩ := S0
  refine l_aload_n (pc' := 1213) d252_1212 rfl rfl rfl ?_
  refine l_aload_n (pc' := 1214) d252_1213 rfl rfl rfl ?_
  refine l_iload_n (pc' := 1215) d252_1214 rfl rfl rfl ?_
  refine l_iconst (v := 1) (pc' := 1216) d252_1215 rfl (by decide) ?_
  refine l_iadd (pc' := 1217) d252_1216 rfl ?_
  refine l_sld (k := i + 1) (pc' := 1218) d252_1217 rfl (nIa i 1) (by omega) hL ?_
  refine l_aload_n (pc' := 1219) d252_1218 rfl rfl rfl ?_
  refine l_iload_n (pc' := 1220) d252_1219 rfl rfl rfl ?_
  refine l_iconst (v := 2) (pc' := 1221) d252_1220 rfl (by decide) ?_
  refine l_iadd (pc' := 1222) d252_1221 rfl ?_
  refine l_sld (k := i + 2) (pc' := 1223) d252_1222 rfl (nIa i 2) (by omega) hL ?_
  refine l_callH (pc' := 1226) [vR (some 0), vI _, vI _] [] d252_1223 rfl o252 stL_154_11 (rcv1 sh0 (pl S.1.1 rfl)) rfl (by decide) ⟨rfl, rfl⟩ (Nat.le_of_ble_eq_true rfl) rfl (Spec.mono (P_ask S) ?_)
  rintro r h1 ⟨v, rfl, sp⟩ e1
  have hN1 : hn h1 = 65 := e1.trans S.1.1
  refine l_aload_n (pc' := 1227) d252_1226 rfl rfl rfl ?_
  refine l_aload_n (pc' := 1228) d252_1227 rfl rfl rfl ?_
  refine l_iload_n (pc' := 1229) d252_1228 rfl rfl rfl ?_
  refine l_iconst (v := 1) (pc' := 1230) d252_1229 rfl (by decide) ?_
  refine l_iadd (pc' := 1231) d252_1230 rfl ?_
  refine l_sld (k := i + 1) (pc' := 1232) d252_1231 rfl (nIa i 1) (by omega) hL ?_
  refine l_aload_n (pc' := 1233) d252_1232 rfl rfl rfl ?_
  refine l_iload_n (pc' := 1234) d252_1233 rfl rfl rfl ?_
  refine l_iconst (v := 2) (pc' := 1235) d252_1234 rfl (by decide) ?_
  refine l_iadd (pc' := 1236) d252_1235 rfl ?_
  refine l_sld (k := i + 2) (pc' := 1237) d252_1236 rfl (nIa i 2) (by omega) hL ?_
  refine l_callH (pc' := 1240) [vR (some 50), vI _, vI _] [vI v] d252_1237 rfl o252 stL_157_12 (rcv1 sh50 (pl hN1 rfl)) rfl (by decide) ⟨rfl, rfl⟩ (Nat.le_of_ble_eq_true rfl) rfl (Spec.mono sp ?_)
  rintro r2 h2 ⟨rfl, S2⟩ _
  exact l_icmp_eq 1304 d252_1240 rfl rfl (fun _ => kk h2 S2) (fun w => absurd rfl w)
theorem law_35 {i : Nat} (hi0 : i + 6 ≤ L0) (hL : L0 ≤ 384) (S0 : Sim h) (kk : ∀ h2, Sim h2 → lwp b0 L0 xs0 41 252 Q kc ks 1304 (LSi i) [] h2) : lwp b0 L0 xs0 41 252 Q kc ks 1245 (LSi i) [] h := by
  obtain ⟨b, c, S⟩ := S0
  refine l_aload_n (pc' := 1246) d252_1245 rfl rfl rfl ?_
  refine l_aload_n (pc' := 1247) d252_1246 rfl rfl rfl ?_
  refine l_iload_n (pc' := 1248) d252_1247 rfl rfl rfl ?_
  refine l_iconst (v := 1) (pc' := 1249) d252_1248 rfl (by decide) ?_
  refine l_iadd (pc' := 1250) d252_1249 rfl ?_
  refine l_sld (k := i + 1) (pc' := 1251) d252_1250 rfl (nIa i 1) (by omega) hL ?_
  refine l_callH (pc' := 1254) [vR (some 0), vI _] [] d252_1251 rfl o252 stL_158_11 (rcv1 sh0 (pl S.1.1 rfl)) rfl (by decide) ⟨rfl, rfl⟩ (Nat.le_of_ble_eq_true rfl) rfl (Spec.mono (P_trace S) ?_)
  rintro r h1 ⟨v, rfl, sp⟩ e1
  have hN1 : hn h1 = 65 := e1.trans S.1.1
  refine l_aload_n (pc' := 1255) d252_1254 rfl rfl rfl ?_
  refine l_aload_n (pc' := 1256) d252_1255 rfl rfl rfl ?_
  refine l_iload_n (pc' := 1257) d252_1256 rfl rfl rfl ?_
  refine l_iconst (v := 1) (pc' := 1258) d252_1257 rfl (by decide) ?_
  refine l_iadd (pc' := 1259) d252_1258 rfl ?_
  refine l_sld (k := i + 1) (pc' := 1260) d252_1259 rfl (nIa i 1) (by omega) hL ?_
  refine l_callH (pc' := 1263) [vR (some 50), vI _] [vI v] d252_1260 rfl o252 stL_161_12 (rcv1 sh50 (pl hN1 rfl)) rfl (by decide) ⟨rfl, rfl⟩ (Nat.le_of_ble_eq_true rfl) rfl (Spec.mono sp ?_)
  rintro r2 h2 ⟨rfl, S2⟩ _
  exact l_icmp_eq 1304 d252_1263 rfl rfl (fun _ => kk h2 S2) (fun w => absurd rfl w)
theorem law_36 {i : Nat} (hi0 : i + 6 ≤ L0) (hL : L0 ≤ 384) (S0 : Sim h) (kk : ∀ h2, Sim h2 → lwp b0 L0 xs0 41 252 Q kc ks 1304 (LSi i) [] h2) : lwp b0 L0 xs0 41 252 Q kc ks 1268 (LSi i) [] h := by
  obtain ⟨b, c, S⟩ := S0
  refine l_aload_n (pc' := 1269) d252_1268 rfl rfl rfl ?_
  refine l_aload_n (pc' := 1270) d252_1269 rfl rfl rfl ?_
  refine l_iload_n (pc' := 1271) d252_1270 rfl rfl rfl ?_
  refine l_iconst (v := 1) (pc' := 1272) d252_1271 rfl (by decide) ?_
  refine l_iadd (pc' := 1273) d252_1272 rfl ?_
  refine l_sld (k := i + 1) (pc' := 1274) d252_1273 rfl (nIa i 1) (by omega) hL ?_
  refine l_callH (pc' := 1277) [vR (some 0), vI _] [] d252_1274 rfl o252 stL_162_11 (rcv1 sh0 (pl S.1.1 rfl)) rfl (by decide) ⟨rfl, rfl⟩ (Nat.le_of_ble_eq_true rfl) rfl (Spec.mono (P_count S) ?_)
  rintro r h1 ⟨v, rfl, sp⟩ e1
  have hN1 : hn h1 = 65 := e1.trans S.1.1
  refine l_aload_n (pc' := 1278) d252_1277 rfl rfl rfl ?_
  refine l_aload_n (pc' := 1279) d252_1278 rfl rfl rfl ?_
  refine l_iload_n (pc' := 1280) d252_1279 rfl rfl rfl ?_
  refine l_iconst (v := 1) (pc' := 1281) d252_1280 rfl (by decide) ?_
  refine l_iadd (pc' := 1282) d252_1281 rfl ?_
  refine l_sld (k := i + 1) (pc' := 1283) d252_1282 rfl (nIa i 1) (by omega) hL ?_
  refine l_callH (pc' := 1286) [vR (some 50), vI _] [vI v] d252_1283 rfl o252 stL_165_12 (rcv1 sh50 (pl hN1 rfl)) rfl (by decide) ⟨rfl, rfl⟩ (Nat.le_of_ble_eq_true rfl) rfl (Spec.mono sp ?_)
  rintro r2 h2 ⟨rfl, S2⟩ _
  exact l_icmp_eq 1304 d252_1286 rfl rfl (fun _ => kk h2 S2) (fun w => absurd rfl w)
theorem law_37 {i : Nat} (hi0 : i + 6 ≤ L0) (hL : L0 ≤ 384) (S0 : Sim h) (kk : ∀ h2, Sim h2 → lwp b0 L0 xs0 41 252 Q kc ks 1304 (LSi i) [] h2) : lwp b0 L0 xs0 41 252 Q kc ks 1291 (LSi i) [] h := by
  obtain ⟨b, c, S⟩ := S0
  refine l_aload_n (pc' := 1292) d252_1291 rfl rfl rfl ?_
  refine l_callH (pc' := 1295) [vR (some 0)] [] d252_1292 rfl o252 stL_166_11 (rcv1 sh0 (pl S.1.1 rfl)) rfl (by decide) ⟨rfl, rfl⟩ (Nat.le_of_ble_eq_true rfl) rfl (Spec.mono (P_status S) ?_)
  rintro r h1 ⟨v, rfl, sp⟩ e1
  have hN1 : hn h1 = 65 := e1.trans S.1.1
  refine l_aload_n (pc' := 1296) d252_1295 rfl rfl rfl ?_
  refine l_callH (pc' := 1299) [vR (some 50)] [vI v] d252_1296 rfl o252 stL_169_12 (rcv1 sh50 (pl hN1 rfl)) rfl (by decide) ⟨rfl, rfl⟩ (Nat.le_of_ble_eq_true rfl) rfl (Spec.mono sp ?_)
  rintro r2 h2 ⟨rfl, S2⟩ _
  exact l_icmp_eq 1304 d252_1299 rfl rfl (fun _ => kk h2 S2) (fun w => absurd rfl w)
end Ly
