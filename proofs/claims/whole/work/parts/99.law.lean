/-! THE LAW'S STEPS -/
def mL (b L : Nat) (xs : Nat → Int32) : aw_M := (yL_law, cL_law, 4, some .boolean, [(b, L, xs)])
def lQ : Int32 → aw_O → aw_MI → aw_MJ → Prop := fun x _ _ _ => x = 1
theorem aw_sld {G : aw_G} {M : aw_M} {N0 d mc ms : Nat} {Q : aw_Q} {Ω : aw_O} {I : aw_MI} {J : aw_MJ} {k n : Nat} {lv : List Value} {pc : Nat} {st : List Value} {b L i : Nat} {xs : Nat → Int32} (hsc : (b, L, xs) ∈ aw_scr M) (hd : decode (aw_cc M) pc = .ok (.iaload, 1)) (hi : i < L) (hL : L ≤ 3072) (kk : AW G M N0 d mc ms Q Ω I J k n lv (pc + 1) (.int (xs i) :: st)) : AW G M N0 d mc ms Q Ω I J k n lv pc (.int (nI i) :: .ref b :: st) := by
  intro p e R s m args below meth c H locs ls Z hF hl hR hS hE
  have hF2 := hF
  obtain ⟨hx, hb, hr, hlk, hml, hown, hts, hK, hnm, hfr, hlo, hmc, hms, hsz, hsc2⟩ := hF
  obtain ⟨h1, h2, h3⟩ := hsc2 _ hsc
  refine va_sld hx hb h1 h3 (fun q => absurd h2 (Nat.not_lt.mpr q)) hS (vp_in_nI hi (show L < 2 ^ 31 by omega)) hd ?_
  rw [nI_clamp (by omega)]
  exact kk p e R s m args below meth c H locs ls Z hF2 hl hR hS hE
theorem aw_slen {G : aw_G} {M : aw_M} {N0 d mc ms : Nat} {Q : aw_Q} {Ω : aw_O} {I : aw_MI} {J : aw_MJ} {k n : Nat} {lv : List Value} {pc : Nat} {st : List Value} {b L : Nat} {xs : Nat → Int32} (hsc : (b, L, xs) ∈ aw_scr M) (hd : decode (aw_cc M) pc = .ok (.arraylength, 1)) (kk : AW G M N0 d mc ms Q Ω I J k n lv (pc + 1) (.int (nI L) :: st)) : AW G M N0 d mc ms Q Ω I J k n lv pc (.ref b :: st) := by
  intro p e R s m args below meth c H locs ls Z hF hl hR hS hE
  have hF2 := hF
  obtain ⟨hx, hb, hr, hlk, hml, hown, hts, hK, hnm, hfr, hlo, hmc, hms, hsz, hsc2⟩ := hF
  obtain ⟨h1, h2, h3⟩ := hsc2 _ hsc
  exact va_slen hx hb h1 h3 (fun q => absurd h2 (Nat.not_lt.mpr q)) hS hd (kk p e R s m args below meth c H locs ls Z hF2 hl hR hS hE)
theorem kcL_151 : Cond.constantLong RL 151 4294967295 ∈ aw_tbl := aw_pl 1205 (by decide +kernel) rfl
theorem lo_0 {G : aw_G} {b L i k n : Nat} {xs : Nat → Int32} {Ω : aw_O} {I : aw_MI} {J : aw_MJ} (R : Rel Ω I J) (hi : i + 6 ≤ L) (hL : L ≤ 3072) (hk : k + 1 ≤ 600000) (hn : n + 3 ≤ 7302249) (K : ∀ Ω' I' J' k' n', Rel Ω' I' J' → k' ≤ k + 1 → n' ≤ n + 3 → AW G (mL b L xs) 0 1000 600000 7302249 (aw_QI lQ) Ω' I' J' k' n' [.ref b, .ref (aw_ad G 0), .ref (aw_ad G 65), .int (nI i)] 1374 []) : AW G (mL b L xs) 0 1000 600000 7302249 (aw_QI lQ) Ω I J k n [.ref b, .ref (aw_ad G 0), .ref (aw_ad G 65), .int (nI i)] 200 [] := by
  refine aw_aload_n dL_law_200 rfl ?_
  refine aw_aload_n dL_law_201 rfl ?_
  refine aw_iload_n dL_law_202 rfl ?_
  refine aw_iconst (v := nI 1) dL_law_203 (by decide) ?_
  refine aw_iaddN dL_law_204 ?_
  refine aw_pc (pc2 := 205) rfl ?_
  refine aw_sld (i := i + 1) (List.mem_singleton.mpr rfl) dL_law_205 (by omega) (by omega) ?_
  refine aw_cvI (As := [_]) (d' := 999) dL_law_206 lkL_13 R.1.1.o (by omega) rfl rfl (Nat.le_of_ble_eq_true rfl) ⟨by omega, by omega⟩ (st_size R (by omega) (fun z I1 J1 pr => ?_))
  refine aw_pc (pc2 := 209) rfl ?_
  refine aw_aload_n dL_law_209 rfl ?_
  refine aw_aload_n dL_law_210 rfl ?_
  refine aw_iload_n dL_law_211 rfl ?_
  refine aw_pc (pc2 := 212) rfl ?_
  refine aw_iconst (v := nI 1) dL_law_212 (by decide) ?_
  refine aw_iaddN dL_law_213 ?_
  refine aw_sld (i := i + 1) (List.mem_singleton.mpr rfl) dL_law_214 (by omega) (by omega) ?_
  refine aw_cvI (As := [_]) (d' := 999) dL_law_215 lkL_17 R.1.2.1.o (by omega) rfl rfl (Nat.le_of_ble_eq_true rfl) ⟨by omega, by omega⟩ (pr _ (fun Ω2 I2 J2 R2 _ => ?_))
  refine aw_pc (pc2 := 218) rfl ?_
  exact aw_icmp_eq (t := 1374) dL_law_218 (by decide) (fun _ => K _ _ _ _ _ R2 (by omega) (by omega)) (fun e => absurd rfl e)
theorem lo_1 {G : aw_G} {b L i k n : Nat} {xs : Nat → Int32} {Ω : aw_O} {I : aw_MI} {J : aw_MJ} (R : Rel Ω I J) (hi : i + 6 ≤ L) (hL : L ≤ 3072) (hk : k + 1 ≤ 600000) (hn : n + 3 ≤ 7302249) (K : ∀ Ω' I' J' k' n', Rel Ω' I' J' → k' ≤ k + 1 → n' ≤ n + 3 → AW G (mL b L xs) 0 1000 600000 7302249 (aw_QI lQ) Ω' I' J' k' n' [.ref b, .ref (aw_ad G 0), .ref (aw_ad G 65), .int (nI i)] 1374 []) : AW G (mL b L xs) 0 1000 600000 7302249 (aw_QI lQ) Ω I J k n [.ref b, .ref (aw_ad G 0), .ref (aw_ad G 65), .int (nI i)] 223 [] := by
  refine aw_aload_n dL_law_223 rfl ?_
  refine aw_aload_n dL_law_224 rfl ?_
  refine aw_iload_n dL_law_225 rfl ?_
  refine aw_iconst (v := nI 1) dL_law_226 (by decide) ?_
  refine aw_iaddN dL_law_227 ?_
  refine aw_pc (pc2 := 228) rfl ?_
  refine aw_sld (i := i + 1) (List.mem_singleton.mpr rfl) dL_law_228 (by omega) (by omega) ?_
  refine aw_aload_n dL_law_229 rfl ?_
  refine aw_iload_n dL_law_230 rfl ?_
  refine aw_iconst (v := nI 2) dL_law_231 (by decide) ?_
  refine aw_iaddN dL_law_232 ?_
  refine aw_pc (pc2 := 233) rfl ?_
  refine aw_sld (i := i + 2) (List.mem_singleton.mpr rfl) dL_law_233 (by omega) (by omega) ?_
  refine aw_aload_n dL_law_234 rfl ?_
  refine aw_iload_n dL_law_235 rfl ?_
  refine aw_iconst (v := nI 3) dL_law_236 (by decide) ?_
  refine aw_iaddN dL_law_237 ?_
  refine aw_pc (pc2 := 238) rfl ?_
  refine aw_sld (i := i + 3) (List.mem_singleton.mpr rfl) dL_law_238 (by omega) (by omega) ?_
  refine aw_cvI (As := [_, _, _]) (d' := 999) dL_law_239 lkL_18 R.1.1.o (by omega) rfl rfl (Nat.le_of_ble_eq_true rfl) ⟨by omega, by omega⟩ (st_bend R (by omega) (fun z I1 J1 pr => ?_))
  refine aw_pc (pc2 := 242) rfl ?_
  refine aw_aload_n dL_law_242 rfl ?_
  refine aw_aload_n dL_law_243 rfl ?_
  refine aw_iload_n dL_law_244 rfl ?_
  refine aw_pc (pc2 := 245) rfl ?_
  refine aw_iconst (v := nI 1) dL_law_245 (by decide) ?_
  refine aw_iaddN dL_law_246 ?_
  refine aw_sld (i := i + 1) (List.mem_singleton.mpr rfl) dL_law_247 (by omega) (by omega) ?_
  refine aw_aload_n dL_law_248 rfl ?_
  refine aw_iload_n dL_law_249 rfl ?_
  refine aw_pc (pc2 := 250) rfl ?_
  refine aw_iconst (v := nI 2) dL_law_250 (by decide) ?_
  refine aw_iaddN dL_law_251 ?_
  refine aw_sld (i := i + 2) (List.mem_singleton.mpr rfl) dL_law_252 (by omega) (by omega) ?_
  refine aw_aload_n dL_law_253 rfl ?_
  refine aw_iload_n dL_law_254 rfl ?_
  refine aw_pc (pc2 := 255) rfl ?_
  refine aw_iconst (v := nI 3) dL_law_255 (by decide) ?_
  refine aw_iaddN dL_law_256 ?_
  refine aw_sld (i := i + 3) (List.mem_singleton.mpr rfl) dL_law_257 (by omega) (by omega) ?_
  refine aw_cvI (As := [_, _, _]) (d' := 999) dL_law_258 lkL_22 R.1.2.1.o (by omega) rfl rfl (Nat.le_of_ble_eq_true rfl) ⟨by omega, by omega⟩ (pr _ (fun Ω2 I2 J2 R2 _ => ?_))
  refine aw_pc (pc2 := 261) rfl ?_
  exact aw_icmp_eq (t := 1374) dL_law_261 (by decide) (fun _ => K _ _ _ _ _ R2 (by omega) (by omega)) (fun e => absurd rfl e)
theorem lo_2 {G : aw_G} {b L i k n : Nat} {xs : Nat → Int32} {Ω : aw_O} {I : aw_MI} {J : aw_MJ} (R : Rel Ω I J) (hi : i + 6 ≤ L) (hL : L ≤ 3072) (hk : k + 1 ≤ 600000) (hn : n + 3 ≤ 7302249) (K : ∀ Ω' I' J' k' n', Rel Ω' I' J' → k' ≤ k + 1 → n' ≤ n + 3 → AW G (mL b L xs) 0 1000 600000 7302249 (aw_QI lQ) Ω' I' J' k' n' [.ref b, .ref (aw_ad G 0), .ref (aw_ad G 65), .int (nI i)] 1374 []) : AW G (mL b L xs) 0 1000 600000 7302249 (aw_QI lQ) Ω I J k n [.ref b, .ref (aw_ad G 0), .ref (aw_ad G 65), .int (nI i)] 266 [] := by
  refine aw_aload_n dL_law_266 rfl ?_
  refine aw_aload_n dL_law_267 rfl ?_
  refine aw_iload_n dL_law_268 rfl ?_
  refine aw_iconst (v := nI 1) dL_law_269 (by decide) ?_
  refine aw_iaddN dL_law_270 ?_
  refine aw_pc (pc2 := 271) rfl ?_
  refine aw_sld (i := i + 1) (List.mem_singleton.mpr rfl) dL_law_271 (by omega) (by omega) ?_
  refine aw_aload_n dL_law_272 rfl ?_
  refine aw_iload_n dL_law_273 rfl ?_
  refine aw_iconst (v := nI 2) dL_law_274 (by decide) ?_
  refine aw_iaddN dL_law_275 ?_
  refine aw_pc (pc2 := 276) rfl ?_
  refine aw_sld (i := i + 2) (List.mem_singleton.mpr rfl) dL_law_276 (by omega) (by omega) ?_
  refine aw_cvI (As := [_, _]) (d' := 999) dL_law_277 lkL_23 R.1.1.o (by omega) rfl rfl (Nat.le_of_ble_eq_true rfl) ⟨by omega, by omega⟩ (st_push R (by omega) (fun z I1 J1 pr => ?_))
  refine aw_pc (pc2 := 280) rfl ?_
  refine aw_aload_n dL_law_280 rfl ?_
  refine aw_aload_n dL_law_281 rfl ?_
  refine aw_iload_n dL_law_282 rfl ?_
  refine aw_pc (pc2 := 283) rfl ?_
  refine aw_iconst (v := nI 1) dL_law_283 (by decide) ?_
  refine aw_iaddN dL_law_284 ?_
  refine aw_sld (i := i + 1) (List.mem_singleton.mpr rfl) dL_law_285 (by omega) (by omega) ?_
  refine aw_aload_n dL_law_286 rfl ?_
  refine aw_iload_n dL_law_287 rfl ?_
  refine aw_pc (pc2 := 288) rfl ?_
  refine aw_iconst (v := nI 2) dL_law_288 (by decide) ?_
  refine aw_iaddN dL_law_289 ?_
  refine aw_sld (i := i + 2) (List.mem_singleton.mpr rfl) dL_law_290 (by omega) (by omega) ?_
  refine aw_cvI (As := [_, _]) (d' := 999) dL_law_291 lkL_27 R.1.2.1.o (by omega) rfl rfl (Nat.le_of_ble_eq_true rfl) ⟨by omega, by omega⟩ (pr _ (fun Ω2 I2 J2 R2 _ => ?_))
  refine aw_pc (pc2 := 294) rfl ?_
  exact aw_icmp_eq (t := 1374) dL_law_294 (by decide) (fun _ => K _ _ _ _ _ R2 (by omega) (by omega)) (fun e => absurd rfl e)
theorem lo_3 {G : aw_G} {b L i k n : Nat} {xs : Nat → Int32} {Ω : aw_O} {I : aw_MI} {J : aw_MJ} (R : Rel Ω I J) (hi : i + 6 ≤ L) (hL : L ≤ 3072) (hk : k + 1 ≤ 600000) (hn : n + 3 ≤ 7302249) (K : ∀ Ω' I' J' k' n', Rel Ω' I' J' → k' ≤ k + 1 → n' ≤ n + 3 → AW G (mL b L xs) 0 1000 600000 7302249 (aw_QI lQ) Ω' I' J' k' n' [.ref b, .ref (aw_ad G 0), .ref (aw_ad G 65), .int (nI i)] 1374 []) : AW G (mL b L xs) 0 1000 600000 7302249 (aw_QI lQ) Ω I J k n [.ref b, .ref (aw_ad G 0), .ref (aw_ad G 65), .int (nI i)] 299 [] := by
  refine aw_aload_n dL_law_299 rfl ?_
  refine aw_aload_n dL_law_300 rfl ?_
  refine aw_iload_n dL_law_301 rfl ?_
  refine aw_iconst (v := nI 1) dL_law_302 (by decide) ?_
  refine aw_iaddN dL_law_303 ?_
  refine aw_pc (pc2 := 304) rfl ?_
  refine aw_sld (i := i + 1) (List.mem_singleton.mpr rfl) dL_law_304 (by omega) (by omega) ?_
  refine aw_cvI (As := [_]) (d' := 999) dL_law_305 lkL_28 R.1.1.o (by omega) rfl rfl (Nat.le_of_ble_eq_true rfl) ⟨by omega, by omega⟩ (st_tide R (by omega) (fun z I1 J1 pr => ?_))
  refine aw_pc (pc2 := 308) rfl ?_
  refine aw_aload_n dL_law_308 rfl ?_
  refine aw_aload_n dL_law_309 rfl ?_
  refine aw_iload_n dL_law_310 rfl ?_
  refine aw_pc (pc2 := 311) rfl ?_
  refine aw_iconst (v := nI 1) dL_law_311 (by decide) ?_
  refine aw_iaddN dL_law_312 ?_
  refine aw_sld (i := i + 1) (List.mem_singleton.mpr rfl) dL_law_313 (by omega) (by omega) ?_
  refine aw_cvI (As := [_]) (d' := 999) dL_law_314 lkL_31 R.1.2.1.o (by omega) rfl rfl (Nat.le_of_ble_eq_true rfl) ⟨by omega, by omega⟩ (pr _ (fun Ω2 I2 J2 R2 _ => ?_))
  refine aw_pc (pc2 := 317) rfl ?_
  exact aw_icmp_eq (t := 1374) dL_law_317 (by decide) (fun _ => K _ _ _ _ _ R2 (by omega) (by omega)) (fun e => absurd rfl e)
theorem lo_4 {G : aw_G} {b L i k n : Nat} {xs : Nat → Int32} {Ω : aw_O} {I : aw_MI} {J : aw_MJ} (R : Rel Ω I J) (hi : i + 6 ≤ L) (hL : L ≤ 3072) (hk : k + 1 ≤ 600000) (hn : n + 3 ≤ 7302249) (K : ∀ Ω' I' J' k' n', Rel Ω' I' J' → k' ≤ k + 1 → n' ≤ n + 3 → AW G (mL b L xs) 0 1000 600000 7302249 (aw_QI lQ) Ω' I' J' k' n' [.ref b, .ref (aw_ad G 0), .ref (aw_ad G 65), .int (nI i)] 1374 []) : AW G (mL b L xs) 0 1000 600000 7302249 (aw_QI lQ) Ω I J k n [.ref b, .ref (aw_ad G 0), .ref (aw_ad G 65), .int (nI i)] 322 [] := by
  refine aw_aload_n dL_law_322 rfl ?_
  refine aw_aload_n dL_law_323 rfl ?_
  refine aw_iload_n dL_law_324 rfl ?_
  refine aw_iconst (v := nI 1) dL_law_325 (by decide) ?_
  refine aw_iaddN dL_law_326 ?_
  refine aw_pc (pc2 := 327) rfl ?_
  refine aw_sld (i := i + 1) (List.mem_singleton.mpr rfl) dL_law_327 (by omega) (by omega) ?_
  refine aw_aload_n dL_law_328 rfl ?_
  refine aw_iload_n dL_law_329 rfl ?_
  refine aw_iconst (v := nI 2) dL_law_330 (by decide) ?_
  refine aw_iaddN dL_law_331 ?_
  refine aw_pc (pc2 := 332) rfl ?_
  refine aw_sld (i := i + 2) (List.mem_singleton.mpr rfl) dL_law_332 (by omega) (by omega) ?_
  refine aw_aload_n dL_law_333 rfl ?_
  refine aw_iload_n dL_law_334 rfl ?_
  refine aw_iconst (v := nI 3) dL_law_335 (by decide) ?_
  refine aw_iaddN dL_law_336 ?_
  refine aw_pc (pc2 := 337) rfl ?_
  refine aw_sld (i := i + 3) (List.mem_singleton.mpr rfl) dL_law_337 (by omega) (by omega) ?_
  refine aw_cvI (As := [_, _, _]) (d' := 999) dL_law_338 lkL_32 R.1.1.o (by omega) rfl rfl (Nat.le_of_ble_eq_true rfl) ⟨by omega, by omega⟩ (st_line R (by omega) (fun z I1 J1 pr => ?_))
  refine aw_pc (pc2 := 341) rfl ?_
  refine aw_aload_n dL_law_341 rfl ?_
  refine aw_aload_n dL_law_342 rfl ?_
  refine aw_iload_n dL_law_343 rfl ?_
  refine aw_pc (pc2 := 344) rfl ?_
  refine aw_iconst (v := nI 1) dL_law_344 (by decide) ?_
  refine aw_iaddN dL_law_345 ?_
  refine aw_sld (i := i + 1) (List.mem_singleton.mpr rfl) dL_law_346 (by omega) (by omega) ?_
  refine aw_aload_n dL_law_347 rfl ?_
  refine aw_iload_n dL_law_348 rfl ?_
  refine aw_pc (pc2 := 349) rfl ?_
  refine aw_iconst (v := nI 2) dL_law_349 (by decide) ?_
  refine aw_iaddN dL_law_350 ?_
  refine aw_sld (i := i + 2) (List.mem_singleton.mpr rfl) dL_law_351 (by omega) (by omega) ?_
  refine aw_aload_n dL_law_352 rfl ?_
  refine aw_iload_n dL_law_353 rfl ?_
  refine aw_pc (pc2 := 354) rfl ?_
  refine aw_iconst (v := nI 3) dL_law_354 (by decide) ?_
  refine aw_iaddN dL_law_355 ?_
  refine aw_sld (i := i + 3) (List.mem_singleton.mpr rfl) dL_law_356 (by omega) (by omega) ?_
  refine aw_cvI (As := [_, _, _]) (d' := 999) dL_law_357 lkL_35 R.1.2.1.o (by omega) rfl rfl (Nat.le_of_ble_eq_true rfl) ⟨by omega, by omega⟩ (pr _ (fun Ω2 I2 J2 R2 _ => ?_))
  refine aw_pc (pc2 := 360) rfl ?_
  exact aw_icmp_eq (t := 1374) dL_law_360 (by decide) (fun _ => K _ _ _ _ _ R2 (by omega) (by omega)) (fun e => absurd rfl e)
theorem lo_5 {G : aw_G} {b L i k n : Nat} {xs : Nat → Int32} {Ω : aw_O} {I : aw_MI} {J : aw_MJ} (R : Rel Ω I J) (hi : i + 6 ≤ L) (hL : L ≤ 3072) (hk : k + 1 ≤ 600000) (hn : n + 3 ≤ 7302249) (K : ∀ Ω' I' J' k' n', Rel Ω' I' J' → k' ≤ k + 1 → n' ≤ n + 3 → AW G (mL b L xs) 0 1000 600000 7302249 (aw_QI lQ) Ω' I' J' k' n' [.ref b, .ref (aw_ad G 0), .ref (aw_ad G 65), .int (nI i)] 1374 []) : AW G (mL b L xs) 0 1000 600000 7302249 (aw_QI lQ) Ω I J k n [.ref b, .ref (aw_ad G 0), .ref (aw_ad G 65), .int (nI i)] 365 [] := by
  refine aw_aload_n dL_law_365 rfl ?_
  refine aw_aload_n dL_law_366 rfl ?_
  refine aw_iload_n dL_law_367 rfl ?_
  refine aw_iconst (v := nI 1) dL_law_368 (by decide) ?_
  refine aw_iaddN dL_law_369 ?_
  refine aw_pc (pc2 := 370) rfl ?_
  refine aw_sld (i := i + 1) (List.mem_singleton.mpr rfl) dL_law_370 (by omega) (by omega) ?_
  refine aw_aload_n dL_law_371 rfl ?_
  refine aw_iload_n dL_law_372 rfl ?_
  refine aw_iconst (v := nI 2) dL_law_373 (by decide) ?_
  refine aw_iaddN dL_law_374 ?_
  refine aw_pc (pc2 := 375) rfl ?_
  refine aw_sld (i := i + 2) (List.mem_singleton.mpr rfl) dL_law_375 (by omega) (by omega) ?_
  refine aw_aload_n dL_law_376 rfl ?_
  refine aw_iload_n dL_law_377 rfl ?_
  refine aw_iconst (v := nI 3) dL_law_378 (by decide) ?_
  refine aw_iaddN dL_law_379 ?_
  refine aw_pc (pc2 := 380) rfl ?_
  refine aw_sld (i := i + 3) (List.mem_singleton.mpr rfl) dL_law_380 (by omega) (by omega) ?_
  refine aw_cvI (As := [_, _, _]) (d' := 999) dL_law_381 lkL_36 R.1.1.o (by omega) rfl rfl (Nat.le_of_ble_eq_true rfl) ⟨by omega, by omega⟩ (st_slope R (by omega) (fun z I1 J1 pr => ?_))
  refine aw_pc (pc2 := 384) rfl ?_
  refine aw_aload_n dL_law_384 rfl ?_
  refine aw_aload_n dL_law_385 rfl ?_
  refine aw_iload_n dL_law_386 rfl ?_
  refine aw_pc (pc2 := 387) rfl ?_
  refine aw_iconst (v := nI 1) dL_law_387 (by decide) ?_
  refine aw_iaddN dL_law_388 ?_
  refine aw_sld (i := i + 1) (List.mem_singleton.mpr rfl) dL_law_389 (by omega) (by omega) ?_
  refine aw_aload_n dL_law_390 rfl ?_
  refine aw_iload_n dL_law_391 rfl ?_
  refine aw_pc (pc2 := 392) rfl ?_
  refine aw_iconst (v := nI 2) dL_law_392 (by decide) ?_
  refine aw_iaddN dL_law_393 ?_
  refine aw_sld (i := i + 2) (List.mem_singleton.mpr rfl) dL_law_394 (by omega) (by omega) ?_
  refine aw_aload_n dL_law_395 rfl ?_
  refine aw_iload_n dL_law_396 rfl ?_
  refine aw_pc (pc2 := 397) rfl ?_
  refine aw_iconst (v := nI 3) dL_law_397 (by decide) ?_
  refine aw_iaddN dL_law_398 ?_
  refine aw_sld (i := i + 3) (List.mem_singleton.mpr rfl) dL_law_399 (by omega) (by omega) ?_
  refine aw_cvI (As := [_, _, _]) (d' := 999) dL_law_400 lkL_39 R.1.2.1.o (by omega) rfl rfl (Nat.le_of_ble_eq_true rfl) ⟨by omega, by omega⟩ (pr _ (fun Ω2 I2 J2 R2 _ => ?_))
  refine aw_pc (pc2 := 403) rfl ?_
  exact aw_icmp_eq (t := 1374) dL_law_403 (by decide) (fun _ => K _ _ _ _ _ R2 (by omega) (by omega)) (fun e => absurd rfl e)
theorem lo_6 {G : aw_G} {b L i k n : Nat} {xs : Nat → Int32} {Ω : aw_O} {I : aw_MI} {J : aw_MJ} (R : Rel Ω I J) (hi : i + 6 ≤ L) (hL : L ≤ 3072) (hk : k + 1 ≤ 600000) (hn : n + 3 ≤ 7302249) (K : ∀ Ω' I' J' k' n', Rel Ω' I' J' → k' ≤ k + 1 → n' ≤ n + 3 → AW G (mL b L xs) 0 1000 600000 7302249 (aw_QI lQ) Ω' I' J' k' n' [.ref b, .ref (aw_ad G 0), .ref (aw_ad G 65), .int (nI i)] 1374 []) : AW G (mL b L xs) 0 1000 600000 7302249 (aw_QI lQ) Ω I J k n [.ref b, .ref (aw_ad G 0), .ref (aw_ad G 65), .int (nI i)] 408 [] := by
  refine aw_aload_n dL_law_408 rfl ?_
  refine aw_aload_n dL_law_409 rfl ?_
  refine aw_iload_n dL_law_410 rfl ?_
  refine aw_iconst (v := nI 1) dL_law_411 (by decide) ?_
  refine aw_iaddN dL_law_412 ?_
  refine aw_pc (pc2 := 413) rfl ?_
  refine aw_sld (i := i + 1) (List.mem_singleton.mpr rfl) dL_law_413 (by omega) (by omega) ?_
  refine aw_aload_n dL_law_414 rfl ?_
  refine aw_iload_n dL_law_415 rfl ?_
  refine aw_iconst (v := nI 2) dL_law_416 (by decide) ?_
  refine aw_iaddN dL_law_417 ?_
  refine aw_pc (pc2 := 418) rfl ?_
  refine aw_sld (i := i + 2) (List.mem_singleton.mpr rfl) dL_law_418 (by omega) (by omega) ?_
  refine aw_aload_n dL_law_419 rfl ?_
  refine aw_iload_n dL_law_420 rfl ?_
  refine aw_iconst (v := nI 3) dL_law_421 (by decide) ?_
  refine aw_iaddN dL_law_422 ?_
  refine aw_pc (pc2 := 423) rfl ?_
  refine aw_sld (i := i + 3) (List.mem_singleton.mpr rfl) dL_law_423 (by omega) (by omega) ?_
  refine aw_cvI (As := [_, _, _]) (d' := 999) dL_law_424 lkL_40 R.1.1.o (by omega) rfl rfl (Nat.le_of_ble_eq_true rfl) ⟨by omega, by omega⟩ (st_change R (by omega) (fun z I1 J1 pr => ?_))
  refine aw_pc (pc2 := 427) rfl ?_
  refine aw_aload_n dL_law_427 rfl ?_
  refine aw_aload_n dL_law_428 rfl ?_
  refine aw_iload_n dL_law_429 rfl ?_
  refine aw_pc (pc2 := 430) rfl ?_
  refine aw_iconst (v := nI 1) dL_law_430 (by decide) ?_
  refine aw_iaddN dL_law_431 ?_
  refine aw_sld (i := i + 1) (List.mem_singleton.mpr rfl) dL_law_432 (by omega) (by omega) ?_
  refine aw_aload_n dL_law_433 rfl ?_
  refine aw_iload_n dL_law_434 rfl ?_
  refine aw_pc (pc2 := 435) rfl ?_
  refine aw_iconst (v := nI 2) dL_law_435 (by decide) ?_
  refine aw_iaddN dL_law_436 ?_
  refine aw_sld (i := i + 2) (List.mem_singleton.mpr rfl) dL_law_437 (by omega) (by omega) ?_
  refine aw_aload_n dL_law_438 rfl ?_
  refine aw_iload_n dL_law_439 rfl ?_
  refine aw_pc (pc2 := 440) rfl ?_
  refine aw_iconst (v := nI 3) dL_law_440 (by decide) ?_
  refine aw_iaddN dL_law_441 ?_
  refine aw_sld (i := i + 3) (List.mem_singleton.mpr rfl) dL_law_442 (by omega) (by omega) ?_
  refine aw_cvI (As := [_, _, _]) (d' := 999) dL_law_443 lkL_43 R.1.2.1.o (by omega) rfl rfl (Nat.le_of_ble_eq_true rfl) ⟨by omega, by omega⟩ (pr _ (fun Ω2 I2 J2 R2 _ => ?_))
  refine aw_pc (pc2 := 446) rfl ?_
  exact aw_icmp_eq (t := 1374) dL_law_446 (by decide) (fun _ => K _ _ _ _ _ R2 (by omega) (by omega)) (fun e => absurd rfl e)
theorem lo_7 {G : aw_G} {b L i k n : Nat} {xs : Nat → Int32} {Ω : aw_O} {I : aw_MI} {J : aw_MJ} (R : Rel Ω I J) (hi : i + 6 ≤ L) (hL : L ≤ 3072) (hk : k + 1 ≤ 600000) (hn : n + 3 ≤ 7302249) (K : ∀ Ω' I' J' k' n', Rel Ω' I' J' → k' ≤ k + 1 → n' ≤ n + 3 → AW G (mL b L xs) 0 1000 600000 7302249 (aw_QI lQ) Ω' I' J' k' n' [.ref b, .ref (aw_ad G 0), .ref (aw_ad G 65), .int (nI i)] 1374 []) : AW G (mL b L xs) 0 1000 600000 7302249 (aw_QI lQ) Ω I J k n [.ref b, .ref (aw_ad G 0), .ref (aw_ad G 65), .int (nI i)] 451 [] := by
  refine aw_aload_n dL_law_451 rfl ?_
  refine aw_aload_n dL_law_452 rfl ?_
  refine aw_iload_n dL_law_453 rfl ?_
  refine aw_iconst (v := nI 1) dL_law_454 (by decide) ?_
  refine aw_iaddN dL_law_455 ?_
  refine aw_pc (pc2 := 456) rfl ?_
  refine aw_sld (i := i + 1) (List.mem_singleton.mpr rfl) dL_law_456 (by omega) (by omega) ?_
  refine aw_cvI (As := [_]) (d' := 999) dL_law_457 lkL_44 R.1.1.o (by omega) rfl rfl (Nat.le_of_ble_eq_true rfl) ⟨by omega, by omega⟩ (st_drop R (by omega) (fun z I1 J1 pr => ?_))
  refine aw_pc (pc2 := 460) rfl ?_
  refine aw_aload_n dL_law_460 rfl ?_
  refine aw_aload_n dL_law_461 rfl ?_
  refine aw_iload_n dL_law_462 rfl ?_
  refine aw_pc (pc2 := 463) rfl ?_
  refine aw_iconst (v := nI 1) dL_law_463 (by decide) ?_
  refine aw_iaddN dL_law_464 ?_
  refine aw_sld (i := i + 1) (List.mem_singleton.mpr rfl) dL_law_465 (by omega) (by omega) ?_
  refine aw_cvI (As := [_]) (d' := 999) dL_law_466 lkL_47 R.1.2.1.o (by omega) rfl rfl (Nat.le_of_ble_eq_true rfl) ⟨by omega, by omega⟩ (pr _ (fun Ω2 I2 J2 R2 _ => ?_))
  refine aw_pc (pc2 := 469) rfl ?_
  exact aw_icmp_eq (t := 1374) dL_law_469 (by decide) (fun _ => K _ _ _ _ _ R2 (by omega) (by omega)) (fun e => absurd rfl e)
theorem lo_8 {G : aw_G} {b L i k n : Nat} {xs : Nat → Int32} {Ω : aw_O} {I : aw_MI} {J : aw_MJ} (R : Rel Ω I J) (hi : i + 6 ≤ L) (hL : L ≤ 3072) (hk : k + 1 ≤ 600000) (hn : n + 3 ≤ 7302249) (K : ∀ Ω' I' J' k' n', Rel Ω' I' J' → k' ≤ k + 1 → n' ≤ n + 3 → AW G (mL b L xs) 0 1000 600000 7302249 (aw_QI lQ) Ω' I' J' k' n' [.ref b, .ref (aw_ad G 0), .ref (aw_ad G 65), .int (nI i)] 1374 []) : AW G (mL b L xs) 0 1000 600000 7302249 (aw_QI lQ) Ω I J k n [.ref b, .ref (aw_ad G 0), .ref (aw_ad G 65), .int (nI i)] 474 [] := by
  refine aw_aload_n dL_law_474 rfl ?_
  refine aw_aload_n dL_law_475 rfl ?_
  refine aw_iload_n dL_law_476 rfl ?_
  refine aw_iconst (v := nI 1) dL_law_477 (by decide) ?_
  refine aw_iaddN dL_law_478 ?_
  refine aw_pc (pc2 := 479) rfl ?_
  refine aw_sld (i := i + 1) (List.mem_singleton.mpr rfl) dL_law_479 (by omega) (by omega) ?_
  refine aw_aload_n dL_law_480 rfl ?_
  refine aw_iload_n dL_law_481 rfl ?_
  refine aw_iconst (v := nI 2) dL_law_482 (by decide) ?_
  refine aw_iaddN dL_law_483 ?_
  refine aw_pc (pc2 := 484) rfl ?_
  refine aw_sld (i := i + 2) (List.mem_singleton.mpr rfl) dL_law_484 (by omega) (by omega) ?_
  refine aw_cvI (As := [_, _]) (d' := 999) dL_law_485 lkL_48 R.1.1.o (by omega) rfl rfl (Nat.le_of_ble_eq_true rfl) ⟨by omega, by omega⟩ (st_lineOf R (by omega) (fun z I1 J1 pr => ?_))
  refine aw_pc (pc2 := 488) rfl ?_
  refine aw_aload_n dL_law_488 rfl ?_
  refine aw_aload_n dL_law_489 rfl ?_
  refine aw_iload_n dL_law_490 rfl ?_
  refine aw_pc (pc2 := 491) rfl ?_
  refine aw_iconst (v := nI 1) dL_law_491 (by decide) ?_
  refine aw_iaddN dL_law_492 ?_
  refine aw_sld (i := i + 1) (List.mem_singleton.mpr rfl) dL_law_493 (by omega) (by omega) ?_
  refine aw_aload_n dL_law_494 rfl ?_
  refine aw_iload_n dL_law_495 rfl ?_
  refine aw_pc (pc2 := 496) rfl ?_
  refine aw_iconst (v := nI 2) dL_law_496 (by decide) ?_
  refine aw_iaddN dL_law_497 ?_
  refine aw_sld (i := i + 2) (List.mem_singleton.mpr rfl) dL_law_498 (by omega) (by omega) ?_
  refine aw_cvI (As := [_, _]) (d' := 999) dL_law_499 lkL_51 R.1.2.1.o (by omega) rfl rfl (Nat.le_of_ble_eq_true rfl) ⟨by omega, by omega⟩ (pr _ (fun Ω2 I2 J2 R2 _ => ?_))
  refine aw_pc (pc2 := 502) rfl ?_
  exact aw_icmp_eq (t := 1374) dL_law_502 (by decide) (fun _ => K _ _ _ _ _ R2 (by omega) (by omega)) (fun e => absurd rfl e)
theorem lo_9 {G : aw_G} {b L i k n : Nat} {xs : Nat → Int32} {Ω : aw_O} {I : aw_MI} {J : aw_MJ} (R : Rel Ω I J) (hi : i + 6 ≤ L) (hL : L ≤ 3072) (hk : k + 1 ≤ 600000) (hn : n + 3 ≤ 7302249) (K : ∀ Ω' I' J' k' n', Rel Ω' I' J' → k' ≤ k + 1 → n' ≤ n + 3 → AW G (mL b L xs) 0 1000 600000 7302249 (aw_QI lQ) Ω' I' J' k' n' [.ref b, .ref (aw_ad G 0), .ref (aw_ad G 65), .int (nI i)] 1374 []) : AW G (mL b L xs) 0 1000 600000 7302249 (aw_QI lQ) Ω I J k n [.ref b, .ref (aw_ad G 0), .ref (aw_ad G 65), .int (nI i)] 507 [] := by
  refine aw_aload_n dL_law_507 rfl ?_
  refine aw_aload_n dL_law_508 rfl ?_
  refine aw_iload_n dL_law_509 rfl ?_
  refine aw_iconst (v := nI 1) dL_law_510 (by decide) ?_
  refine aw_iaddN dL_law_511 ?_
  refine aw_pc (pc2 := 512) rfl ?_
  refine aw_sld (i := i + 1) (List.mem_singleton.mpr rfl) dL_law_512 (by omega) (by omega) ?_
  refine aw_cvI (As := [_]) (d' := 999) dL_law_513 lkL_52 R.1.1.o (by omega) rfl rfl (Nat.le_of_ble_eq_true rfl) ⟨by omega, by omega⟩ (st_minor R (by omega) (fun z I1 J1 pr => ?_))
  refine aw_pc (pc2 := 516) rfl ?_
  refine aw_aload_n dL_law_516 rfl ?_
  refine aw_aload_n dL_law_517 rfl ?_
  refine aw_iload_n dL_law_518 rfl ?_
  refine aw_pc (pc2 := 519) rfl ?_
  refine aw_iconst (v := nI 1) dL_law_519 (by decide) ?_
  refine aw_iaddN dL_law_520 ?_
  refine aw_sld (i := i + 1) (List.mem_singleton.mpr rfl) dL_law_521 (by omega) (by omega) ?_
  refine aw_cvI (As := [_]) (d' := 999) dL_law_522 lkL_55 R.1.2.1.o (by omega) rfl rfl (Nat.le_of_ble_eq_true rfl) ⟨by omega, by omega⟩ (pr _ (fun Ω2 I2 J2 R2 _ => ?_))
  refine aw_pc (pc2 := 525) rfl ?_
  exact aw_icmp_eq (t := 1374) dL_law_525 (by decide) (fun _ => K _ _ _ _ _ R2 (by omega) (by omega)) (fun e => absurd rfl e)
theorem lo_10 {G : aw_G} {b L i k n : Nat} {xs : Nat → Int32} {Ω : aw_O} {I : aw_MI} {J : aw_MJ} (R : Rel Ω I J) (hi : i + 6 ≤ L) (hL : L ≤ 3072) (hk : k + 1 ≤ 600000) (hn : n + 3 ≤ 7302249) (K : ∀ Ω' I' J' k' n', Rel Ω' I' J' → k' ≤ k + 1 → n' ≤ n + 3 → AW G (mL b L xs) 0 1000 600000 7302249 (aw_QI lQ) Ω' I' J' k' n' [.ref b, .ref (aw_ad G 0), .ref (aw_ad G 65), .int (nI i)] 1374 []) : AW G (mL b L xs) 0 1000 600000 7302249 (aw_QI lQ) Ω I J k n [.ref b, .ref (aw_ad G 0), .ref (aw_ad G 65), .int (nI i)] 530 [] := by
  refine aw_aload_n dL_law_530 rfl ?_
  refine aw_cvI (As := []) (d' := 999) dL_law_531 lkL_56 R.1.1.o (by omega) rfl rfl (Nat.le_of_ble_eq_true rfl) ⟨by omega, by omega⟩ (st_isProper R (by omega) (fun z I1 J1 pr => ?_))
  refine aw_pc (pc2 := 534) rfl ?_
  refine aw_aload_n dL_law_534 rfl ?_
  refine aw_cvI (As := []) (d' := 999) dL_law_535 lkL_60 R.1.2.1.o (by omega) rfl rfl (Nat.le_of_ble_eq_true rfl) ⟨by omega, by omega⟩ (pr _ (fun Ω2 I2 J2 R2 _ => ?_))
  refine aw_pc (pc2 := 538) rfl ?_
  exact aw_icmp_eq (t := 1374) dL_law_538 (by decide) (fun _ => K _ _ _ _ _ R2 (by omega) (by omega)) (fun e => absurd rfl e)
theorem lo_11 {G : aw_G} {b L i k n : Nat} {xs : Nat → Int32} {Ω : aw_O} {I : aw_MI} {J : aw_MJ} (R : Rel Ω I J) (hi : i + 6 ≤ L) (hL : L ≤ 3072) (hk : k + 1 ≤ 600000) (hn : n + 3 ≤ 7302249) (K : ∀ Ω' I' J' k' n', Rel Ω' I' J' → k' ≤ k + 1 → n' ≤ n + 3 → AW G (mL b L xs) 0 1000 600000 7302249 (aw_QI lQ) Ω' I' J' k' n' [.ref b, .ref (aw_ad G 0), .ref (aw_ad G 65), .int (nI i)] 1374 []) : AW G (mL b L xs) 0 1000 600000 7302249 (aw_QI lQ) Ω I J k n [.ref b, .ref (aw_ad G 0), .ref (aw_ad G 65), .int (nI i)] 543 [] := by
  refine aw_aload_n dL_law_543 rfl ?_
  refine aw_aload_n dL_law_544 rfl ?_
  refine aw_iload_n dL_law_545 rfl ?_
  refine aw_iconst (v := nI 1) dL_law_546 (by decide) ?_
  refine aw_iaddN dL_law_547 ?_
  refine aw_pc (pc2 := 548) rfl ?_
  refine aw_sld (i := i + 1) (List.mem_singleton.mpr rfl) dL_law_548 (by omega) (by omega) ?_
  refine aw_cvI (As := [_]) (d' := 999) dL_law_549 lkL_61 R.1.1.o (by omega) rfl rfl (Nat.le_of_ble_eq_true rfl) ⟨by omega, by omega⟩ (st_working R (by omega) (fun z I1 J1 pr => ?_))
  refine aw_pc (pc2 := 552) rfl ?_
  refine aw_aload_n dL_law_552 rfl ?_
  refine aw_aload_n dL_law_553 rfl ?_
  refine aw_iload_n dL_law_554 rfl ?_
  refine aw_pc (pc2 := 555) rfl ?_
  refine aw_iconst (v := nI 1) dL_law_555 (by decide) ?_
  refine aw_iaddN dL_law_556 ?_
  refine aw_sld (i := i + 1) (List.mem_singleton.mpr rfl) dL_law_557 (by omega) (by omega) ?_
  refine aw_cvI (As := [_]) (d' := 999) dL_law_558 lkL_64 R.1.2.1.o (by omega) rfl rfl (Nat.le_of_ble_eq_true rfl) ⟨by omega, by omega⟩ (pr _ (fun Ω2 I2 J2 R2 _ => ?_))
  refine aw_pc (pc2 := 561) rfl ?_
  exact aw_icmp_eq (t := 1374) dL_law_561 (by decide) (fun _ => K _ _ _ _ _ R2 (by omega) (by omega)) (fun e => absurd rfl e)
theorem lo_12 {G : aw_G} {b L i k n : Nat} {xs : Nat → Int32} {Ω : aw_O} {I : aw_MI} {J : aw_MJ} (R : Rel Ω I J) (hi : i + 6 ≤ L) (hL : L ≤ 3072) (hk : k + 1 ≤ 600000) (hn : n + 3 ≤ 7302249) (K : ∀ Ω' I' J' k' n', Rel Ω' I' J' → k' ≤ k + 1 → n' ≤ n + 3 → AW G (mL b L xs) 0 1000 600000 7302249 (aw_QI lQ) Ω' I' J' k' n' [.ref b, .ref (aw_ad G 0), .ref (aw_ad G 65), .int (nI i)] 1374 []) : AW G (mL b L xs) 0 1000 600000 7302249 (aw_QI lQ) Ω I J k n [.ref b, .ref (aw_ad G 0), .ref (aw_ad G 65), .int (nI i)] 566 [] := by
  refine aw_aload_n dL_law_566 rfl ?_
  refine aw_aload_n dL_law_567 rfl ?_
  refine aw_iload_n dL_law_568 rfl ?_
  refine aw_iconst (v := nI 1) dL_law_569 (by decide) ?_
  refine aw_iaddN dL_law_570 ?_
  refine aw_pc (pc2 := 571) rfl ?_
  refine aw_sld (i := i + 1) (List.mem_singleton.mpr rfl) dL_law_571 (by omega) (by omega) ?_
  refine aw_aload_n dL_law_572 rfl ?_
  refine aw_iload_n dL_law_573 rfl ?_
  refine aw_iconst (v := nI 2) dL_law_574 (by decide) ?_
  refine aw_iaddN dL_law_575 ?_
  refine aw_pc (pc2 := 576) rfl ?_
  refine aw_sld (i := i + 2) (List.mem_singleton.mpr rfl) dL_law_576 (by omega) (by omega) ?_
  refine aw_aload_n dL_law_577 rfl ?_
  refine aw_iload_n dL_law_578 rfl ?_
  refine aw_iconst (v := nI 3) dL_law_579 (by decide) ?_
  refine aw_iaddN dL_law_580 ?_
  refine aw_pc (pc2 := 581) rfl ?_
  refine aw_sld (i := i + 3) (List.mem_singleton.mpr rfl) dL_law_581 (by omega) (by omega) ?_
  refine aw_cvL (As := [_, _, _]) (d' := 999) dL_law_582 lkL_65 R.1.1.o (by omega) rfl rfl (Nat.le_of_ble_eq_true rfl) ⟨by omega, by omega⟩ (st_answer R (by omega) (fun z I1 J1 pr => ?_))
  refine aw_pc (pc2 := 585) rfl ?_
  refine aw_aload_n dL_law_585 rfl ?_
  refine aw_aload_n dL_law_586 rfl ?_
  refine aw_iload_n dL_law_587 rfl ?_
  refine aw_pc (pc2 := 588) rfl ?_
  refine aw_iconst (v := nI 1) dL_law_588 (by decide) ?_
  refine aw_iaddN dL_law_589 ?_
  refine aw_sld (i := i + 1) (List.mem_singleton.mpr rfl) dL_law_590 (by omega) (by omega) ?_
  refine aw_aload_n dL_law_591 rfl ?_
  refine aw_iload_n dL_law_592 rfl ?_
  refine aw_pc (pc2 := 593) rfl ?_
  refine aw_iconst (v := nI 2) dL_law_593 (by decide) ?_
  refine aw_iaddN dL_law_594 ?_
  refine aw_sld (i := i + 2) (List.mem_singleton.mpr rfl) dL_law_595 (by omega) (by omega) ?_
  refine aw_aload_n dL_law_596 rfl ?_
  refine aw_iload_n dL_law_597 rfl ?_
  refine aw_pc (pc2 := 598) rfl ?_
  refine aw_iconst (v := nI 3) dL_law_598 (by decide) ?_
  refine aw_iaddN dL_law_599 ?_
  refine aw_sld (i := i + 3) (List.mem_singleton.mpr rfl) dL_law_600 (by omega) (by omega) ?_
  refine aw_cvL (As := [_, _, _]) (d' := 999) dL_law_601 lkL_69 R.1.2.1.o (by omega) rfl rfl (Nat.le_of_ble_eq_true rfl) ⟨by omega, by omega⟩ (pr _ (fun Ω2 I2 J2 R2 _ => ?_))
  refine aw_pc (pc2 := 604) rfl ?_
  refine aw_lcmp dL_law_604 ?_
  refine aw_pc (pc2 := 605) rfl ?_
  exact aw_if_eq (t := 1374) dL_law_605 (by decide) (fun _ => K _ _ _ _ _ R2 (by omega) (by omega)) (fun e => absurd (lcmpE.mpr rfl) e)
theorem lo_13 {G : aw_G} {b L i k n : Nat} {xs : Nat → Int32} {Ω : aw_O} {I : aw_MI} {J : aw_MJ} (R : Rel Ω I J) (hi : i + 6 ≤ L) (hL : L ≤ 3072) (hk : k + 1 ≤ 600000) (hn : n + 3 ≤ 7302249) (K : ∀ Ω' I' J' k' n', Rel Ω' I' J' → k' ≤ k + 1 → n' ≤ n + 3 → AW G (mL b L xs) 0 1000 600000 7302249 (aw_QI lQ) Ω' I' J' k' n' [.ref b, .ref (aw_ad G 0), .ref (aw_ad G 65), .int (nI i)] 1374 []) : AW G (mL b L xs) 0 1000 600000 7302249 (aw_QI lQ) Ω I J k n [.ref b, .ref (aw_ad G 0), .ref (aw_ad G 65), .int (nI i)] 610 [] := by
  refine aw_aload_n dL_law_610 rfl ?_
  refine aw_aload_n dL_law_611 rfl ?_
  refine aw_iload_n dL_law_612 rfl ?_
  refine aw_iconst (v := nI 1) dL_law_613 (by decide) ?_
  refine aw_iaddN dL_law_614 ?_
  refine aw_pc (pc2 := 615) rfl ?_
  refine aw_sld (i := i + 1) (List.mem_singleton.mpr rfl) dL_law_615 (by omega) (by omega) ?_
  refine aw_aload_n dL_law_616 rfl ?_
  refine aw_iload_n dL_law_617 rfl ?_
  refine aw_iconst (v := nI 2) dL_law_618 (by decide) ?_
  refine aw_iaddN dL_law_619 ?_
  refine aw_pc (pc2 := 620) rfl ?_
  refine aw_sld (i := i + 2) (List.mem_singleton.mpr rfl) dL_law_620 (by omega) (by omega) ?_
  refine aw_cvL (As := [_, _]) (d' := 999) dL_law_621 lkL_70 R.1.1.o (by omega) rfl rfl (Nat.le_of_ble_eq_true rfl) ⟨by omega, by omega⟩ (st_worth R (by omega) (fun z I1 J1 pr => ?_))
  refine aw_pc (pc2 := 624) rfl ?_
  refine aw_aload_n dL_law_624 rfl ?_
  refine aw_aload_n dL_law_625 rfl ?_
  refine aw_iload_n dL_law_626 rfl ?_
  refine aw_pc (pc2 := 627) rfl ?_
  refine aw_iconst (v := nI 1) dL_law_627 (by decide) ?_
  refine aw_iaddN dL_law_628 ?_
  refine aw_sld (i := i + 1) (List.mem_singleton.mpr rfl) dL_law_629 (by omega) (by omega) ?_
  refine aw_aload_n dL_law_630 rfl ?_
  refine aw_iload_n dL_law_631 rfl ?_
  refine aw_pc (pc2 := 632) rfl ?_
  refine aw_iconst (v := nI 2) dL_law_632 (by decide) ?_
  refine aw_iaddN dL_law_633 ?_
  refine aw_sld (i := i + 2) (List.mem_singleton.mpr rfl) dL_law_634 (by omega) (by omega) ?_
  refine aw_cvL (As := [_, _]) (d' := 999) dL_law_635 lkL_74 R.1.2.1.o (by omega) rfl rfl (Nat.le_of_ble_eq_true rfl) ⟨by omega, by omega⟩ (pr _ (fun Ω2 I2 J2 R2 _ => ?_))
  refine aw_pc (pc2 := 638) rfl ?_
  refine aw_lcmp dL_law_638 ?_
  refine aw_pc (pc2 := 639) rfl ?_
  exact aw_if_eq (t := 1374) dL_law_639 (by decide) (fun _ => K _ _ _ _ _ R2 (by omega) (by omega)) (fun e => absurd (lcmpE.mpr rfl) e)
theorem lo_14 {G : aw_G} {b L i k n : Nat} {xs : Nat → Int32} {Ω : aw_O} {I : aw_MI} {J : aw_MJ} (R : Rel Ω I J) (hi : i + 6 ≤ L) (hL : L ≤ 3072) (hk : k + 1 ≤ 600000) (hn : n + 3 ≤ 7302249) (K : ∀ Ω' I' J' k' n', Rel Ω' I' J' → k' ≤ k + 1 → n' ≤ n + 3 → AW G (mL b L xs) 0 1000 600000 7302249 (aw_QI lQ) Ω' I' J' k' n' [.ref b, .ref (aw_ad G 0), .ref (aw_ad G 65), .int (nI i)] 1374 []) : AW G (mL b L xs) 0 1000 600000 7302249 (aw_QI lQ) Ω I J k n [.ref b, .ref (aw_ad G 0), .ref (aw_ad G 65), .int (nI i)] 644 [] := by
  refine aw_aload_n dL_law_644 rfl ?_
  refine aw_aload_n dL_law_645 rfl ?_
  refine aw_iload_n dL_law_646 rfl ?_
  refine aw_iconst (v := nI 1) dL_law_647 (by decide) ?_
  refine aw_iaddN dL_law_648 ?_
  refine aw_pc (pc2 := 649) rfl ?_
  refine aw_sld (i := i + 1) (List.mem_singleton.mpr rfl) dL_law_649 (by omega) (by omega) ?_
  refine aw_aload_n dL_law_650 rfl ?_
  refine aw_iload_n dL_law_651 rfl ?_
  refine aw_iconst (v := nI 2) dL_law_652 (by decide) ?_
  refine aw_iaddN dL_law_653 ?_
  refine aw_pc (pc2 := 654) rfl ?_
  refine aw_sld (i := i + 2) (List.mem_singleton.mpr rfl) dL_law_654 (by omega) (by omega) ?_
  refine aw_aload_n dL_law_655 rfl ?_
  refine aw_iload_n dL_law_656 rfl ?_
  refine aw_iconst (v := nI 3) dL_law_657 (by decide) ?_
  refine aw_iaddN dL_law_658 ?_
  refine aw_pc (pc2 := 659) rfl ?_
  refine aw_sld (i := i + 3) (List.mem_singleton.mpr rfl) dL_law_659 (by omega) (by omega) ?_
  refine aw_cvL (As := [_, _, _]) (d' := 999) dL_law_660 lkL_75 R.1.1.o (by omega) rfl rfl (Nat.le_of_ble_eq_true rfl) ⟨by omega, by omega⟩ (st_weight R (by omega) (fun z I1 J1 pr => ?_))
  refine aw_pc (pc2 := 663) rfl ?_
  refine aw_aload_n dL_law_663 rfl ?_
  refine aw_aload_n dL_law_664 rfl ?_
  refine aw_iload_n dL_law_665 rfl ?_
  refine aw_pc (pc2 := 666) rfl ?_
  refine aw_iconst (v := nI 1) dL_law_666 (by decide) ?_
  refine aw_iaddN dL_law_667 ?_
  refine aw_sld (i := i + 1) (List.mem_singleton.mpr rfl) dL_law_668 (by omega) (by omega) ?_
  refine aw_aload_n dL_law_669 rfl ?_
  refine aw_iload_n dL_law_670 rfl ?_
  refine aw_pc (pc2 := 671) rfl ?_
  refine aw_iconst (v := nI 2) dL_law_671 (by decide) ?_
  refine aw_iaddN dL_law_672 ?_
  refine aw_sld (i := i + 2) (List.mem_singleton.mpr rfl) dL_law_673 (by omega) (by omega) ?_
  refine aw_aload_n dL_law_674 rfl ?_
  refine aw_iload_n dL_law_675 rfl ?_
  refine aw_pc (pc2 := 676) rfl ?_
  refine aw_iconst (v := nI 3) dL_law_676 (by decide) ?_
  refine aw_iaddN dL_law_677 ?_
  refine aw_sld (i := i + 3) (List.mem_singleton.mpr rfl) dL_law_678 (by omega) (by omega) ?_
  refine aw_cvL (As := [_, _, _]) (d' := 999) dL_law_679 lkL_78 R.1.2.1.o (by omega) rfl rfl (Nat.le_of_ble_eq_true rfl) ⟨by omega, by omega⟩ (pr _ (fun Ω2 I2 J2 R2 _ => ?_))
  refine aw_pc (pc2 := 682) rfl ?_
  refine aw_lcmp dL_law_682 ?_
  refine aw_pc (pc2 := 683) rfl ?_
  exact aw_if_eq (t := 1374) dL_law_683 (by decide) (fun _ => K _ _ _ _ _ R2 (by omega) (by omega)) (fun e => absurd (lcmpE.mpr rfl) e)
theorem lo_15 {G : aw_G} {b L i k n : Nat} {xs : Nat → Int32} {Ω : aw_O} {I : aw_MI} {J : aw_MJ} (R : Rel Ω I J) (hi : i + 6 ≤ L) (hL : L ≤ 3072) (hk : k + 1 ≤ 600000) (hn : n + 3 ≤ 7302249) (K : ∀ Ω' I' J' k' n', Rel Ω' I' J' → k' ≤ k + 1 → n' ≤ n + 3 → AW G (mL b L xs) 0 1000 600000 7302249 (aw_QI lQ) Ω' I' J' k' n' [.ref b, .ref (aw_ad G 0), .ref (aw_ad G 65), .int (nI i)] 1374 []) : AW G (mL b L xs) 0 1000 600000 7302249 (aw_QI lQ) Ω I J k n [.ref b, .ref (aw_ad G 0), .ref (aw_ad G 65), .int (nI i)] 688 [] := by
  refine aw_aload_n dL_law_688 rfl ?_
  refine aw_aload_n dL_law_689 rfl ?_
  refine aw_iload_n dL_law_690 rfl ?_
  refine aw_iconst (v := nI 1) dL_law_691 (by decide) ?_
  refine aw_iaddN dL_law_692 ?_
  refine aw_pc (pc2 := 693) rfl ?_
  refine aw_sld (i := i + 1) (List.mem_singleton.mpr rfl) dL_law_693 (by omega) (by omega) ?_
  refine aw_aload_n dL_law_694 rfl ?_
  refine aw_iload_n dL_law_695 rfl ?_
  refine aw_iconst (v := nI 2) dL_law_696 (by decide) ?_
  refine aw_iaddN dL_law_697 ?_
  refine aw_pc (pc2 := 698) rfl ?_
  refine aw_sld (i := i + 2) (List.mem_singleton.mpr rfl) dL_law_698 (by omega) (by omega) ?_
  refine aw_aload_n dL_law_699 rfl ?_
  refine aw_iload_n dL_law_700 rfl ?_
  refine aw_iconst (v := nI 3) dL_law_701 (by decide) ?_
  refine aw_iaddN dL_law_702 ?_
  refine aw_pc (pc2 := 703) rfl ?_
  refine aw_sld (i := i + 3) (List.mem_singleton.mpr rfl) dL_law_703 (by omega) (by omega) ?_
  refine aw_cvL (As := [_, _, _]) (d' := 999) dL_law_704 lkL_79 R.1.1.o (by omega) rfl rfl (Nat.le_of_ble_eq_true rfl) ⟨by omega, by omega⟩ (st_slack R (by omega) (fun z I1 J1 pr => ?_))
  refine aw_pc (pc2 := 707) rfl ?_
  refine aw_aload_n dL_law_707 rfl ?_
  refine aw_aload_n dL_law_708 rfl ?_
  refine aw_iload_n dL_law_709 rfl ?_
  refine aw_pc (pc2 := 710) rfl ?_
  refine aw_iconst (v := nI 1) dL_law_710 (by decide) ?_
  refine aw_iaddN dL_law_711 ?_
  refine aw_sld (i := i + 1) (List.mem_singleton.mpr rfl) dL_law_712 (by omega) (by omega) ?_
  refine aw_aload_n dL_law_713 rfl ?_
  refine aw_iload_n dL_law_714 rfl ?_
  refine aw_pc (pc2 := 715) rfl ?_
  refine aw_iconst (v := nI 2) dL_law_715 (by decide) ?_
  refine aw_iaddN dL_law_716 ?_
  refine aw_sld (i := i + 2) (List.mem_singleton.mpr rfl) dL_law_717 (by omega) (by omega) ?_
  refine aw_aload_n dL_law_718 rfl ?_
  refine aw_iload_n dL_law_719 rfl ?_
  refine aw_pc (pc2 := 720) rfl ?_
  refine aw_iconst (v := nI 3) dL_law_720 (by decide) ?_
  refine aw_iaddN dL_law_721 ?_
  refine aw_sld (i := i + 3) (List.mem_singleton.mpr rfl) dL_law_722 (by omega) (by omega) ?_
  refine aw_cvL (As := [_, _, _]) (d' := 999) dL_law_723 lkL_82 R.1.2.1.o (by omega) rfl rfl (Nat.le_of_ble_eq_true rfl) ⟨by omega, by omega⟩ (pr _ (fun Ω2 I2 J2 R2 _ => ?_))
  refine aw_pc (pc2 := 726) rfl ?_
  refine aw_lcmp dL_law_726 ?_
  refine aw_pc (pc2 := 727) rfl ?_
  exact aw_if_eq (t := 1374) dL_law_727 (by decide) (fun _ => K _ _ _ _ _ R2 (by omega) (by omega)) (fun e => absurd (lcmpE.mpr rfl) e)
theorem lo_16 {G : aw_G} {b L i k n : Nat} {xs : Nat → Int32} {Ω : aw_O} {I : aw_MI} {J : aw_MJ} (R : Rel Ω I J) (hi : i + 6 ≤ L) (hL : L ≤ 3072) (hk : k + 1 ≤ 600000) (hn : n + 3 ≤ 7302249) (K : ∀ Ω' I' J' k' n', Rel Ω' I' J' → k' ≤ k + 1 → n' ≤ n + 3 → AW G (mL b L xs) 0 1000 600000 7302249 (aw_QI lQ) Ω' I' J' k' n' [.ref b, .ref (aw_ad G 0), .ref (aw_ad G 65), .int (nI i)] 1374 []) : AW G (mL b L xs) 0 1000 600000 7302249 (aw_QI lQ) Ω I J k n [.ref b, .ref (aw_ad G 0), .ref (aw_ad G 65), .int (nI i)] 732 [] := by
  refine aw_aload_n dL_law_732 rfl ?_
  refine aw_aload_n dL_law_733 rfl ?_
  refine aw_iload_n dL_law_734 rfl ?_
  refine aw_iconst (v := nI 1) dL_law_735 (by decide) ?_
  refine aw_iaddN dL_law_736 ?_
  refine aw_pc (pc2 := 737) rfl ?_
  refine aw_sld (i := i + 1) (List.mem_singleton.mpr rfl) dL_law_737 (by omega) (by omega) ?_
  refine aw_cvI (As := [_]) (d' := 999) dL_law_738 lkL_83 R.1.1.o (by omega) rfl rfl (Nat.le_of_ble_eq_true rfl) ⟨by omega, by omega⟩ (st_held R (by omega) (fun z I1 J1 pr => ?_))
  refine aw_pc (pc2 := 741) rfl ?_
  refine aw_aload_n dL_law_741 rfl ?_
  refine aw_aload_n dL_law_742 rfl ?_
  refine aw_iload_n dL_law_743 rfl ?_
  refine aw_pc (pc2 := 744) rfl ?_
  refine aw_iconst (v := nI 1) dL_law_744 (by decide) ?_
  refine aw_iaddN dL_law_745 ?_
  refine aw_sld (i := i + 1) (List.mem_singleton.mpr rfl) dL_law_746 (by omega) (by omega) ?_
  refine aw_cvI (As := [_]) (d' := 999) dL_law_747 lkL_86 R.1.2.1.o (by omega) rfl rfl (Nat.le_of_ble_eq_true rfl) ⟨by omega, by omega⟩ (pr _ (fun Ω2 I2 J2 R2 _ => ?_))
  refine aw_pc (pc2 := 750) rfl ?_
  exact aw_icmp_eq (t := 1374) dL_law_750 (by decide) (fun _ => K _ _ _ _ _ R2 (by omega) (by omega)) (fun e => absurd rfl e)
theorem lo_17 {G : aw_G} {b L i k n : Nat} {xs : Nat → Int32} {Ω : aw_O} {I : aw_MI} {J : aw_MJ} (R : Rel Ω I J) (hi : i + 6 ≤ L) (hL : L ≤ 3072) (hk : k + 1 ≤ 600000) (hn : n + 3 ≤ 7302249) (K : ∀ Ω' I' J' k' n', Rel Ω' I' J' → k' ≤ k + 1 → n' ≤ n + 3 → AW G (mL b L xs) 0 1000 600000 7302249 (aw_QI lQ) Ω' I' J' k' n' [.ref b, .ref (aw_ad G 0), .ref (aw_ad G 65), .int (nI i)] 1374 []) : AW G (mL b L xs) 0 1000 600000 7302249 (aw_QI lQ) Ω I J k n [.ref b, .ref (aw_ad G 0), .ref (aw_ad G 65), .int (nI i)] 755 [] := by
  refine aw_aload_n dL_law_755 rfl ?_
  refine aw_aload_n dL_law_756 rfl ?_
  refine aw_iload_n dL_law_757 rfl ?_
  refine aw_iconst (v := nI 1) dL_law_758 (by decide) ?_
  refine aw_iaddN dL_law_759 ?_
  refine aw_pc (pc2 := 760) rfl ?_
  refine aw_sld (i := i + 1) (List.mem_singleton.mpr rfl) dL_law_760 (by omega) (by omega) ?_
  refine aw_cvI (As := [_]) (d' := 999) dL_law_761 lkL_87 R.1.1.o (by omega) rfl rfl (Nat.le_of_ble_eq_true rfl) ⟨by omega, by omega⟩ (st_tight R (by omega) (fun z I1 J1 pr => ?_))
  refine aw_pc (pc2 := 764) rfl ?_
  refine aw_aload_n dL_law_764 rfl ?_
  refine aw_aload_n dL_law_765 rfl ?_
  refine aw_iload_n dL_law_766 rfl ?_
  refine aw_pc (pc2 := 767) rfl ?_
  refine aw_iconst (v := nI 1) dL_law_767 (by decide) ?_
  refine aw_iaddN dL_law_768 ?_
  refine aw_sld (i := i + 1) (List.mem_singleton.mpr rfl) dL_law_769 (by omega) (by omega) ?_
  refine aw_cvI (As := [_]) (d' := 999) dL_law_770 lkL_90 R.1.2.1.o (by omega) rfl rfl (Nat.le_of_ble_eq_true rfl) ⟨by omega, by omega⟩ (pr _ (fun Ω2 I2 J2 R2 _ => ?_))
  refine aw_pc (pc2 := 773) rfl ?_
  exact aw_icmp_eq (t := 1374) dL_law_773 (by decide) (fun _ => K _ _ _ _ _ R2 (by omega) (by omega)) (fun e => absurd rfl e)
theorem lo_18 {G : aw_G} {b L i k n : Nat} {xs : Nat → Int32} {Ω : aw_O} {I : aw_MI} {J : aw_MJ} (R : Rel Ω I J) (hi : i + 6 ≤ L) (hL : L ≤ 3072) (hk : k + 1 ≤ 600000) (hn : n + 3 ≤ 7302249) (K : ∀ Ω' I' J' k' n', Rel Ω' I' J' → k' ≤ k + 1 → n' ≤ n + 3 → AW G (mL b L xs) 0 1000 600000 7302249 (aw_QI lQ) Ω' I' J' k' n' [.ref b, .ref (aw_ad G 0), .ref (aw_ad G 65), .int (nI i)] 1374 []) : AW G (mL b L xs) 0 1000 600000 7302249 (aw_QI lQ) Ω I J k n [.ref b, .ref (aw_ad G 0), .ref (aw_ad G 65), .int (nI i)] 778 [] := by
  refine aw_aload_n dL_law_778 rfl ?_
  refine aw_cvI (As := []) (d' := 999) dL_law_779 lkL_91 R.1.1.o (by omega) rfl rfl (Nat.le_of_ble_eq_true rfl) ⟨by omega, by omega⟩ (st_steps R (by omega) (fun z I1 J1 pr => ?_))
  refine aw_pc (pc2 := 782) rfl ?_
  refine aw_aload_n dL_law_782 rfl ?_
  refine aw_cvI (As := []) (d' := 999) dL_law_783 lkL_94 R.1.2.1.o (by omega) rfl rfl (Nat.le_of_ble_eq_true rfl) ⟨by omega, by omega⟩ (pr _ (fun Ω2 I2 J2 R2 _ => ?_))
  refine aw_pc (pc2 := 786) rfl ?_
  exact aw_icmp_eq (t := 1374) dL_law_786 (by decide) (fun _ => K _ _ _ _ _ R2 (by omega) (by omega)) (fun e => absurd rfl e)
theorem lo_19 {G : aw_G} {b L i k n : Nat} {xs : Nat → Int32} {Ω : aw_O} {I : aw_MI} {J : aw_MJ} (R : Rel Ω I J) (hi : i + 6 ≤ L) (hL : L ≤ 3072) (hk : k + 1 ≤ 600000) (hn : n + 3 ≤ 7302249) (K : ∀ Ω' I' J' k' n', Rel Ω' I' J' → k' ≤ k + 1 → n' ≤ n + 3 → AW G (mL b L xs) 0 1000 600000 7302249 (aw_QI lQ) Ω' I' J' k' n' [.ref b, .ref (aw_ad G 0), .ref (aw_ad G 65), .int (nI i)] 1374 []) : AW G (mL b L xs) 0 1000 600000 7302249 (aw_QI lQ) Ω I J k n [.ref b, .ref (aw_ad G 0), .ref (aw_ad G 65), .int (nI i)] 791 [] := by
  refine aw_aload_n dL_law_791 rfl ?_
  refine aw_aload_n dL_law_792 rfl ?_
  refine aw_iload_n dL_law_793 rfl ?_
  refine aw_iconst (v := nI 1) dL_law_794 (by decide) ?_
  refine aw_iaddN dL_law_795 ?_
  refine aw_pc (pc2 := 796) rfl ?_
  refine aw_sld (i := i + 1) (List.mem_singleton.mpr rfl) dL_law_796 (by omega) (by omega) ?_
  refine aw_cvI (As := [_]) (d' := 999) dL_law_797 lkL_95 R.1.1.o (by omega) rfl rfl (Nat.le_of_ble_eq_true rfl) ⟨by omega, by omega⟩ (st_walk R (by omega) (fun z I1 J1 pr => ?_))
  refine aw_pc (pc2 := 800) rfl ?_
  refine aw_aload_n dL_law_800 rfl ?_
  refine aw_aload_n dL_law_801 rfl ?_
  refine aw_iload_n dL_law_802 rfl ?_
  refine aw_pc (pc2 := 803) rfl ?_
  refine aw_iconst (v := nI 1) dL_law_803 (by decide) ?_
  refine aw_iaddN dL_law_804 ?_
  refine aw_sld (i := i + 1) (List.mem_singleton.mpr rfl) dL_law_805 (by omega) (by omega) ?_
  refine aw_cvI (As := [_]) (d' := 999) dL_law_806 lkL_98 R.1.2.1.o (by omega) rfl rfl (Nat.le_of_ble_eq_true rfl) ⟨by omega, by omega⟩ (pr _ (fun Ω2 I2 J2 R2 _ => ?_))
  refine aw_pc (pc2 := 809) rfl ?_
  exact aw_icmp_eq (t := 1374) dL_law_809 (by decide) (fun _ => K _ _ _ _ _ R2 (by omega) (by omega)) (fun e => absurd rfl e)
theorem lo_20 {G : aw_G} {b L i k n : Nat} {xs : Nat → Int32} {Ω : aw_O} {I : aw_MI} {J : aw_MJ} (R : Rel Ω I J) (hi : i + 6 ≤ L) (hL : L ≤ 3072) (hk : k + 1 ≤ 600000) (hn : n + 3 ≤ 7302249) (K : ∀ Ω' I' J' k' n', Rel Ω' I' J' → k' ≤ k + 1 → n' ≤ n + 3 → AW G (mL b L xs) 0 1000 600000 7302249 (aw_QI lQ) Ω' I' J' k' n' [.ref b, .ref (aw_ad G 0), .ref (aw_ad G 65), .int (nI i)] 1374 []) : AW G (mL b L xs) 0 1000 600000 7302249 (aw_QI lQ) Ω I J k n [.ref b, .ref (aw_ad G 0), .ref (aw_ad G 65), .int (nI i)] 814 [] := by
  refine aw_aload_n dL_law_814 rfl ?_
  refine aw_aload_n dL_law_815 rfl ?_
  refine aw_iload_n dL_law_816 rfl ?_
  refine aw_iconst (v := nI 1) dL_law_817 (by decide) ?_
  refine aw_iaddN dL_law_818 ?_
  refine aw_pc (pc2 := 819) rfl ?_
  refine aw_sld (i := i + 1) (List.mem_singleton.mpr rfl) dL_law_819 (by omega) (by omega) ?_
  refine aw_cvI (As := [_]) (d' := 999) dL_law_820 lkL_99 R.1.1.o (by omega) rfl rfl (Nat.le_of_ble_eq_true rfl) ⟨by omega, by omega⟩ (st_pieces R (by omega) (fun z I1 J1 pr => ?_))
  refine aw_pc (pc2 := 823) rfl ?_
  refine aw_aload_n dL_law_823 rfl ?_
  refine aw_aload_n dL_law_824 rfl ?_
  refine aw_iload_n dL_law_825 rfl ?_
  refine aw_pc (pc2 := 826) rfl ?_
  refine aw_iconst (v := nI 1) dL_law_826 (by decide) ?_
  refine aw_iaddN dL_law_827 ?_
  refine aw_sld (i := i + 1) (List.mem_singleton.mpr rfl) dL_law_828 (by omega) (by omega) ?_
  refine aw_cvI (As := [_]) (d' := 999) dL_law_829 lkL_102 R.1.2.1.o (by omega) rfl rfl (Nat.le_of_ble_eq_true rfl) ⟨by omega, by omega⟩ (pr _ (fun Ω2 I2 J2 R2 _ => ?_))
  refine aw_pc (pc2 := 832) rfl ?_
  exact aw_icmp_eq (t := 1374) dL_law_832 (by decide) (fun _ => K _ _ _ _ _ R2 (by omega) (by omega)) (fun e => absurd rfl e)
theorem lo_21 {G : aw_G} {b L i k n : Nat} {xs : Nat → Int32} {Ω : aw_O} {I : aw_MI} {J : aw_MJ} (R : Rel Ω I J) (hi : i + 6 ≤ L) (hL : L ≤ 3072) (hk : k + 1 ≤ 600000) (hn : n + 3 ≤ 7302249) (K : ∀ Ω' I' J' k' n', Rel Ω' I' J' → k' ≤ k + 1 → n' ≤ n + 3 → AW G (mL b L xs) 0 1000 600000 7302249 (aw_QI lQ) Ω' I' J' k' n' [.ref b, .ref (aw_ad G 0), .ref (aw_ad G 65), .int (nI i)] 1374 []) : AW G (mL b L xs) 0 1000 600000 7302249 (aw_QI lQ) Ω I J k n [.ref b, .ref (aw_ad G 0), .ref (aw_ad G 65), .int (nI i)] 837 [] := by
  refine aw_aload_n dL_law_837 rfl ?_
  refine aw_aload_n dL_law_838 rfl ?_
  refine aw_iload_n dL_law_839 rfl ?_
  refine aw_iconst (v := nI 1) dL_law_840 (by decide) ?_
  refine aw_iaddN dL_law_841 ?_
  refine aw_pc (pc2 := 842) rfl ?_
  refine aw_sld (i := i + 1) (List.mem_singleton.mpr rfl) dL_law_842 (by omega) (by omega) ?_
  refine aw_cvL (As := [_]) (d' := 999) dL_law_843 lkL_103 R.1.1.o (by omega) rfl rfl (Nat.le_of_ble_eq_true rfl) ⟨by omega, by omega⟩ (st_reach R (by omega) (fun z I1 J1 pr => ?_))
  refine aw_pc (pc2 := 846) rfl ?_
  refine aw_aload_n dL_law_846 rfl ?_
  refine aw_aload_n dL_law_847 rfl ?_
  refine aw_iload_n dL_law_848 rfl ?_
  refine aw_pc (pc2 := 849) rfl ?_
  refine aw_iconst (v := nI 1) dL_law_849 (by decide) ?_
  refine aw_iaddN dL_law_850 ?_
  refine aw_sld (i := i + 1) (List.mem_singleton.mpr rfl) dL_law_851 (by omega) (by omega) ?_
  refine aw_cvL (As := [_]) (d' := 999) dL_law_852 lkL_107 R.1.2.1.o (by omega) rfl rfl (Nat.le_of_ble_eq_true rfl) ⟨by omega, by omega⟩ (pr _ (fun Ω2 I2 J2 R2 _ => ?_))
  refine aw_pc (pc2 := 855) rfl ?_
  refine aw_lcmp dL_law_855 ?_
  refine aw_pc (pc2 := 856) rfl ?_
  exact aw_if_eq (t := 1374) dL_law_856 (by decide) (fun _ => K _ _ _ _ _ R2 (by omega) (by omega)) (fun e => absurd (lcmpE.mpr rfl) e)
theorem lo_22 {G : aw_G} {b L i k n : Nat} {xs : Nat → Int32} {Ω : aw_O} {I : aw_MI} {J : aw_MJ} (R : Rel Ω I J) (hi : i + 6 ≤ L) (hL : L ≤ 3072) (hk : k + 1 ≤ 600000) (hn : n + 3 ≤ 7302249) (K : ∀ Ω' I' J' k' n', Rel Ω' I' J' → k' ≤ k + 1 → n' ≤ n + 3 → AW G (mL b L xs) 0 1000 600000 7302249 (aw_QI lQ) Ω' I' J' k' n' [.ref b, .ref (aw_ad G 0), .ref (aw_ad G 65), .int (nI i)] 1374 []) : AW G (mL b L xs) 0 1000 600000 7302249 (aw_QI lQ) Ω I J k n [.ref b, .ref (aw_ad G 0), .ref (aw_ad G 65), .int (nI i)] 861 [] := by
  refine aw_aload_n dL_law_861 rfl ?_
  refine aw_aload_n dL_law_862 rfl ?_
  refine aw_iload_n dL_law_863 rfl ?_
  refine aw_iconst (v := nI 1) dL_law_864 (by decide) ?_
  refine aw_iaddN dL_law_865 ?_
  refine aw_pc (pc2 := 866) rfl ?_
  refine aw_sld (i := i + 1) (List.mem_singleton.mpr rfl) dL_law_866 (by omega) (by omega) ?_
  refine aw_aload_n dL_law_867 rfl ?_
  refine aw_iload_n dL_law_868 rfl ?_
  refine aw_iconst (v := nI 2) dL_law_869 (by decide) ?_
  refine aw_iaddN dL_law_870 ?_
  refine aw_pc (pc2 := 871) rfl ?_
  refine aw_sld (i := i + 2) (List.mem_singleton.mpr rfl) dL_law_871 (by omega) (by omega) ?_
  refine aw_aload_n dL_law_872 rfl ?_
  refine aw_iload_n dL_law_873 rfl ?_
  refine aw_iconst (v := nI 3) dL_law_874 (by decide) ?_
  refine aw_iaddN dL_law_875 ?_
  refine aw_pc (pc2 := 876) rfl ?_
  refine aw_sld (i := i + 3) (List.mem_singleton.mpr rfl) dL_law_876 (by omega) (by omega) ?_
  refine aw_aload_n dL_law_877 rfl ?_
  refine aw_iload_n dL_law_878 rfl ?_
  refine aw_iconst (v := nI 4) dL_law_879 (by decide) ?_
  refine aw_iaddN dL_law_880 ?_
  refine aw_pc (pc2 := 881) rfl ?_
  refine aw_sld (i := i + 4) (List.mem_singleton.mpr rfl) dL_law_881 (by omega) (by omega) ?_
  refine aw_aload_n dL_law_882 rfl ?_
  refine aw_iload_n dL_law_883 rfl ?_
  refine aw_iconst (v := nI 5) dL_law_884 (by decide) ?_
  refine aw_iaddN dL_law_885 ?_
  refine aw_pc (pc2 := 886) rfl ?_
  refine aw_sld (i := i + 5) (List.mem_singleton.mpr rfl) dL_law_886 (by omega) (by omega) ?_
  refine aw_cvL (As := [_, _, _, _, _]) (d' := 999) dL_law_887 lkL_108 R.1.1.o (by omega) rfl rfl (Nat.le_of_ble_eq_true rfl) ⟨by omega, by omega⟩ (st_nearest R (by omega) (fun z I1 J1 pr => ?_))
  refine aw_pc (pc2 := 890) rfl ?_
  refine aw_aload_n dL_law_890 rfl ?_
  refine aw_aload_n dL_law_891 rfl ?_
  refine aw_iload_n dL_law_892 rfl ?_
  refine aw_pc (pc2 := 893) rfl ?_
  refine aw_iconst (v := nI 1) dL_law_893 (by decide) ?_
  refine aw_iaddN dL_law_894 ?_
  refine aw_sld (i := i + 1) (List.mem_singleton.mpr rfl) dL_law_895 (by omega) (by omega) ?_
  refine aw_aload_n dL_law_896 rfl ?_
  refine aw_iload_n dL_law_897 rfl ?_
  refine aw_pc (pc2 := 898) rfl ?_
  refine aw_iconst (v := nI 2) dL_law_898 (by decide) ?_
  refine aw_iaddN dL_law_899 ?_
  refine aw_sld (i := i + 2) (List.mem_singleton.mpr rfl) dL_law_900 (by omega) (by omega) ?_
  refine aw_aload_n dL_law_901 rfl ?_
  refine aw_iload_n dL_law_902 rfl ?_
  refine aw_pc (pc2 := 903) rfl ?_
  refine aw_iconst (v := nI 3) dL_law_903 (by decide) ?_
  refine aw_iaddN dL_law_904 ?_
  refine aw_sld (i := i + 3) (List.mem_singleton.mpr rfl) dL_law_905 (by omega) (by omega) ?_
  refine aw_aload_n dL_law_906 rfl ?_
  refine aw_iload_n dL_law_907 rfl ?_
  refine aw_pc (pc2 := 908) rfl ?_
  refine aw_iconst (v := nI 4) dL_law_908 (by decide) ?_
  refine aw_iaddN dL_law_909 ?_
  refine aw_sld (i := i + 4) (List.mem_singleton.mpr rfl) dL_law_910 (by omega) (by omega) ?_
  refine aw_aload_n dL_law_911 rfl ?_
  refine aw_iload_n dL_law_912 rfl ?_
  refine aw_pc (pc2 := 913) rfl ?_
  refine aw_iconst (v := nI 5) dL_law_913 (by decide) ?_
  refine aw_iaddN dL_law_914 ?_
  refine aw_sld (i := i + 5) (List.mem_singleton.mpr rfl) dL_law_915 (by omega) (by omega) ?_
  refine aw_cv (As := [_, _, _, _, _]) (d' := 999) (mc' := 1) (ms' := 3) dL_law_916 lkL_112.1 lkL_112.2.1 lkL_112.2.2 R.1.2.1.o (by omega) rfl rfl (Nat.le_of_ble_eq_true rfl) (pr (fun z' Ω2 I2 J2 => z' = z ∧ Rel Ω2 I2 J2) (fun Ω2 I2 J2 R2 _ => ⟨rfl, R2⟩)) ⟨by omega, by omega⟩ (fun v' Ω2 I2 J2 q => ?_)
  obtain ⟨x', rfl, rfl, R2⟩ := q
  show AW G (mL b L xs) 0 1000 600000 7302249 (aw_QI lQ) Ω2 I2 J2 (k + 1) (n + 3) _ _ _
  refine aw_pc (pc2 := 919) rfl ?_
  refine aw_lcmp dL_law_919 ?_
  refine aw_pc (pc2 := 920) rfl ?_
  exact aw_if_eq (t := 1374) dL_law_920 (by decide) (fun _ => K _ _ _ _ _ R2 (by omega) (by omega)) (fun e => absurd (lcmpE.mpr rfl) e)
theorem lo_23 {G : aw_G} {b L i k n : Nat} {xs : Nat → Int32} {Ω : aw_O} {I : aw_MI} {J : aw_MJ} (R : Rel Ω I J) (hi : i + 6 ≤ L) (hL : L ≤ 3072) (hk : k + 1 ≤ 600000) (hn : n + 3 ≤ 7302249) (K : ∀ Ω' I' J' k' n', Rel Ω' I' J' → k' ≤ k + 1 → n' ≤ n + 3 → AW G (mL b L xs) 0 1000 600000 7302249 (aw_QI lQ) Ω' I' J' k' n' [.ref b, .ref (aw_ad G 0), .ref (aw_ad G 65), .int (nI i)] 1374 []) : AW G (mL b L xs) 0 1000 600000 7302249 (aw_QI lQ) Ω I J k n [.ref b, .ref (aw_ad G 0), .ref (aw_ad G 65), .int (nI i)] 925 [] := by
  refine aw_aload_n dL_law_925 rfl ?_
  refine aw_aload_n dL_law_926 rfl ?_
  refine aw_iload_n dL_law_927 rfl ?_
  refine aw_iconst (v := nI 1) dL_law_928 (by decide) ?_
  refine aw_iaddN dL_law_929 ?_
  refine aw_pc (pc2 := 930) rfl ?_
  refine aw_sld (i := i + 1) (List.mem_singleton.mpr rfl) dL_law_930 (by omega) (by omega) ?_
  refine aw_aload_n dL_law_931 rfl ?_
  refine aw_iload_n dL_law_932 rfl ?_
  refine aw_iconst (v := nI 2) dL_law_933 (by decide) ?_
  refine aw_iaddN dL_law_934 ?_
  refine aw_pc (pc2 := 935) rfl ?_
  refine aw_sld (i := i + 2) (List.mem_singleton.mpr rfl) dL_law_935 (by omega) (by omega) ?_
  refine aw_aload_n dL_law_936 rfl ?_
  refine aw_iload_n dL_law_937 rfl ?_
  refine aw_iconst (v := nI 3) dL_law_938 (by decide) ?_
  refine aw_iaddN dL_law_939 ?_
  refine aw_pc (pc2 := 940) rfl ?_
  refine aw_sld (i := i + 3) (List.mem_singleton.mpr rfl) dL_law_940 (by omega) (by omega) ?_
  refine aw_aload_n dL_law_941 rfl ?_
  refine aw_iload_n dL_law_942 rfl ?_
  refine aw_iconst (v := nI 4) dL_law_943 (by decide) ?_
  refine aw_iaddN dL_law_944 ?_
  refine aw_pc (pc2 := 945) rfl ?_
  refine aw_sld (i := i + 4) (List.mem_singleton.mpr rfl) dL_law_945 (by omega) (by omega) ?_
  refine aw_cvL (As := [_, _, _, _]) (d' := 999) dL_law_946 lkL_113 R.1.1.o (by omega) rfl rfl (Nat.le_of_ble_eq_true rfl) ⟨by omega, by omega⟩ (st_distance R (by omega) (fun z I1 J1 pr => ?_))
  refine aw_pc (pc2 := 949) rfl ?_
  refine aw_aload_n dL_law_949 rfl ?_
  refine aw_aload_n dL_law_950 rfl ?_
  refine aw_iload_n dL_law_951 rfl ?_
  refine aw_pc (pc2 := 952) rfl ?_
  refine aw_iconst (v := nI 1) dL_law_952 (by decide) ?_
  refine aw_iaddN dL_law_953 ?_
  refine aw_sld (i := i + 1) (List.mem_singleton.mpr rfl) dL_law_954 (by omega) (by omega) ?_
  refine aw_aload_n dL_law_955 rfl ?_
  refine aw_iload_n dL_law_956 rfl ?_
  refine aw_pc (pc2 := 957) rfl ?_
  refine aw_iconst (v := nI 2) dL_law_957 (by decide) ?_
  refine aw_iaddN dL_law_958 ?_
  refine aw_sld (i := i + 2) (List.mem_singleton.mpr rfl) dL_law_959 (by omega) (by omega) ?_
  refine aw_aload_n dL_law_960 rfl ?_
  refine aw_iload_n dL_law_961 rfl ?_
  refine aw_pc (pc2 := 962) rfl ?_
  refine aw_iconst (v := nI 3) dL_law_962 (by decide) ?_
  refine aw_iaddN dL_law_963 ?_
  refine aw_sld (i := i + 3) (List.mem_singleton.mpr rfl) dL_law_964 (by omega) (by omega) ?_
  refine aw_aload_n dL_law_965 rfl ?_
  refine aw_iload_n dL_law_966 rfl ?_
  refine aw_pc (pc2 := 967) rfl ?_
  refine aw_iconst (v := nI 4) dL_law_967 (by decide) ?_
  refine aw_iaddN dL_law_968 ?_
  refine aw_sld (i := i + 4) (List.mem_singleton.mpr rfl) dL_law_969 (by omega) (by omega) ?_
  refine aw_cv (As := [_, _, _, _]) (d' := 999) (mc' := 1) (ms' := 3) dL_law_970 lkL_117.1 lkL_117.2.1 lkL_117.2.2 R.1.2.1.o (by omega) rfl rfl (Nat.le_of_ble_eq_true rfl) (pr (fun z' Ω2 I2 J2 => z' = z ∧ Rel Ω2 I2 J2) (fun Ω2 I2 J2 R2 _ => ⟨rfl, R2⟩)) ⟨by omega, by omega⟩ (fun v' Ω2 I2 J2 q => ?_)
  obtain ⟨x', rfl, rfl, R2⟩ := q
  show AW G (mL b L xs) 0 1000 600000 7302249 (aw_QI lQ) Ω2 I2 J2 (k + 1) (n + 3) _ _ _
  refine aw_pc (pc2 := 973) rfl ?_
  refine aw_lcmp dL_law_973 ?_
  refine aw_pc (pc2 := 974) rfl ?_
  exact aw_if_eq (t := 1374) dL_law_974 (by decide) (fun _ => K _ _ _ _ _ R2 (by omega) (by omega)) (fun e => absurd (lcmpE.mpr rfl) e)
theorem lo_24 {G : aw_G} {b L i k n : Nat} {xs : Nat → Int32} {Ω : aw_O} {I : aw_MI} {J : aw_MJ} (R : Rel Ω I J) (hi : i + 6 ≤ L) (hL : L ≤ 3072) (hk : k + 1 ≤ 600000) (hn : n + 3 ≤ 7302249) (K : ∀ Ω' I' J' k' n', Rel Ω' I' J' → k' ≤ k + 1 → n' ≤ n + 3 → AW G (mL b L xs) 0 1000 600000 7302249 (aw_QI lQ) Ω' I' J' k' n' [.ref b, .ref (aw_ad G 0), .ref (aw_ad G 65), .int (nI i)] 1374 []) : AW G (mL b L xs) 0 1000 600000 7302249 (aw_QI lQ) Ω I J k n [.ref b, .ref (aw_ad G 0), .ref (aw_ad G 65), .int (nI i)] 979 [] := by
  refine aw_aload_n dL_law_979 rfl ?_
  refine aw_aload_n dL_law_980 rfl ?_
  refine aw_iload_n dL_law_981 rfl ?_
  refine aw_iconst (v := nI 1) dL_law_982 (by decide) ?_
  refine aw_iaddN dL_law_983 ?_
  refine aw_pc (pc2 := 984) rfl ?_
  refine aw_sld (i := i + 1) (List.mem_singleton.mpr rfl) dL_law_984 (by omega) (by omega) ?_
  refine aw_cvI (As := [_]) (d' := 999) dL_law_985 lkL_118 R.1.1.o (by omega) rfl rfl (Nat.le_of_ble_eq_true rfl) ⟨by omega, by omega⟩ (st_certify R (by omega) (fun z I1 J1 pr => ?_))
  refine aw_pc (pc2 := 988) rfl ?_
  refine aw_aload_n dL_law_988 rfl ?_
  refine aw_aload_n dL_law_989 rfl ?_
  refine aw_iload_n dL_law_990 rfl ?_
  refine aw_pc (pc2 := 991) rfl ?_
  refine aw_iconst (v := nI 1) dL_law_991 (by decide) ?_
  refine aw_iaddN dL_law_992 ?_
  refine aw_sld (i := i + 1) (List.mem_singleton.mpr rfl) dL_law_993 (by omega) (by omega) ?_
  refine aw_cvI (As := [_]) (d' := 999) dL_law_994 lkL_121 R.1.2.1.o (by omega) rfl rfl (Nat.le_of_ble_eq_true rfl) ⟨by omega, by omega⟩ (pr _ (fun Ω2 I2 J2 R2 _ => ?_))
  refine aw_pc (pc2 := 997) rfl ?_
  exact aw_icmp_eq (t := 1374) dL_law_997 (by decide) (fun _ => K _ _ _ _ _ R2 (by omega) (by omega)) (fun e => absurd rfl e)
theorem lo_25 {G : aw_G} {b L i k n : Nat} {xs : Nat → Int32} {Ω : aw_O} {I : aw_MI} {J : aw_MJ} (R : Rel Ω I J) (hi : i + 6 ≤ L) (hL : L ≤ 3072) (hk : k + 1 ≤ 600000) (hn : n + 3 ≤ 7302249) (K : ∀ Ω' I' J' k' n', Rel Ω' I' J' → k' ≤ k + 1 → n' ≤ n + 3 → AW G (mL b L xs) 0 1000 600000 7302249 (aw_QI lQ) Ω' I' J' k' n' [.ref b, .ref (aw_ad G 0), .ref (aw_ad G 65), .int (nI i)] 1374 []) : AW G (mL b L xs) 0 1000 600000 7302249 (aw_QI lQ) Ω I J k n [.ref b, .ref (aw_ad G 0), .ref (aw_ad G 65), .int (nI i)] 1002 [] := by
  refine aw_aload_n dL_law_1002 rfl ?_
  refine aw_aload_n dL_law_1003 rfl ?_
  refine aw_iload_n dL_law_1004 rfl ?_
  refine aw_iconst (v := nI 1) dL_law_1005 (by decide) ?_
  refine aw_iaddN dL_law_1006 ?_
  refine aw_pc (pc2 := 1007) rfl ?_
  refine aw_sld (i := i + 1) (List.mem_singleton.mpr rfl) dL_law_1007 (by omega) (by omega) ?_
  refine aw_cvI (As := [_]) (d' := 999) dL_law_1008 lkL_122 R.1.1.o (by omega) rfl rfl (Nat.le_of_ble_eq_true rfl) ⟨by omega, by omega⟩ (st_check R (by omega) (fun z I1 J1 pr => ?_))
  refine aw_pc (pc2 := 1011) rfl ?_
  refine aw_aload_n dL_law_1011 rfl ?_
  refine aw_aload_n dL_law_1012 rfl ?_
  refine aw_iload_n dL_law_1013 rfl ?_
  refine aw_pc (pc2 := 1014) rfl ?_
  refine aw_iconst (v := nI 1) dL_law_1014 (by decide) ?_
  refine aw_iaddN dL_law_1015 ?_
  refine aw_sld (i := i + 1) (List.mem_singleton.mpr rfl) dL_law_1016 (by omega) (by omega) ?_
  refine aw_cvI (As := [_]) (d' := 999) dL_law_1017 lkL_125 R.1.2.1.o (by omega) rfl rfl (Nat.le_of_ble_eq_true rfl) ⟨by omega, by omega⟩ (pr _ (fun Ω2 I2 J2 R2 _ => ?_))
  refine aw_pc (pc2 := 1020) rfl ?_
  exact aw_icmp_eq (t := 1374) dL_law_1020 (by decide) (fun _ => K _ _ _ _ _ R2 (by omega) (by omega)) (fun e => absurd rfl e)
theorem lo_26 {G : aw_G} {b L i k n : Nat} {xs : Nat → Int32} {Ω : aw_O} {I : aw_MI} {J : aw_MJ} (R : Rel Ω I J) (hi : i + 6 ≤ L) (hL : L ≤ 3072) (hk : k + 1 ≤ 600000) (hn : n + 3 ≤ 7302249) (K : ∀ Ω' I' J' k' n', Rel Ω' I' J' → k' ≤ k + 1 → n' ≤ n + 3 → AW G (mL b L xs) 0 1000 600000 7302249 (aw_QI lQ) Ω' I' J' k' n' [.ref b, .ref (aw_ad G 0), .ref (aw_ad G 65), .int (nI i)] 1374 []) : AW G (mL b L xs) 0 1000 600000 7302249 (aw_QI lQ) Ω I J k n [.ref b, .ref (aw_ad G 0), .ref (aw_ad G 65), .int (nI i)] 1025 [] := by
  refine aw_aload_n dL_law_1025 rfl ?_
  refine aw_cvI (As := []) (d' := 999) dL_law_1026 lkL_126 R.1.1.o (by omega) rfl rfl (Nat.le_of_ble_eq_true rfl) ⟨by omega, by omega⟩ (st_solve R (by omega) (fun z I1 J1 pr => ?_))
  refine aw_pc (pc2 := 1029) rfl ?_
  refine aw_aload_n dL_law_1029 rfl ?_
  refine aw_cvI (As := []) (d' := 999) dL_law_1030 lkL_129 R.1.2.1.o (by omega) rfl rfl (Nat.le_of_ble_eq_true rfl) ⟨by omega, by omega⟩ (pr _ (fun Ω2 I2 J2 R2 _ => ?_))
  refine aw_pc (pc2 := 1033) rfl ?_
  exact aw_icmp_eq (t := 1374) dL_law_1033 (by decide) (fun _ => K _ _ _ _ _ R2 (by omega) (by omega)) (fun e => absurd rfl e)
theorem lo_27 {G : aw_G} {b L i k n : Nat} {xs : Nat → Int32} {Ω : aw_O} {I : aw_MI} {J : aw_MJ} (R : Rel Ω I J) (hi : i + 6 ≤ L) (hL : L ≤ 3072) (hk : k + 1 ≤ 600000) (hn : n + 3 ≤ 7302249) (K : ∀ Ω' I' J' k' n', Rel Ω' I' J' → k' ≤ k + 1 → n' ≤ n + 3 → AW G (mL b L xs) 0 1000 600000 7302249 (aw_QI lQ) Ω' I' J' k' n' [.ref b, .ref (aw_ad G 0), .ref (aw_ad G 65), .int (nI i)] 1374 []) : AW G (mL b L xs) 0 1000 600000 7302249 (aw_QI lQ) Ω I J k n [.ref b, .ref (aw_ad G 0), .ref (aw_ad G 65), .int (nI i)] 1038 [] := by
  refine aw_aload_n dL_law_1038 rfl ?_
  refine aw_cvI (As := []) (d' := 999) dL_law_1039 lkL_130 R.1.1.o (by omega) rfl rfl (Nat.le_of_ble_eq_true rfl) ⟨by omega, by omega⟩ (st_notes R (fun z I1 J1 pr => ?_))
  refine aw_pc (pc2 := 1042) rfl ?_
  refine aw_aload_n dL_law_1042 rfl ?_
  refine aw_cvI (As := []) (d' := 999) dL_law_1043 lkL_133 R.1.2.1.o (by omega) rfl rfl (Nat.le_of_ble_eq_true rfl) ⟨by omega, by omega⟩ (pr _ (fun Ω2 I2 J2 R2 _ => ?_))
  refine aw_pc (pc2 := 1046) rfl ?_
  exact aw_icmp_eq (t := 1374) dL_law_1046 (by decide) (fun _ => K _ _ _ _ _ R2 (by omega) (by omega)) (fun e => absurd rfl e)
theorem lo_28 {G : aw_G} {b L i k n : Nat} {xs : Nat → Int32} {Ω : aw_O} {I : aw_MI} {J : aw_MJ} (R : Rel Ω I J) (hi : i + 6 ≤ L) (hL : L ≤ 3072) (hk : k + 1 ≤ 600000) (hn : n + 3 ≤ 7302249) (K : ∀ Ω' I' J' k' n', Rel Ω' I' J' → k' ≤ k + 1 → n' ≤ n + 3 → AW G (mL b L xs) 0 1000 600000 7302249 (aw_QI lQ) Ω' I' J' k' n' [.ref b, .ref (aw_ad G 0), .ref (aw_ad G 65), .int (nI i)] 1374 []) : AW G (mL b L xs) 0 1000 600000 7302249 (aw_QI lQ) Ω I J k n [.ref b, .ref (aw_ad G 0), .ref (aw_ad G 65), .int (nI i)] 1051 [] := by
  refine aw_aload_n dL_law_1051 rfl ?_
  refine aw_cvL (As := []) (d' := 999) dL_law_1052 lkL_134 R.1.1.o (by omega) rfl rfl (Nat.le_of_ble_eq_true rfl) ⟨by omega, by omega⟩ (st_mark R (fun z I1 J1 pr => ?_))
  refine aw_pc (pc2 := 1055) rfl ?_
  refine aw_aload_n dL_law_1055 rfl ?_
  refine aw_cvL (As := []) (d' := 999) dL_law_1056 lkL_138 R.1.2.1.o (by omega) rfl rfl (Nat.le_of_ble_eq_true rfl) ⟨by omega, by omega⟩ (pr _ (fun Ω2 I2 J2 R2 _ => ?_))
  refine aw_pc (pc2 := 1059) rfl ?_
  refine aw_lcmp dL_law_1059 ?_
  refine aw_pc (pc2 := 1060) rfl ?_
  exact aw_if_eq (t := 1374) dL_law_1060 (by decide) (fun _ => K _ _ _ _ _ R2 (by omega) (by omega)) (fun e => absurd (lcmpE.mpr rfl) e)
theorem lo_29 {G : aw_G} {b L i k n : Nat} {xs : Nat → Int32} {Ω : aw_O} {I : aw_MI} {J : aw_MJ} (R : Rel Ω I J) (hi : i + 6 ≤ L) (hL : L ≤ 3072) (hk : k + 1 ≤ 600000) (hn : n + 3 ≤ 7302249) (K : ∀ Ω' I' J' k' n', Rel Ω' I' J' → k' ≤ k + 1 → n' ≤ n + 3 → AW G (mL b L xs) 0 1000 600000 7302249 (aw_QI lQ) Ω' I' J' k' n' [.ref b, .ref (aw_ad G 0), .ref (aw_ad G 65), .int (nI i)] 1374 []) : AW G (mL b L xs) 0 1000 600000 7302249 (aw_QI lQ) Ω I J k n [.ref b, .ref (aw_ad G 0), .ref (aw_ad G 65), .int (nI i)] 1065 [] := by
  refine aw_aload_n dL_law_1065 rfl ?_
  refine aw_aload_n dL_law_1066 rfl ?_
  refine aw_iload_n dL_law_1067 rfl ?_
  refine aw_iconst (v := nI 1) dL_law_1068 (by decide) ?_
  refine aw_iaddN dL_law_1069 ?_
  refine aw_pc (pc2 := 1070) rfl ?_
  refine aw_sld (i := i + 1) (List.mem_singleton.mpr rfl) dL_law_1070 (by omega) (by omega) ?_
  refine aw_cvI (As := [_]) (d' := 999) dL_law_1071 lkL_139 R.1.1.o (by omega) rfl rfl (Nat.le_of_ble_eq_true rfl) ⟨by omega, by omega⟩ (st_trail R (by omega) (fun z I1 J1 pr => ?_))
  refine aw_pc (pc2 := 1074) rfl ?_
  refine aw_aload_n dL_law_1074 rfl ?_
  refine aw_aload_n dL_law_1075 rfl ?_
  refine aw_iload_n dL_law_1076 rfl ?_
  refine aw_pc (pc2 := 1077) rfl ?_
  refine aw_iconst (v := nI 1) dL_law_1077 (by decide) ?_
  refine aw_iaddN dL_law_1078 ?_
  refine aw_sld (i := i + 1) (List.mem_singleton.mpr rfl) dL_law_1079 (by omega) (by omega) ?_
  refine aw_cvI (As := [_]) (d' := 999) dL_law_1080 lkL_142 R.1.2.1.o (by omega) rfl rfl (Nat.le_of_ble_eq_true rfl) ⟨by omega, by omega⟩ (pr _ (fun Ω2 I2 J2 R2 _ => ?_))
  refine aw_pc (pc2 := 1083) rfl ?_
  exact aw_icmp_eq (t := 1374) dL_law_1083 (by decide) (fun _ => K _ _ _ _ _ R2 (by omega) (by omega)) (fun e => absurd rfl e)
theorem lo_30 {G : aw_G} {b L i k n : Nat} {xs : Nat → Int32} {Ω : aw_O} {I : aw_MI} {J : aw_MJ} (R : Rel Ω I J) (hi : i + 6 ≤ L) (hL : L ≤ 3072) (hk : k + 1 ≤ 600000) (hn : n + 3 ≤ 7302249) (K : ∀ Ω' I' J' k' n', Rel Ω' I' J' → k' ≤ k + 1 → n' ≤ n + 3 → AW G (mL b L xs) 0 1000 600000 7302249 (aw_QI lQ) Ω' I' J' k' n' [.ref b, .ref (aw_ad G 0), .ref (aw_ad G 65), .int (nI i)] 1374 []) : AW G (mL b L xs) 0 1000 600000 7302249 (aw_QI lQ) Ω I J k n [.ref b, .ref (aw_ad G 0), .ref (aw_ad G 65), .int (nI i)] 1088 [] := by
  refine aw_aload_n dL_law_1088 rfl ?_
  refine aw_aload_n dL_law_1089 rfl ?_
  refine aw_iload_n dL_law_1090 rfl ?_
  refine aw_iconst (v := nI 1) dL_law_1091 (by decide) ?_
  refine aw_iaddN dL_law_1092 ?_
  refine aw_pc (pc2 := 1093) rfl ?_
  refine aw_sld (i := i + 1) (List.mem_singleton.mpr rfl) dL_law_1093 (by omega) (by omega) ?_
  refine aw_cvL (As := [_]) (d' := 999) dL_law_1094 lkL_143 R.1.1.o (by omega) rfl rfl (Nat.le_of_ble_eq_true rfl) ⟨by omega, by omega⟩ (st_least R (by omega) (fun z I1 J1 pr => ?_))
  refine aw_pc (pc2 := 1097) rfl ?_
  refine aw_aload_n dL_law_1097 rfl ?_
  refine aw_aload_n dL_law_1098 rfl ?_
  refine aw_iload_n dL_law_1099 rfl ?_
  refine aw_pc (pc2 := 1100) rfl ?_
  refine aw_iconst (v := nI 1) dL_law_1100 (by decide) ?_
  refine aw_iaddN dL_law_1101 ?_
  refine aw_sld (i := i + 1) (List.mem_singleton.mpr rfl) dL_law_1102 (by omega) (by omega) ?_
  refine aw_cvL (As := [_]) (d' := 999) dL_law_1103 lkL_146 R.1.2.1.o (by omega) rfl rfl (Nat.le_of_ble_eq_true rfl) ⟨by omega, by omega⟩ (pr _ (fun Ω2 I2 J2 R2 _ => ?_))
  refine aw_pc (pc2 := 1106) rfl ?_
  refine aw_lcmp dL_law_1106 ?_
  refine aw_pc (pc2 := 1107) rfl ?_
  exact aw_if_eq (t := 1374) dL_law_1107 (by decide) (fun _ => K _ _ _ _ _ R2 (by omega) (by omega)) (fun e => absurd (lcmpE.mpr rfl) e)
theorem lo_31 {G : aw_G} {b L i k n : Nat} {xs : Nat → Int32} {Ω : aw_O} {I : aw_MI} {J : aw_MJ} (R : Rel Ω I J) (hi : i + 6 ≤ L) (hL : L ≤ 3072) (hk : k + 1 ≤ 600000) (hn : n + 3 ≤ 7302249) (K : ∀ Ω' I' J' k' n', Rel Ω' I' J' → k' ≤ k + 1 → n' ≤ n + 3 → AW G (mL b L xs) 0 1000 600000 7302249 (aw_QI lQ) Ω' I' J' k' n' [.ref b, .ref (aw_ad G 0), .ref (aw_ad G 65), .int (nI i)] 1374 []) : AW G (mL b L xs) 0 1000 600000 7302249 (aw_QI lQ) Ω I J k n [.ref b, .ref (aw_ad G 0), .ref (aw_ad G 65), .int (nI i)] 1112 [] := by
  refine aw_aload_n dL_law_1112 rfl ?_
  refine aw_aload_n dL_law_1113 rfl ?_
  refine aw_iload_n dL_law_1114 rfl ?_
  refine aw_iconst (v := nI 1) dL_law_1115 (by decide) ?_
  refine aw_iaddN dL_law_1116 ?_
  refine aw_pc (pc2 := 1117) rfl ?_
  refine aw_sld (i := i + 1) (List.mem_singleton.mpr rfl) dL_law_1117 (by omega) (by omega) ?_
  refine aw_aload_n dL_law_1118 rfl ?_
  refine aw_iload_n dL_law_1119 rfl ?_
  refine aw_iconst (v := nI 2) dL_law_1120 (by decide) ?_
  refine aw_iaddN dL_law_1121 ?_
  refine aw_pc (pc2 := 1122) rfl ?_
  refine aw_sld (i := i + 2) (List.mem_singleton.mpr rfl) dL_law_1122 (by omega) (by omega) ?_
  refine aw_aload_n dL_law_1123 rfl ?_
  refine aw_iload_n dL_law_1124 rfl ?_
  refine aw_iconst (v := nI 3) dL_law_1125 (by decide) ?_
  refine aw_iaddN dL_law_1126 ?_
  refine aw_pc (pc2 := 1127) rfl ?_
  refine aw_sld (i := i + 3) (List.mem_singleton.mpr rfl) dL_law_1127 (by omega) (by omega) ?_
  refine aw_cvI (As := [_, _, _]) (d' := 999) dL_law_1128 lkL_147 R.1.1.o (by omega) rfl rfl (Nat.le_of_ble_eq_true rfl) ⟨by omega, by omega⟩ (st_sheet R (by omega) (fun z I1 J1 pr => ?_))
  refine aw_pc (pc2 := 1131) rfl ?_
  refine aw_aload_n dL_law_1131 rfl ?_
  refine aw_aload_n dL_law_1132 rfl ?_
  refine aw_iload_n dL_law_1133 rfl ?_
  refine aw_pc (pc2 := 1134) rfl ?_
  refine aw_iconst (v := nI 1) dL_law_1134 (by decide) ?_
  refine aw_iaddN dL_law_1135 ?_
  refine aw_sld (i := i + 1) (List.mem_singleton.mpr rfl) dL_law_1136 (by omega) (by omega) ?_
  refine aw_aload_n dL_law_1137 rfl ?_
  refine aw_iload_n dL_law_1138 rfl ?_
  refine aw_pc (pc2 := 1139) rfl ?_
  refine aw_iconst (v := nI 2) dL_law_1139 (by decide) ?_
  refine aw_iaddN dL_law_1140 ?_
  refine aw_sld (i := i + 2) (List.mem_singleton.mpr rfl) dL_law_1141 (by omega) (by omega) ?_
  refine aw_aload_n dL_law_1142 rfl ?_
  refine aw_iload_n dL_law_1143 rfl ?_
  refine aw_pc (pc2 := 1144) rfl ?_
  refine aw_iconst (v := nI 3) dL_law_1144 (by decide) ?_
  refine aw_iaddN dL_law_1145 ?_
  refine aw_sld (i := i + 3) (List.mem_singleton.mpr rfl) dL_law_1146 (by omega) (by omega) ?_
  refine aw_cvI (As := [_, _, _]) (d' := 999) dL_law_1147 lkL_150 R.1.2.1.o (by omega) rfl rfl (Nat.le_of_ble_eq_true rfl) ⟨by omega, by omega⟩ (pr _ (fun Ω2 I2 J2 R2 _ => ?_))
  refine aw_pc (pc2 := 1150) rfl ?_
  exact aw_icmp_eq (t := 1374) dL_law_1150 (by decide) (fun _ => K _ _ _ _ _ R2 (by omega) (by omega)) (fun e => absurd rfl e)
theorem lo_32 {G : aw_G} {b L i k n : Nat} {xs : Nat → Int32} {Ω : aw_O} {I : aw_MI} {J : aw_MJ} (R : Rel Ω I J) (hi : i + 6 ≤ L) (hL : L ≤ 3072) (hk : k + 1 ≤ 600000) (hn : n + 3 ≤ 7302249) (K : ∀ Ω' I' J' k' n', Rel Ω' I' J' → k' ≤ k + 1 → n' ≤ n + 3 → AW G (mL b L xs) 0 1000 600000 7302249 (aw_QI lQ) Ω' I' J' k' n' [.ref b, .ref (aw_ad G 0), .ref (aw_ad G 65), .int (nI i)] 1374 []) : AW G (mL b L xs) 0 1000 600000 7302249 (aw_QI lQ) Ω I J k n [.ref b, .ref (aw_ad G 0), .ref (aw_ad G 65), .int (nI i)] 1155 [] := by
  refine aw_aload_n dL_law_1155 rfl ?_
  refine aw_aload_n dL_law_1156 rfl ?_
  refine aw_iload_n dL_law_1157 rfl ?_
  refine aw_iconst (v := nI 1) dL_law_1158 (by decide) ?_
  refine aw_iaddN dL_law_1159 ?_
  refine aw_pc (pc2 := 1160) rfl ?_
  refine aw_sld (i := i + 1) (List.mem_singleton.mpr rfl) dL_law_1160 (by omega) (by omega) ?_
  refine aw_aload_n dL_law_1161 rfl ?_
  refine aw_iload_n dL_law_1162 rfl ?_
  refine aw_iconst (v := nI 2) dL_law_1163 (by decide) ?_
  refine aw_iaddN dL_law_1164 ?_
  refine aw_pc (pc2 := 1165) rfl ?_
  refine aw_sld (i := i + 2) (List.mem_singleton.mpr rfl) dL_law_1165 (by omega) (by omega) ?_
  refine aw_aload_n dL_law_1166 rfl ?_
  refine aw_iload_n dL_law_1167 rfl ?_
  refine aw_iconst (v := nI 3) dL_law_1168 (by decide) ?_
  refine aw_iaddN dL_law_1169 ?_
  refine aw_pc (pc2 := 1170) rfl ?_
  refine aw_sld (i := i + 3) (List.mem_singleton.mpr rfl) dL_law_1170 (by omega) (by omega) ?_
  refine aw_i2l dL_law_1171 ?_
  refine aw_bipush (v := nI 32) dL_law_1172 (by decide) ?_
  refine aw_lshl dL_law_1174 ?_
  refine aw_aload_n dL_law_1175 rfl ?_
  refine aw_pc (pc2 := 1176) rfl ?_
  refine aw_iload_n dL_law_1176 rfl ?_
  refine aw_iconst (v := nI 4) dL_law_1177 (by decide) ?_
  refine aw_iaddN dL_law_1178 ?_
  refine aw_sld (i := i + 4) (List.mem_singleton.mpr rfl) dL_law_1179 (by omega) (by omega) ?_
  refine aw_i2l dL_law_1180 ?_
  refine aw_pc (pc2 := 1181) rfl ?_
  refine aw_ldc2 dL_law_1181 kcL_151 ?_
  refine aw_land dL_law_1184 ?_
  refine aw_lor dL_law_1185 ?_
  refine aw_cvI (As := [_, _, _]) (d' := 999) dL_law_1186 lkL_153 R.1.1.o (by omega) rfl rfl (Nat.le_of_ble_eq_true rfl) ⟨by omega, by omega⟩ (st_cell R (by omega) (fun z I1 J1 pr => ?_))
  refine aw_pc (pc2 := 1189) rfl ?_
  refine aw_aload_n dL_law_1189 rfl ?_
  refine aw_pc (pc2 := 1190) rfl ?_
  refine aw_aload_n dL_law_1190 rfl ?_
  refine aw_iload_n dL_law_1191 rfl ?_
  refine aw_iconst (v := nI 1) dL_law_1192 (by decide) ?_
  refine aw_iaddN dL_law_1193 ?_
  refine aw_sld (i := i + 1) (List.mem_singleton.mpr rfl) dL_law_1194 (by omega) (by omega) ?_
  refine aw_pc (pc2 := 1195) rfl ?_
  refine aw_aload_n dL_law_1195 rfl ?_
  refine aw_iload_n dL_law_1196 rfl ?_
  refine aw_iconst (v := nI 2) dL_law_1197 (by decide) ?_
  refine aw_iaddN dL_law_1198 ?_
  refine aw_sld (i := i + 2) (List.mem_singleton.mpr rfl) dL_law_1199 (by omega) (by omega) ?_
  refine aw_pc (pc2 := 1200) rfl ?_
  refine aw_aload_n dL_law_1200 rfl ?_
  refine aw_iload_n dL_law_1201 rfl ?_
  refine aw_iconst (v := nI 3) dL_law_1202 (by decide) ?_
  refine aw_iaddN dL_law_1203 ?_
  refine aw_sld (i := i + 3) (List.mem_singleton.mpr rfl) dL_law_1204 (by omega) (by omega) ?_
  refine aw_pc (pc2 := 1205) rfl ?_
  refine aw_i2l dL_law_1205 ?_
  refine aw_bipush (v := nI 32) dL_law_1206 (by decide) ?_
  refine aw_lshl dL_law_1208 ?_
  refine aw_aload_n dL_law_1209 rfl ?_
  refine aw_iload_n dL_law_1210 rfl ?_
  refine aw_pc (pc2 := 1211) rfl ?_
  refine aw_iconst (v := nI 4) dL_law_1211 (by decide) ?_
  refine aw_iaddN dL_law_1212 ?_
  refine aw_sld (i := i + 4) (List.mem_singleton.mpr rfl) dL_law_1213 (by omega) (by omega) ?_
  refine aw_i2l dL_law_1214 ?_
  refine aw_ldc2 dL_law_1215 kcL_151 ?_
  refine aw_pc (pc2 := 1218) rfl ?_
  refine aw_land dL_law_1218 ?_
  refine aw_lor dL_law_1219 ?_
  refine aw_cvI (As := [_, _, _]) (d' := 999) dL_law_1220 lkL_157 R.1.2.1.o (by omega) rfl rfl (Nat.le_of_ble_eq_true rfl) ⟨by omega, by omega⟩ (pr _ (fun Ω2 I2 J2 R2 _ => ?_))
  refine aw_pc (pc2 := 1223) rfl ?_
  exact aw_icmp_eq (t := 1374) dL_law_1223 (by decide) (fun _ => K _ _ _ _ _ R2 (by omega) (by omega)) (fun e => absurd rfl e)
theorem lo_33 {G : aw_G} {b L i k n : Nat} {xs : Nat → Int32} {Ω : aw_O} {I : aw_MI} {J : aw_MJ} (R : Rel Ω I J) (hi : i + 6 ≤ L) (hL : L ≤ 3072) (hk : k + 1 ≤ 600000) (hn : n + 3 ≤ 7302249) (K : ∀ Ω' I' J' k' n', Rel Ω' I' J' → k' ≤ k + 1 → n' ≤ n + 3 → AW G (mL b L xs) 0 1000 600000 7302249 (aw_QI lQ) Ω' I' J' k' n' [.ref b, .ref (aw_ad G 0), .ref (aw_ad G 65), .int (nI i)] 1374 []) : AW G (mL b L xs) 0 1000 600000 7302249 (aw_QI lQ) Ω I J k n [.ref b, .ref (aw_ad G 0), .ref (aw_ad G 65), .int (nI i)] 1228 [] := by
  refine aw_aload_n dL_law_1228 rfl ?_
  refine aw_aload_n dL_law_1229 rfl ?_
  refine aw_iload_n dL_law_1230 rfl ?_
  refine aw_iconst (v := nI 1) dL_law_1231 (by decide) ?_
  refine aw_iaddN dL_law_1232 ?_
  refine aw_pc (pc2 := 1233) rfl ?_
  refine aw_sld (i := i + 1) (List.mem_singleton.mpr rfl) dL_law_1233 (by omega) (by omega) ?_
  refine aw_aload_n dL_law_1234 rfl ?_
  refine aw_iload_n dL_law_1235 rfl ?_
  refine aw_iconst (v := nI 2) dL_law_1236 (by decide) ?_
  refine aw_iaddN dL_law_1237 ?_
  refine aw_pc (pc2 := 1238) rfl ?_
  refine aw_sld (i := i + 2) (List.mem_singleton.mpr rfl) dL_law_1238 (by omega) (by omega) ?_
  refine aw_cvL (As := [_, _]) (d' := 999) dL_law_1239 lkL_158 R.1.1.o (by omega) rfl rfl (Nat.le_of_ble_eq_true rfl) ⟨by omega, by omega⟩ (st_read R (by omega) (fun z I1 J1 pr => ?_))
  refine aw_pc (pc2 := 1242) rfl ?_
  refine aw_aload_n dL_law_1242 rfl ?_
  refine aw_aload_n dL_law_1243 rfl ?_
  refine aw_iload_n dL_law_1244 rfl ?_
  refine aw_pc (pc2 := 1245) rfl ?_
  refine aw_iconst (v := nI 1) dL_law_1245 (by decide) ?_
  refine aw_iaddN dL_law_1246 ?_
  refine aw_sld (i := i + 1) (List.mem_singleton.mpr rfl) dL_law_1247 (by omega) (by omega) ?_
  refine aw_aload_n dL_law_1248 rfl ?_
  refine aw_iload_n dL_law_1249 rfl ?_
  refine aw_pc (pc2 := 1250) rfl ?_
  refine aw_iconst (v := nI 2) dL_law_1250 (by decide) ?_
  refine aw_iaddN dL_law_1251 ?_
  refine aw_sld (i := i + 2) (List.mem_singleton.mpr rfl) dL_law_1252 (by omega) (by omega) ?_
  refine aw_cvL (As := [_, _]) (d' := 999) dL_law_1253 lkL_161 R.1.2.1.o (by omega) rfl rfl (Nat.le_of_ble_eq_true rfl) ⟨by omega, by omega⟩ (pr _ (fun Ω2 I2 J2 R2 _ => ?_))
  refine aw_pc (pc2 := 1256) rfl ?_
  refine aw_lcmp dL_law_1256 ?_
  refine aw_pc (pc2 := 1257) rfl ?_
  exact aw_if_eq (t := 1374) dL_law_1257 (by decide) (fun _ => K _ _ _ _ _ R2 (by omega) (by omega)) (fun e => absurd (lcmpE.mpr rfl) e)
theorem lo_34 {G : aw_G} {b L i k n : Nat} {xs : Nat → Int32} {Ω : aw_O} {I : aw_MI} {J : aw_MJ} (R : Rel Ω I J) (hi : i + 6 ≤ L) (hL : L ≤ 3072) (hk : k + 1 ≤ 600000) (hn : n + 3 ≤ 7302249) (K : ∀ Ω' I' J' k' n', Rel Ω' I' J' → k' ≤ k + 1 → n' ≤ n + 3 → AW G (mL b L xs) 0 1000 600000 7302249 (aw_QI lQ) Ω' I' J' k' n' [.ref b, .ref (aw_ad G 0), .ref (aw_ad G 65), .int (nI i)] 1374 []) : AW G (mL b L xs) 0 1000 600000 7302249 (aw_QI lQ) Ω I J k n [.ref b, .ref (aw_ad G 0), .ref (aw_ad G 65), .int (nI i)] 1262 [] := by
  refine aw_aload_n dL_law_1262 rfl ?_
  refine aw_aload_n dL_law_1263 rfl ?_
  refine aw_iload_n dL_law_1264 rfl ?_
  refine aw_iconst (v := nI 1) dL_law_1265 (by decide) ?_
  refine aw_iaddN dL_law_1266 ?_
  refine aw_pc (pc2 := 1267) rfl ?_
  refine aw_sld (i := i + 1) (List.mem_singleton.mpr rfl) dL_law_1267 (by omega) (by omega) ?_
  refine aw_aload_n dL_law_1268 rfl ?_
  refine aw_iload_n dL_law_1269 rfl ?_
  refine aw_iconst (v := nI 2) dL_law_1270 (by decide) ?_
  refine aw_iaddN dL_law_1271 ?_
  refine aw_pc (pc2 := 1272) rfl ?_
  refine aw_sld (i := i + 2) (List.mem_singleton.mpr rfl) dL_law_1272 (by omega) (by omega) ?_
  refine aw_aload_n dL_law_1273 rfl ?_
  refine aw_iload_n dL_law_1274 rfl ?_
  refine aw_iconst (v := nI 3) dL_law_1275 (by decide) ?_
  refine aw_iaddN dL_law_1276 ?_
  refine aw_pc (pc2 := 1277) rfl ?_
  refine aw_sld (i := i + 3) (List.mem_singleton.mpr rfl) dL_law_1277 (by omega) (by omega) ?_
  refine aw_aload_n dL_law_1278 rfl ?_
  refine aw_iload_n dL_law_1279 rfl ?_
  refine aw_iconst (v := nI 4) dL_law_1280 (by decide) ?_
  refine aw_iaddN dL_law_1281 ?_
  refine aw_pc (pc2 := 1282) rfl ?_
  refine aw_sld (i := i + 4) (List.mem_singleton.mpr rfl) dL_law_1282 (by omega) (by omega) ?_
  refine aw_aload_n dL_law_1283 rfl ?_
  refine aw_iload_n dL_law_1284 rfl ?_
  refine aw_iconst (v := nI 5) dL_law_1285 (by decide) ?_
  refine aw_iaddN dL_law_1286 ?_
  refine aw_pc (pc2 := 1287) rfl ?_
  refine aw_sld (i := i + 5) (List.mem_singleton.mpr rfl) dL_law_1287 (by omega) (by omega) ?_
  refine aw_cvI (As := [_, _, _, _, _]) (d' := 999) dL_law_1288 lkL_162 R.1.1.o (by omega) rfl rfl (Nat.le_of_ble_eq_true rfl) ⟨by omega, by omega⟩ (st_copy R (by omega) (fun z I1 J1 pr => ?_))
  refine aw_pc (pc2 := 1291) rfl ?_
  refine aw_aload_n dL_law_1291 rfl ?_
  refine aw_aload_n dL_law_1292 rfl ?_
  refine aw_iload_n dL_law_1293 rfl ?_
  refine aw_pc (pc2 := 1294) rfl ?_
  refine aw_iconst (v := nI 1) dL_law_1294 (by decide) ?_
  refine aw_iaddN dL_law_1295 ?_
  refine aw_sld (i := i + 1) (List.mem_singleton.mpr rfl) dL_law_1296 (by omega) (by omega) ?_
  refine aw_aload_n dL_law_1297 rfl ?_
  refine aw_iload_n dL_law_1298 rfl ?_
  refine aw_pc (pc2 := 1299) rfl ?_
  refine aw_iconst (v := nI 2) dL_law_1299 (by decide) ?_
  refine aw_iaddN dL_law_1300 ?_
  refine aw_sld (i := i + 2) (List.mem_singleton.mpr rfl) dL_law_1301 (by omega) (by omega) ?_
  refine aw_aload_n dL_law_1302 rfl ?_
  refine aw_iload_n dL_law_1303 rfl ?_
  refine aw_pc (pc2 := 1304) rfl ?_
  refine aw_iconst (v := nI 3) dL_law_1304 (by decide) ?_
  refine aw_iaddN dL_law_1305 ?_
  refine aw_sld (i := i + 3) (List.mem_singleton.mpr rfl) dL_law_1306 (by omega) (by omega) ?_
  refine aw_aload_n dL_law_1307 rfl ?_
  refine aw_iload_n dL_law_1308 rfl ?_
  refine aw_pc (pc2 := 1309) rfl ?_
  refine aw_iconst (v := nI 4) dL_law_1309 (by decide) ?_
  refine aw_iaddN dL_law_1310 ?_
  refine aw_sld (i := i + 4) (List.mem_singleton.mpr rfl) dL_law_1311 (by omega) (by omega) ?_
  refine aw_aload_n dL_law_1312 rfl ?_
  refine aw_iload_n dL_law_1313 rfl ?_
  refine aw_pc (pc2 := 1314) rfl ?_
  refine aw_iconst (v := nI 5) dL_law_1314 (by decide) ?_
  refine aw_iaddN dL_law_1315 ?_
  refine aw_sld (i := i + 5) (List.mem_singleton.mpr rfl) dL_law_1316 (by omega) (by omega) ?_
  refine aw_cvI (As := [_, _, _, _, _]) (d' := 999) dL_law_1317 lkL_166 R.1.2.1.o (by omega) rfl rfl (Nat.le_of_ble_eq_true rfl) ⟨by omega, by omega⟩ (pr _ (fun Ω2 I2 J2 R2 _ => ?_))
  refine aw_pc (pc2 := 1320) rfl ?_
  exact aw_icmp_eq (t := 1374) dL_law_1320 (by decide) (fun _ => K _ _ _ _ _ R2 (by omega) (by omega)) (fun e => absurd rfl e)
theorem lo_35 {G : aw_G} {b L i k n : Nat} {xs : Nat → Int32} {Ω : aw_O} {I : aw_MI} {J : aw_MJ} (R : Rel Ω I J) (hi : i + 6 ≤ L) (hL : L ≤ 3072) (hk : k + 1 ≤ 600000) (hn : n + 3 ≤ 7302249) (K : ∀ Ω' I' J' k' n', Rel Ω' I' J' → k' ≤ k + 1 → n' ≤ n + 3 → AW G (mL b L xs) 0 1000 600000 7302249 (aw_QI lQ) Ω' I' J' k' n' [.ref b, .ref (aw_ad G 0), .ref (aw_ad G 65), .int (nI i)] 1374 []) : AW G (mL b L xs) 0 1000 600000 7302249 (aw_QI lQ) Ω I J k n [.ref b, .ref (aw_ad G 0), .ref (aw_ad G 65), .int (nI i)] 1325 [] := by
  refine aw_aload_n dL_law_1325 rfl ?_
  refine aw_cvI (As := []) (d' := 999) dL_law_1326 lkL_167 R.1.1.o (by omega) rfl rfl (Nat.le_of_ble_eq_true rfl) ⟨by omega, by omega⟩ (st_image R (by omega) (fun z I1 J1 pr => ?_))
  refine aw_pc (pc2 := 1329) rfl ?_
  refine aw_aload_n dL_law_1329 rfl ?_
  refine aw_cvI (As := []) (d' := 999) dL_law_1330 lkL_170 R.1.2.1.o (by omega) rfl rfl (Nat.le_of_ble_eq_true rfl) ⟨by omega, by omega⟩ (pr _ (fun Ω2 I2 J2 R2 _ => ?_))
  refine aw_pc (pc2 := 1333) rfl ?_
  exact aw_icmp_eq (t := 1374) dL_law_1333 (by decide) (fun _ => K _ _ _ _ _ R2 (by omega) (by omega)) (fun e => absurd rfl e)
theorem lo_36 {G : aw_G} {b L i k n : Nat} {xs : Nat → Int32} {Ω : aw_O} {I : aw_MI} {J : aw_MJ} (R : Rel Ω I J) (hi : i + 6 ≤ L) (hL : L ≤ 3072) (hk : k + 1 ≤ 600000) (hn : n + 3 ≤ 7302249) (K : ∀ Ω' I' J' k' n', Rel Ω' I' J' → k' ≤ k + 1 → n' ≤ n + 3 → AW G (mL b L xs) 0 1000 600000 7302249 (aw_QI lQ) Ω' I' J' k' n' [.ref b, .ref (aw_ad G 0), .ref (aw_ad G 65), .int (nI i)] 1374 []) : AW G (mL b L xs) 0 1000 600000 7302249 (aw_QI lQ) Ω I J k n [.ref b, .ref (aw_ad G 0), .ref (aw_ad G 65), .int (nI i)] 1338 [] := by
  refine aw_aload_n dL_law_1338 rfl ?_
  refine aw_cvI (As := []) (d' := 999) dL_law_1339 lkL_171 R.1.1.o (by omega) rfl rfl (Nat.le_of_ble_eq_true rfl) ⟨by omega, by omega⟩ (st_back R (by omega) (fun z I1 J1 pr => ?_))
  refine aw_pc (pc2 := 1342) rfl ?_
  refine aw_aload_n dL_law_1342 rfl ?_
  refine aw_cvI (As := []) (d' := 999) dL_law_1343 lkL_174 R.1.2.1.o (by omega) rfl rfl (Nat.le_of_ble_eq_true rfl) ⟨by omega, by omega⟩ (pr _ (fun Ω2 I2 J2 R2 _ => ?_))
  refine aw_pc (pc2 := 1346) rfl ?_
  exact aw_icmp_eq (t := 1374) dL_law_1346 (by decide) (fun _ => K _ _ _ _ _ R2 (by omega) (by omega)) (fun e => absurd rfl e)
theorem lo_37 {G : aw_G} {b L i k n : Nat} {xs : Nat → Int32} {Ω : aw_O} {I : aw_MI} {J : aw_MJ} (R : Rel Ω I J) (hi : i + 6 ≤ L) (hL : L ≤ 3072) (hk : k + 1 ≤ 600000) (hn : n + 3 ≤ 7302249) (K : ∀ Ω' I' J' k' n', Rel Ω' I' J' → k' ≤ k + 1 → n' ≤ n + 3 → AW G (mL b L xs) 0 1000 600000 7302249 (aw_QI lQ) Ω' I' J' k' n' [.ref b, .ref (aw_ad G 0), .ref (aw_ad G 65), .int (nI i)] 1374 []) : AW G (mL b L xs) 0 1000 600000 7302249 (aw_QI lQ) Ω I J k n [.ref b, .ref (aw_ad G 0), .ref (aw_ad G 65), .int (nI i)] 1351 [] := by
  refine aw_aload_n dL_law_1351 rfl ?_
  refine aw_aload_n dL_law_1352 rfl ?_
  refine aw_iload_n dL_law_1353 rfl ?_
  refine aw_iconst (v := nI 1) dL_law_1354 (by decide) ?_
  refine aw_iaddN dL_law_1355 ?_
  refine aw_pc (pc2 := 1356) rfl ?_
  refine aw_sld (i := i + 1) (List.mem_singleton.mpr rfl) dL_law_1356 (by omega) (by omega) ?_
  refine aw_cvI (As := [_]) (d' := 999) dL_law_1357 lkL_175 R.1.1.o (by omega) rfl rfl (Nat.le_of_ble_eq_true rfl) ⟨by omega, by omega⟩ (st_count R (by omega) (fun z I1 J1 pr => ?_))
  refine aw_pc (pc2 := 1360) rfl ?_
  refine aw_aload_n dL_law_1360 rfl ?_
  refine aw_aload_n dL_law_1361 rfl ?_
  refine aw_iload_n dL_law_1362 rfl ?_
  refine aw_pc (pc2 := 1363) rfl ?_
  refine aw_iconst (v := nI 1) dL_law_1363 (by decide) ?_
  refine aw_iaddN dL_law_1364 ?_
  refine aw_sld (i := i + 1) (List.mem_singleton.mpr rfl) dL_law_1365 (by omega) (by omega) ?_
  refine aw_cvI (As := [_]) (d' := 999) dL_law_1366 lkL_178 R.1.2.1.o (by omega) rfl rfl (Nat.le_of_ble_eq_true rfl) ⟨by omega, by omega⟩ (pr _ (fun Ω2 I2 J2 R2 _ => ?_))
  refine aw_pc (pc2 := 1369) rfl ?_
  exact aw_icmp_eq (t := 1374) dL_law_1369 (by decide) (fun _ => K _ _ _ _ _ R2 (by omega) (by omega)) (fun e => absurd rfl e)
