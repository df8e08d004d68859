/-- law, whatever its name -/
abbrev mLn (nm : MethodName) : aY := (RL, nm, cL_law, 4, ret)
section LAW
variable {nm : MethodName} {z : Nat × (Nat → Int32)} {Q : Option Value → Nat → aM → Prop} {p p' : Bool} {I : Nat → Nat → Int32} {sp : Nat → Nat}
set_option maxRecDepth 20000 in
theorem lc_corner (i : Nat) (hz : z.1 < 2 ^ 31) (hi : i + 6 ≤ z.1) (Rx : Room) (k1 k2 : Nat) (hM : aRuns mX11_corner Rx [.ref 0] (nn p) (MM I sp p) (KM p' mX12_corner (rK 1) [.ref 101])) (hok : a_ok mX11_corner Rx room_1) (hf : k1 + Rx.cells ≤ room_1.cells ∧ k2 + Rx.slots ≤ room_1.slots) (hK : ∀ J sp', Inv J sp' p' → aE z (mLn nm) room_1 Q 1363 [some (.ref 100000), some (.ref 0), some (.ref 101), some (.int (nI i))] [] (nn p') (MM J sp' p') (k1 + Rx.cells) (k2 + Rx.slots)) : aE z (mLn nm) room_1 Q 196 [some (.ref 100000), some (.ref 0), some (.ref 101), some (.int (nI i))] [] (nn p) (MM I sp p) k1 k2 := by
  refine aE_aload_n dL_law_196 rfl rfl ?_
  refine aE_callV dL_law_197 lk_L_13 mv_X11_corner (hM) rfl (lt_nn (by decide)) rfl rfl hok (Nat.le_of_ble_eq_true rfl) hf ?_
  rintro r n' m' ⟨v, J, sp', rfl, rfl, rfl, hm⟩
  refine aE_aload_n dL_law_200 rfl rfl ?_
  refine aE_callV dL_law_201 lk_L_17 mv_X12_corner (hm) rfl (lt_nn (by decide)) rfl rfl ⟨by decide, by decide⟩ (Nat.le_of_ble_eq_true rfl) ⟨hf.1, hf.2⟩ ?_
  rintro r n' m' ⟨K, rfl, rfl, rfl, hI⟩
  refine aE_icmp_eq (tgt := 1363) dL_law_204 (by decide) (fun h204 => ?_) (fun h204 => absurd (rfl) h204)
  exact hK K sp' hI
set_option maxRecDepth 20000 in
theorem lc_street (i : Nat) (hz : z.1 < 2 ^ 31) (hi : i + 6 ≤ z.1) (Rx : Room) (k1 k2 : Nat) (hM : aRuns mX11_street Rx [.ref 0, .int (z.2 (i + 1)), .int (z.2 (i + 2)), .int (z.2 (i + 3))] (nn p) (MM I sp p) (KM p' mX12_street (rK 2) [.ref 101, .int (z.2 (i + 1)), .int (z.2 (i + 2)), .int (z.2 (i + 3))])) (hok : a_ok mX11_street Rx room_1) (hf : k1 + Rx.cells ≤ room_1.cells ∧ k2 + Rx.slots ≤ room_1.slots) (hK : ∀ J sp', Inv J sp' p' → aE z (mLn nm) room_1 Q 1363 [some (.ref 100000), some (.ref 0), some (.ref 101), some (.int (nI i))] [] (nn p') (MM J sp' p') (k1 + Rx.cells) (k2 + Rx.slots)) : aE z (mLn nm) room_1 Q 209 [some (.ref 100000), some (.ref 0), some (.ref 101), some (.int (nI i))] [] (nn p) (MM I sp p) k1 k2 := by
  refine aE_aload_n dL_law_209 rfl rfl ?_
  refine aE_aload_n dL_law_210 rfl rfl ?_
  refine aE_iload_n dL_law_211 rfl rfl ?_
  refine aE_iconst (v := 1) dL_law_212 rfl ?_
  refine aE_iadd dL_law_213 ?_
  refine aE_sld dL_law_214 (nI_add i 1) hz (by omega) ?_
  refine aE_aload_n dL_law_215 rfl rfl ?_
  refine aE_iload_n dL_law_216 rfl rfl ?_
  refine aE_iconst (v := 2) dL_law_217 rfl ?_
  refine aE_iadd dL_law_218 ?_
  refine aE_sld dL_law_219 (nI_add i 2) hz (by omega) ?_
  refine aE_aload_n dL_law_220 rfl rfl ?_
  refine aE_iload_n dL_law_221 rfl rfl ?_
  refine aE_iconst (v := 3) dL_law_222 rfl ?_
  refine aE_iadd dL_law_223 ?_
  refine aE_sld dL_law_224 (nI_add i 3) hz (by omega) ?_
  refine aE_callV dL_law_225 lk_L_18 mv_X11_street (hM) rfl (lt_nn (by decide)) rfl rfl hok (Nat.le_of_ble_eq_true rfl) hf ?_
  rintro r n' m' ⟨v, J, sp', rfl, rfl, rfl, hm⟩
  refine aE_aload_n dL_law_228 rfl rfl ?_
  refine aE_aload_n dL_law_229 rfl rfl ?_
  refine aE_iload_n dL_law_230 rfl rfl ?_
  refine aE_iconst (v := 1) dL_law_231 rfl ?_
  refine aE_iadd dL_law_232 ?_
  refine aE_sld dL_law_233 (nI_add i 1) hz (by omega) ?_
  refine aE_aload_n dL_law_234 rfl rfl ?_
  refine aE_iload_n dL_law_235 rfl rfl ?_
  refine aE_iconst (v := 2) dL_law_236 rfl ?_
  refine aE_iadd dL_law_237 ?_
  refine aE_sld dL_law_238 (nI_add i 2) hz (by omega) ?_
  refine aE_aload_n dL_law_239 rfl rfl ?_
  refine aE_iload_n dL_law_240 rfl rfl ?_
  refine aE_iconst (v := 3) dL_law_241 rfl ?_
  refine aE_iadd dL_law_242 ?_
  refine aE_sld dL_law_243 (nI_add i 3) hz (by omega) ?_
  refine aE_callV dL_law_244 lk_L_22 mv_X12_street (hm) rfl (lt_nn (by decide)) rfl rfl ⟨by decide, by decide⟩ (Nat.le_of_ble_eq_true rfl) ⟨hf.1, hf.2⟩ ?_
  rintro r n' m' ⟨K, rfl, rfl, rfl, hI⟩
  refine aE_icmp_eq (tgt := 1363) dL_law_247 (by decide) (fun h247 => ?_) (fun h247 => absurd (rfl) h247)
  exact hK K sp' hI
set_option maxRecDepth 20000 in
theorem lc_shut (i : Nat) (hz : z.1 < 2 ^ 31) (hi : i + 6 ≤ z.1) (Rx : Room) (k1 k2 : Nat) (hM : ∀ b : Int32, b = 0 ∨ b = 1 → aRuns mX11_shut Rx [.ref 0, .int (z.2 (i + 1)), .int b] (nn p) (MM I sp p) (KM p' mX12_shut (rK 1) [.ref 101, .int (z.2 (i + 1)), .int b])) (hok : a_ok mX11_shut Rx room_1) (hf : k1 + Rx.cells ≤ room_1.cells ∧ k2 + Rx.slots ≤ room_1.slots) (hK : ∀ J sp', Inv J sp' p' → aE z (mLn nm) room_1 Q 1363 [some (.ref 100000), some (.ref 0), some (.ref 101), some (.int (nI i))] [] (nn p') (MM J sp' p') (k1 + Rx.cells) (k2 + Rx.slots)) : aE z (mLn nm) room_1 Q 252 [some (.ref 100000), some (.ref 0), some (.ref 101), some (.int (nI i))] [] (nn p) (MM I sp p) k1 k2 := by
  by_cases hb : z.2 (i + 2) = 0
  · skip
    refine aE_aload_n dL_law_252 rfl rfl ?_
    refine aE_aload_n dL_law_253 rfl rfl ?_
    refine aE_iload_n dL_law_254 rfl rfl ?_
    refine aE_iconst (v := 1) dL_law_255 rfl ?_
    refine aE_iadd dL_law_256 ?_
    refine aE_sld dL_law_257 (nI_add i 1) hz (by omega) ?_
    refine aE_aload_n dL_law_258 rfl rfl ?_
    refine aE_iload_n dL_law_259 rfl rfl ?_
    refine aE_iconst (v := 2) dL_law_260 rfl ?_
    refine aE_iadd dL_law_261 ?_
    refine aE_sld dL_law_262 (nI_add i 2) hz (by omega) ?_
    refine aE_if_eq (tgt := 270) dL_law_263 (by decide) (fun h263 => ?_) (fun h263 => absurd (hb) h263)
    refine aE_iconst (v := 0) dL_law_270 rfl ?_
    refine aE_callV dL_law_271 lk_L_23 mv_X11_shut (hM 0 (Or.inl rfl)) rfl (lt_nn (by decide)) rfl rfl hok (Nat.le_of_ble_eq_true rfl) hf ?_
    rintro r n' m' ⟨v, J, sp', rfl, rfl, rfl, hm⟩
    refine aE_aload_n dL_law_274 rfl rfl ?_
    refine aE_aload_n dL_law_275 rfl rfl ?_
    refine aE_iload_n dL_law_276 rfl rfl ?_
    refine aE_iconst (v := 1) dL_law_277 rfl ?_
    refine aE_iadd dL_law_278 ?_
    refine aE_sld dL_law_279 (nI_add i 1) hz (by omega) ?_
    refine aE_aload_n dL_law_280 rfl rfl ?_
    refine aE_iload_n dL_law_281 rfl rfl ?_
    refine aE_iconst (v := 2) dL_law_282 rfl ?_
    refine aE_iadd dL_law_283 ?_
    refine aE_sld dL_law_284 (nI_add i 2) hz (by omega) ?_
    refine aE_if_eq (tgt := 292) dL_law_285 (by decide) (fun h285 => ?_) (fun h285 => absurd (hb) h285)
    refine aE_iconst (v := 0) dL_law_292 rfl ?_
    refine aE_callV dL_law_293 lk_L_27 mv_X12_shut (hm) rfl (lt_nn (by decide)) rfl rfl ⟨by decide, by decide⟩ (Nat.le_of_ble_eq_true rfl) ⟨hf.1, hf.2⟩ ?_
    rintro r n' m' ⟨K, rfl, rfl, rfl, hI⟩
    refine aE_icmp_eq (tgt := 1363) dL_law_296 (by decide) (fun h296 => ?_) (fun h296 => absurd (rfl) h296)
    exact hK K sp' hI
  · skip
    refine aE_aload_n dL_law_252 rfl rfl ?_
    refine aE_aload_n dL_law_253 rfl rfl ?_
    refine aE_iload_n dL_law_254 rfl rfl ?_
    refine aE_iconst (v := 1) dL_law_255 rfl ?_
    refine aE_iadd dL_law_256 ?_
    refine aE_sld dL_law_257 (nI_add i 1) hz (by omega) ?_
    refine aE_aload_n dL_law_258 rfl rfl ?_
    refine aE_iload_n dL_law_259 rfl rfl ?_
    refine aE_iconst (v := 2) dL_law_260 rfl ?_
    refine aE_iadd dL_law_261 ?_
    refine aE_sld dL_law_262 (nI_add i 2) hz (by omega) ?_
    refine aE_if_eq (tgt := 270) dL_law_263 (by decide) (fun h263 => absurd h263 (hb)) (fun h263 => ?_)
    refine aE_iconst (v := 1) dL_law_266 rfl ?_
    refine aE_goto (tgt := 271) dL_law_267 (by decide) ?_
    refine aE_callV dL_law_271 lk_L_23 mv_X11_shut (hM 1 (Or.inr rfl)) rfl (lt_nn (by decide)) rfl rfl hok (Nat.le_of_ble_eq_true rfl) hf ?_
    rintro r n' m' ⟨v, J, sp', rfl, rfl, rfl, hm⟩
    refine aE_aload_n dL_law_274 rfl rfl ?_
    refine aE_aload_n dL_law_275 rfl rfl ?_
    refine aE_iload_n dL_law_276 rfl rfl ?_
    refine aE_iconst (v := 1) dL_law_277 rfl ?_
    refine aE_iadd dL_law_278 ?_
    refine aE_sld dL_law_279 (nI_add i 1) hz (by omega) ?_
    refine aE_aload_n dL_law_280 rfl rfl ?_
    refine aE_iload_n dL_law_281 rfl rfl ?_
    refine aE_iconst (v := 2) dL_law_282 rfl ?_
    refine aE_iadd dL_law_283 ?_
    refine aE_sld dL_law_284 (nI_add i 2) hz (by omega) ?_
    refine aE_if_eq (tgt := 292) dL_law_285 (by decide) (fun h285 => absurd h285 (hb)) (fun h285 => ?_)
    refine aE_iconst (v := 1) dL_law_288 rfl ?_
    refine aE_goto (tgt := 293) dL_law_289 (by decide) ?_
    refine aE_callV dL_law_293 lk_L_27 mv_X12_shut (hm) rfl (lt_nn (by decide)) rfl rfl ⟨by decide, by decide⟩ (Nat.le_of_ble_eq_true rfl) ⟨hf.1, hf.2⟩ ?_
    rintro r n' m' ⟨K, rfl, rfl, rfl, hI⟩
    refine aE_icmp_eq (tgt := 1363) dL_law_296 (by decide) (fun h296 => ?_) (fun h296 => absurd (rfl) h296)
    exact hK K sp' hI
set_option maxRecDepth 20000 in
theorem lc_far (i : Nat) (hz : z.1 < 2 ^ 31) (hi : i + 6 ≤ z.1) (Rx : Room) (k1 k2 : Nat) (hM : aRuns mX11_far Rx [.ref 0, .int (z.2 (i + 1)), .int (z.2 (i + 2))] (nn p) (MM I sp p) (KM p' mX12_far (rK 2) [.ref 101, .int (z.2 (i + 1)), .int (z.2 (i + 2))])) (hok : a_ok mX11_far Rx room_1) (hf : k1 + Rx.cells ≤ room_1.cells ∧ k2 + Rx.slots ≤ room_1.slots) (hK : ∀ J sp', Inv J sp' p' → aE z (mLn nm) room_1 Q 1363 [some (.ref 100000), some (.ref 0), some (.ref 101), some (.int (nI i))] [] (nn p') (MM J sp' p') (k1 + Rx.cells) (k2 + Rx.slots)) : aE z (mLn nm) room_1 Q 301 [some (.ref 100000), some (.ref 0), some (.ref 101), some (.int (nI i))] [] (nn p) (MM I sp p) k1 k2 := by
  refine aE_aload_n dL_law_301 rfl rfl ?_
  refine aE_aload_n dL_law_302 rfl rfl ?_
  refine aE_iload_n dL_law_303 rfl rfl ?_
  refine aE_iconst (v := 1) dL_law_304 rfl ?_
  refine aE_iadd dL_law_305 ?_
  refine aE_sld dL_law_306 (nI_add i 1) hz (by omega) ?_
  refine aE_aload_n dL_law_307 rfl rfl ?_
  refine aE_iload_n dL_law_308 rfl rfl ?_
  refine aE_iconst (v := 2) dL_law_309 rfl ?_
  refine aE_iadd dL_law_310 ?_
  refine aE_sld dL_law_311 (nI_add i 2) hz (by omega) ?_
  refine aE_callV dL_law_312 lk_L_28 mv_X11_far (hM) rfl (lt_nn (by decide)) rfl rfl hok (Nat.le_of_ble_eq_true rfl) hf ?_
  rintro r n' m' ⟨v, J, sp', rfl, rfl, rfl, hm⟩
  refine aE_aload_n dL_law_315 rfl rfl ?_
  refine aE_aload_n dL_law_316 rfl rfl ?_
  refine aE_iload_n dL_law_317 rfl rfl ?_
  refine aE_iconst (v := 1) dL_law_318 rfl ?_
  refine aE_iadd dL_law_319 ?_
  refine aE_sld dL_law_320 (nI_add i 1) hz (by omega) ?_
  refine aE_aload_n dL_law_321 rfl rfl ?_
  refine aE_iload_n dL_law_322 rfl rfl ?_
  refine aE_iconst (v := 2) dL_law_323 rfl ?_
  refine aE_iadd dL_law_324 ?_
  refine aE_sld dL_law_325 (nI_add i 2) hz (by omega) ?_
  refine aE_callV dL_law_326 lk_L_32 mv_X12_far (hm) rfl (lt_nn (by decide)) rfl rfl ⟨by decide, by decide⟩ (Nat.le_of_ble_eq_true rfl) ⟨hf.1, hf.2⟩ ?_
  rintro r n' m' ⟨K, rfl, rfl, rfl, hI⟩
  refine aE_icmp_eq (tgt := 1363) dL_law_329 (by decide) (fun h329 => ?_) (fun h329 => absurd (rfl) h329)
  exact hK K sp' hI
set_option maxRecDepth 20000 in
theorem lc_school (i : Nat) (hz : z.1 < 2 ^ 31) (hi : i + 6 ≤ z.1) (Rx : Room) (k1 k2 : Nat) (hM : aRuns mX11_school Rx [.ref 0, .int (z.2 (i + 1)), .int (z.2 (i + 2))] (nn p) (MM I sp p) (KM p' mX12_school (rK 2) [.ref 101, .int (z.2 (i + 1)), .int (z.2 (i + 2))])) (hok : a_ok mX11_school Rx room_1) (hf : k1 + Rx.cells ≤ room_1.cells ∧ k2 + Rx.slots ≤ room_1.slots) (hK : ∀ J sp', Inv J sp' p' → aE z (mLn nm) room_1 Q 1363 [some (.ref 100000), some (.ref 0), some (.ref 101), some (.int (nI i))] [] (nn p') (MM J sp' p') (k1 + Rx.cells) (k2 + Rx.slots)) : aE z (mLn nm) room_1 Q 334 [some (.ref 100000), some (.ref 0), some (.ref 101), some (.int (nI i))] [] (nn p) (MM I sp p) k1 k2 := by
  refine aE_aload_n dL_law_334 rfl rfl ?_
  refine aE_aload_n dL_law_335 rfl rfl ?_
  refine aE_iload_n dL_law_336 rfl rfl ?_
  refine aE_iconst (v := 1) dL_law_337 rfl ?_
  refine aE_iadd dL_law_338 ?_
  refine aE_sld dL_law_339 (nI_add i 1) hz (by omega) ?_
  refine aE_aload_n dL_law_340 rfl rfl ?_
  refine aE_iload_n dL_law_341 rfl rfl ?_
  refine aE_iconst (v := 2) dL_law_342 rfl ?_
  refine aE_iadd dL_law_343 ?_
  refine aE_sld dL_law_344 (nI_add i 2) hz (by omega) ?_
  refine aE_callV dL_law_345 lk_L_33 mv_X11_school (hM) rfl (lt_nn (by decide)) rfl rfl hok (Nat.le_of_ble_eq_true rfl) hf ?_
  rintro r n' m' ⟨v, J, sp', rfl, rfl, rfl, hm⟩
  refine aE_aload_n dL_law_348 rfl rfl ?_
  refine aE_aload_n dL_law_349 rfl rfl ?_
  refine aE_iload_n dL_law_350 rfl rfl ?_
  refine aE_iconst (v := 1) dL_law_351 rfl ?_
  refine aE_iadd dL_law_352 ?_
  refine aE_sld dL_law_353 (nI_add i 1) hz (by omega) ?_
  refine aE_aload_n dL_law_354 rfl rfl ?_
  refine aE_iload_n dL_law_355 rfl rfl ?_
  refine aE_iconst (v := 2) dL_law_356 rfl ?_
  refine aE_iadd dL_law_357 ?_
  refine aE_sld dL_law_358 (nI_add i 2) hz (by omega) ?_
  refine aE_callV dL_law_359 lk_L_36 mv_X12_school (hm) rfl (lt_nn (by decide)) rfl rfl ⟨by decide, by decide⟩ (Nat.le_of_ble_eq_true rfl) ⟨hf.1, hf.2⟩ ?_
  rintro r n' m' ⟨K, rfl, rfl, rfl, hI⟩
  refine aE_icmp_eq (tgt := 1363) dL_law_362 (by decide) (fun h362 => ?_) (fun h362 => absurd (rfl) h362)
  exact hK K sp' hI
set_option maxRecDepth 20000 in
theorem lc_as (i : Nat) (hz : z.1 < 2 ^ 31) (hi : i + 6 ≤ z.1) (Rx : Room) (k1 k2 : Nat) (hM : aRuns mX11_as Rx [.ref 0, .int (z.2 (i + 1)), .int (z.2 (i + 2))] (nn p) (MM I sp p) (KM p' mX12_as (rK 2) [.ref 101, .int (z.2 (i + 1)), .int (z.2 (i + 2))])) (hok : a_ok mX11_as Rx room_1) (hf : k1 + Rx.cells ≤ room_1.cells ∧ k2 + Rx.slots ≤ room_1.slots) (hK : ∀ J sp', Inv J sp' p' → aE z (mLn nm) room_1 Q 1363 [some (.ref 100000), some (.ref 0), some (.ref 101), some (.int (nI i))] [] (nn p') (MM J sp' p') (k1 + Rx.cells) (k2 + Rx.slots)) : aE z (mLn nm) room_1 Q 367 [some (.ref 100000), some (.ref 0), some (.ref 101), some (.int (nI i))] [] (nn p) (MM I sp p) k1 k2 := by
  refine aE_aload_n dL_law_367 rfl rfl ?_
  refine aE_aload_n dL_law_368 rfl rfl ?_
  refine aE_iload_n dL_law_369 rfl rfl ?_
  refine aE_iconst (v := 1) dL_law_370 rfl ?_
  refine aE_iadd dL_law_371 ?_
  refine aE_sld dL_law_372 (nI_add i 1) hz (by omega) ?_
  refine aE_aload_n dL_law_373 rfl rfl ?_
  refine aE_iload_n dL_law_374 rfl rfl ?_
  refine aE_iconst (v := 2) dL_law_375 rfl ?_
  refine aE_iadd dL_law_376 ?_
  refine aE_sld dL_law_377 (nI_add i 2) hz (by omega) ?_
  refine aE_callV dL_law_378 lk_L_37 mv_X11_as (hM) rfl (lt_nn (by decide)) rfl rfl hok (Nat.le_of_ble_eq_true rfl) hf ?_
  rintro r n' m' ⟨v, J, sp', rfl, rfl, rfl, hm⟩
  refine aE_aload_n dL_law_381 rfl rfl ?_
  refine aE_aload_n dL_law_382 rfl rfl ?_
  refine aE_iload_n dL_law_383 rfl rfl ?_
  refine aE_iconst (v := 1) dL_law_384 rfl ?_
  refine aE_iadd dL_law_385 ?_
  refine aE_sld dL_law_386 (nI_add i 1) hz (by omega) ?_
  refine aE_aload_n dL_law_387 rfl rfl ?_
  refine aE_iload_n dL_law_388 rfl rfl ?_
  refine aE_iconst (v := 2) dL_law_389 rfl ?_
  refine aE_iadd dL_law_390 ?_
  refine aE_sld dL_law_391 (nI_add i 2) hz (by omega) ?_
  refine aE_callV dL_law_392 lk_L_40 mv_X12_as (hm) rfl (lt_nn (by decide)) rfl rfl ⟨by decide, by decide⟩ (Nat.le_of_ble_eq_true rfl) ⟨hf.1, hf.2⟩ ?_
  rintro r n' m' ⟨K, rfl, rfl, rfl, hI⟩
  refine aE_icmp_eq (tgt := 1363) dL_law_395 (by decide) (fun h395 => ?_) (fun h395 => absurd (rfl) h395)
  exact hK K sp' hI
set_option maxRecDepth 20000 in
theorem lc_of (i : Nat) (hz : z.1 < 2 ^ 31) (hi : i + 6 ≤ z.1) (Rx : Room) (k1 k2 : Nat) (hM : aRuns mX11_of Rx [.ref 0, .int (z.2 (i + 1)), .int (z.2 (i + 2))] (nn p) (MM I sp p) (KM p' mX12_of (rK 2) [.ref 101, .int (z.2 (i + 1)), .int (z.2 (i + 2))])) (hok : a_ok mX11_of Rx room_1) (hf : k1 + Rx.cells ≤ room_1.cells ∧ k2 + Rx.slots ≤ room_1.slots) (hK : ∀ J sp', Inv J sp' p' → aE z (mLn nm) room_1 Q 1363 [some (.ref 100000), some (.ref 0), some (.ref 101), some (.int (nI i))] [] (nn p') (MM J sp' p') (k1 + Rx.cells) (k2 + Rx.slots)) : aE z (mLn nm) room_1 Q 400 [some (.ref 100000), some (.ref 0), some (.ref 101), some (.int (nI i))] [] (nn p) (MM I sp p) k1 k2 := by
  refine aE_aload_n dL_law_400 rfl rfl ?_
  refine aE_aload_n dL_law_401 rfl rfl ?_
  refine aE_iload_n dL_law_402 rfl rfl ?_
  refine aE_iconst (v := 1) dL_law_403 rfl ?_
  refine aE_iadd dL_law_404 ?_
  refine aE_sld dL_law_405 (nI_add i 1) hz (by omega) ?_
  refine aE_aload_n dL_law_406 rfl rfl ?_
  refine aE_iload_n dL_law_407 rfl rfl ?_
  refine aE_iconst (v := 2) dL_law_408 rfl ?_
  refine aE_iadd dL_law_409 ?_
  refine aE_sld dL_law_410 (nI_add i 2) hz (by omega) ?_
  refine aE_callV dL_law_411 lk_L_41 mv_X11_of (hM) rfl (lt_nn (by decide)) rfl rfl hok (Nat.le_of_ble_eq_true rfl) hf ?_
  rintro r n' m' ⟨v, J, sp', rfl, rfl, rfl, hm⟩
  refine aE_aload_n dL_law_414 rfl rfl ?_
  refine aE_aload_n dL_law_415 rfl rfl ?_
  refine aE_iload_n dL_law_416 rfl rfl ?_
  refine aE_iconst (v := 1) dL_law_417 rfl ?_
  refine aE_iadd dL_law_418 ?_
  refine aE_sld dL_law_419 (nI_add i 1) hz (by omega) ?_
  refine aE_aload_n dL_law_420 rfl rfl ?_
  refine aE_iload_n dL_law_421 rfl rfl ?_
  refine aE_iconst (v := 2) dL_law_422 rfl ?_
  refine aE_iadd dL_law_423 ?_
  refine aE_sld dL_law_424 (nI_add i 2) hz (by omega) ?_
  refine aE_callV dL_law_425 lk_L_44 mv_X12_of (hm) rfl (lt_nn (by decide)) rfl rfl ⟨by decide, by decide⟩ (Nat.le_of_ble_eq_true rfl) ⟨hf.1, hf.2⟩ ?_
  rintro r n' m' ⟨K, rfl, rfl, rfl, hI⟩
  refine aE_icmp_eq (tgt := 1363) dL_law_428 (by decide) (fun h428 => ?_) (fun h428 => absurd (rfl) h428)
  exact hK K sp' hI
set_option maxRecDepth 20000 in
theorem lc_bell (i : Nat) (hz : z.1 < 2 ^ 31) (hi : i + 6 ≤ z.1) (Rx : Room) (k1 k2 : Nat) (hM : aRuns mX11_bell Rx [.ref 0, .int (z.2 (i + 1)), .int (z.2 (i + 2))] (nn p) (MM I sp p) (KM p' mX12_bell (rK 2) [.ref 101, .int (z.2 (i + 1)), .int (z.2 (i + 2))])) (hok : a_ok mX11_bell Rx room_1) (hf : k1 + Rx.cells ≤ room_1.cells ∧ k2 + Rx.slots ≤ room_1.slots) (hK : ∀ J sp', Inv J sp' p' → aE z (mLn nm) room_1 Q 1363 [some (.ref 100000), some (.ref 0), some (.ref 101), some (.int (nI i))] [] (nn p') (MM J sp' p') (k1 + Rx.cells) (k2 + Rx.slots)) : aE z (mLn nm) room_1 Q 433 [some (.ref 100000), some (.ref 0), some (.ref 101), some (.int (nI i))] [] (nn p) (MM I sp p) k1 k2 := by
  refine aE_aload_n dL_law_433 rfl rfl ?_
  refine aE_aload_n dL_law_434 rfl rfl ?_
  refine aE_iload_n dL_law_435 rfl rfl ?_
  refine aE_iconst (v := 1) dL_law_436 rfl ?_
  refine aE_iadd dL_law_437 ?_
  refine aE_sld dL_law_438 (nI_add i 1) hz (by omega) ?_
  refine aE_aload_n dL_law_439 rfl rfl ?_
  refine aE_iload_n dL_law_440 rfl rfl ?_
  refine aE_iconst (v := 2) dL_law_441 rfl ?_
  refine aE_iadd dL_law_442 ?_
  refine aE_sld dL_law_443 (nI_add i 2) hz (by omega) ?_
  refine aE_callV dL_law_444 lk_L_45 mv_X11_bell (hM) rfl (lt_nn (by decide)) rfl rfl hok (Nat.le_of_ble_eq_true rfl) hf ?_
  rintro r n' m' ⟨v, J, sp', rfl, rfl, rfl, hm⟩
  refine aE_aload_n dL_law_447 rfl rfl ?_
  refine aE_aload_n dL_law_448 rfl rfl ?_
  refine aE_iload_n dL_law_449 rfl rfl ?_
  refine aE_iconst (v := 1) dL_law_450 rfl ?_
  refine aE_iadd dL_law_451 ?_
  refine aE_sld dL_law_452 (nI_add i 1) hz (by omega) ?_
  refine aE_aload_n dL_law_453 rfl rfl ?_
  refine aE_iload_n dL_law_454 rfl rfl ?_
  refine aE_iconst (v := 2) dL_law_455 rfl ?_
  refine aE_iadd dL_law_456 ?_
  refine aE_sld dL_law_457 (nI_add i 2) hz (by omega) ?_
  refine aE_callV dL_law_458 lk_L_48 mv_X12_bell (hm) rfl (lt_nn (by decide)) rfl rfl ⟨by decide, by decide⟩ (Nat.le_of_ble_eq_true rfl) ⟨hf.1, hf.2⟩ ?_
  rintro r n' m' ⟨K, rfl, rfl, rfl, hI⟩
  refine aE_icmp_eq (tgt := 1363) dL_law_461 (by decide) (fun h461 => ?_) (fun h461 => absurd (rfl) h461)
  exact hK K sp' hI
set_option maxRecDepth 20000 in
theorem lc_wish (i : Nat) (hz : z.1 < 2 ^ 31) (hi : i + 6 ≤ z.1) (Rx : Room) (k1 k2 : Nat) (hM : aRuns mX11_wish Rx [.ref 0, .int (z.2 (i + 1)), .int (z.2 (i + 2))] (nn p) (MM I sp p) (KM p' mX12_wish (rK 2) [.ref 101, .int (z.2 (i + 1)), .int (z.2 (i + 2))])) (hok : a_ok mX11_wish Rx room_1) (hf : k1 + Rx.cells ≤ room_1.cells ∧ k2 + Rx.slots ≤ room_1.slots) (hK : ∀ J sp', Inv J sp' p' → aE z (mLn nm) room_1 Q 1363 [some (.ref 100000), some (.ref 0), some (.ref 101), some (.int (nI i))] [] (nn p') (MM J sp' p') (k1 + Rx.cells) (k2 + Rx.slots)) : aE z (mLn nm) room_1 Q 466 [some (.ref 100000), some (.ref 0), some (.ref 101), some (.int (nI i))] [] (nn p) (MM I sp p) k1 k2 := by
  refine aE_aload_n dL_law_466 rfl rfl ?_
  refine aE_aload_n dL_law_467 rfl rfl ?_
  refine aE_iload_n dL_law_468 rfl rfl ?_
  refine aE_iconst (v := 1) dL_law_469 rfl ?_
  refine aE_iadd dL_law_470 ?_
  refine aE_sld dL_law_471 (nI_add i 1) hz (by omega) ?_
  refine aE_aload_n dL_law_472 rfl rfl ?_
  refine aE_iload_n dL_law_473 rfl rfl ?_
  refine aE_iconst (v := 2) dL_law_474 rfl ?_
  refine aE_iadd dL_law_475 ?_
  refine aE_sld dL_law_476 (nI_add i 2) hz (by omega) ?_
  refine aE_callV dL_law_477 lk_L_49 mv_X11_wish (hM) rfl (lt_nn (by decide)) rfl rfl hok (Nat.le_of_ble_eq_true rfl) hf ?_
  rintro r n' m' ⟨v, J, sp', rfl, rfl, rfl, hm⟩
  refine aE_aload_n dL_law_480 rfl rfl ?_
  refine aE_aload_n dL_law_481 rfl rfl ?_
  refine aE_iload_n dL_law_482 rfl rfl ?_
  refine aE_iconst (v := 1) dL_law_483 rfl ?_
  refine aE_iadd dL_law_484 ?_
  refine aE_sld dL_law_485 (nI_add i 1) hz (by omega) ?_
  refine aE_aload_n dL_law_486 rfl rfl ?_
  refine aE_iload_n dL_law_487 rfl rfl ?_
  refine aE_iconst (v := 2) dL_law_488 rfl ?_
  refine aE_iadd dL_law_489 ?_
  refine aE_sld dL_law_490 (nI_add i 2) hz (by omega) ?_
  refine aE_callV dL_law_491 lk_L_52 mv_X12_wish (hm) rfl (lt_nn (by decide)) rfl rfl ⟨by decide, by decide⟩ (Nat.le_of_ble_eq_true rfl) ⟨hf.1, hf.2⟩ ?_
  rintro r n' m' ⟨K, rfl, rfl, rfl, hI⟩
  refine aE_icmp_eq (tgt := 1363) dL_law_494 (by decide) (fun h494 => ?_) (fun h494 => absurd (rfl) h494)
  exact hK K sp' hI
set_option maxRecDepth 20000 in
theorem lc_stop (i : Nat) (hz : z.1 < 2 ^ 31) (hi : i + 6 ≤ z.1) (Rx : Room) (k1 k2 : Nat) (hM : aRuns mX11_stop Rx [.ref 0, .int (z.2 (i + 1)), .int (z.2 (i + 2)), .int (z.2 (i + 3)), .int (z.2 (i + 4))] (nn p) (MM I sp p) (KM p' mX12_stop (rK 2) [.ref 101, .int (z.2 (i + 1)), .int (z.2 (i + 2)), .int (z.2 (i + 3)), .int (z.2 (i + 4))])) (hok : a_ok mX11_stop Rx room_1) (hf : k1 + Rx.cells ≤ room_1.cells ∧ k2 + Rx.slots ≤ room_1.slots) (hK : ∀ J sp', Inv J sp' p' → aE z (mLn nm) room_1 Q 1363 [some (.ref 100000), some (.ref 0), some (.ref 101), some (.int (nI i))] [] (nn p') (MM J sp' p') (k1 + Rx.cells) (k2 + Rx.slots)) : aE z (mLn nm) room_1 Q 499 [some (.ref 100000), some (.ref 0), some (.ref 101), some (.int (nI i))] [] (nn p) (MM I sp p) k1 k2 := by
  refine aE_aload_n dL_law_499 rfl rfl ?_
  refine aE_aload_n dL_law_500 rfl rfl ?_
  refine aE_iload_n dL_law_501 rfl rfl ?_
  refine aE_iconst (v := 1) dL_law_502 rfl ?_
  refine aE_iadd dL_law_503 ?_
  refine aE_sld dL_law_504 (nI_add i 1) hz (by omega) ?_
  refine aE_aload_n dL_law_505 rfl rfl ?_
  refine aE_iload_n dL_law_506 rfl rfl ?_
  refine aE_iconst (v := 2) dL_law_507 rfl ?_
  refine aE_iadd dL_law_508 ?_
  refine aE_sld dL_law_509 (nI_add i 2) hz (by omega) ?_
  refine aE_aload_n dL_law_510 rfl rfl ?_
  refine aE_iload_n dL_law_511 rfl rfl ?_
  refine aE_iconst (v := 3) dL_law_512 rfl ?_
  refine aE_iadd dL_law_513 ?_
  refine aE_sld dL_law_514 (nI_add i 3) hz (by omega) ?_
  refine aE_aload_n dL_law_515 rfl rfl ?_
  refine aE_iload_n dL_law_516 rfl rfl ?_
  refine aE_iconst (v := 4) dL_law_517 rfl ?_
  refine aE_iadd dL_law_518 ?_
  refine aE_sld dL_law_519 (nI_add i 4) hz (by omega) ?_
  refine aE_callV dL_law_520 lk_L_53 mv_X11_stop (hM) rfl (lt_nn (by decide)) rfl rfl hok (Nat.le_of_ble_eq_true rfl) hf ?_
  rintro r n' m' ⟨v, J, sp', rfl, rfl, rfl, hm⟩
  refine aE_aload_n dL_law_523 rfl rfl ?_
  refine aE_aload_n dL_law_524 rfl rfl ?_
  refine aE_iload_n dL_law_525 rfl rfl ?_
  refine aE_iconst (v := 1) dL_law_526 rfl ?_
  refine aE_iadd dL_law_527 ?_
  refine aE_sld dL_law_528 (nI_add i 1) hz (by omega) ?_
  refine aE_aload_n dL_law_529 rfl rfl ?_
  refine aE_iload_n dL_law_530 rfl rfl ?_
  refine aE_iconst (v := 2) dL_law_531 rfl ?_
  refine aE_iadd dL_law_532 ?_
  refine aE_sld dL_law_533 (nI_add i 2) hz (by omega) ?_
  refine aE_aload_n dL_law_534 rfl rfl ?_
  refine aE_iload_n dL_law_535 rfl rfl ?_
  refine aE_iconst (v := 3) dL_law_536 rfl ?_
  refine aE_iadd dL_law_537 ?_
  refine aE_sld dL_law_538 (nI_add i 3) hz (by omega) ?_
  refine aE_aload_n dL_law_539 rfl rfl ?_
  refine aE_iload_n dL_law_540 rfl rfl ?_
  refine aE_iconst (v := 4) dL_law_541 rfl ?_
  refine aE_iadd dL_law_542 ?_
  refine aE_sld dL_law_543 (nI_add i 4) hz (by omega) ?_
  refine aE_callV dL_law_544 lk_L_57 mv_X12_stop (hm) rfl (lt_nn (by decide)) rfl rfl ⟨by decide, by decide⟩ (Nat.le_of_ble_eq_true rfl) ⟨hf.1, hf.2⟩ ?_
  rintro r n' m' ⟨K, rfl, rfl, rfl, hI⟩
  refine aE_icmp_eq (tgt := 1363) dL_law_547 (by decide) (fun h547 => ?_) (fun h547 => absurd (rfl) h547)
  exact hK K sp' hI
set_option maxRecDepth 20000 in
theorem lc_pupils (i : Nat) (hz : z.1 < 2 ^ 31) (hi : i + 6 ≤ z.1) (Rx : Room) (k1 k2 : Nat) (hM : aRuns mX11_pupils Rx [.ref 0, .int (z.2 (i + 1)), .int (z.2 (i + 2))] (nn p) (MM I sp p) (KM p' mX12_pupils (rK 2) [.ref 101, .int (z.2 (i + 1)), .int (z.2 (i + 2))])) (hok : a_ok mX11_pupils Rx room_1) (hf : k1 + Rx.cells ≤ room_1.cells ∧ k2 + Rx.slots ≤ room_1.slots) (hK : ∀ J sp', Inv J sp' p' → aE z (mLn nm) room_1 Q 1363 [some (.ref 100000), some (.ref 0), some (.ref 101), some (.int (nI i))] [] (nn p') (MM J sp' p') (k1 + Rx.cells) (k2 + Rx.slots)) : aE z (mLn nm) room_1 Q 552 [some (.ref 100000), some (.ref 0), some (.ref 101), some (.int (nI i))] [] (nn p) (MM I sp p) k1 k2 := by
  refine aE_aload_n dL_law_552 rfl rfl ?_
  refine aE_aload_n dL_law_553 rfl rfl ?_
  refine aE_iload_n dL_law_554 rfl rfl ?_
  refine aE_iconst (v := 1) dL_law_555 rfl ?_
  refine aE_iadd dL_law_556 ?_
  refine aE_sld dL_law_557 (nI_add i 1) hz (by omega) ?_
  refine aE_aload_n dL_law_558 rfl rfl ?_
  refine aE_iload_n dL_law_559 rfl rfl ?_
  refine aE_iconst (v := 2) dL_law_560 rfl ?_
  refine aE_iadd dL_law_561 ?_
  refine aE_sld dL_law_562 (nI_add i 2) hz (by omega) ?_
  refine aE_callV dL_law_563 lk_L_58 mv_X11_pupils (hM) rfl (lt_nn (by decide)) rfl rfl hok (Nat.le_of_ble_eq_true rfl) hf ?_
  rintro r n' m' ⟨v, J, sp', rfl, rfl, rfl, hm⟩
  refine aE_aload_n dL_law_566 rfl rfl ?_
  refine aE_aload_n dL_law_567 rfl rfl ?_
  refine aE_iload_n dL_law_568 rfl rfl ?_
  refine aE_iconst (v := 1) dL_law_569 rfl ?_
  refine aE_iadd dL_law_570 ?_
  refine aE_sld dL_law_571 (nI_add i 1) hz (by omega) ?_
  refine aE_aload_n dL_law_572 rfl rfl ?_
  refine aE_iload_n dL_law_573 rfl rfl ?_
  refine aE_iconst (v := 2) dL_law_574 rfl ?_
  refine aE_iadd dL_law_575 ?_
  refine aE_sld dL_law_576 (nI_add i 2) hz (by omega) ?_
  refine aE_callV dL_law_577 lk_L_61 mv_X12_pupils (hm) rfl (lt_nn (by decide)) rfl rfl ⟨by decide, by decide⟩ (Nat.le_of_ble_eq_true rfl) ⟨hf.1, hf.2⟩ ?_
  rintro r n' m' ⟨K, rfl, rfl, rfl, hI⟩
  refine aE_icmp_eq (tgt := 1363) dL_law_580 (by decide) (fun h580 => ?_) (fun h580 => absurd (rfl) h580)
  exact hK K sp' hI
set_option maxRecDepth 20000 in
theorem lc_gone (i : Nat) (hz : z.1 < 2 ^ 31) (hi : i + 6 ≤ z.1) (Rx : Room) (k1 k2 : Nat) (hM : aRuns mX11_gone Rx [.ref 0, .int (z.2 (i + 1))] (nn p) (MM I sp p) (KM p' mX12_gone (rK 2) [.ref 101, .int (z.2 (i + 1))])) (hok : a_ok mX11_gone Rx room_1) (hf : k1 + Rx.cells ≤ room_1.cells ∧ k2 + Rx.slots ≤ room_1.slots) (hK : ∀ J sp', Inv J sp' p' → aE z (mLn nm) room_1 Q 1363 [some (.ref 100000), some (.ref 0), some (.ref 101), some (.int (nI i))] [] (nn p') (MM J sp' p') (k1 + Rx.cells) (k2 + Rx.slots)) : aE z (mLn nm) room_1 Q 585 [some (.ref 100000), some (.ref 0), some (.ref 101), some (.int (nI i))] [] (nn p) (MM I sp p) k1 k2 := by
  refine aE_aload_n dL_law_585 rfl rfl ?_
  refine aE_aload_n dL_law_586 rfl rfl ?_
  refine aE_iload_n dL_law_587 rfl rfl ?_
  refine aE_iconst (v := 1) dL_law_588 rfl ?_
  refine aE_iadd dL_law_589 ?_
  refine aE_sld dL_law_590 (nI_add i 1) hz (by omega) ?_
  refine aE_callV dL_law_591 lk_L_62 mv_X11_gone (hM) rfl (lt_nn (by decide)) rfl rfl hok (Nat.le_of_ble_eq_true rfl) hf ?_
  rintro r n' m' ⟨v, J, sp', rfl, rfl, rfl, hm⟩
  refine aE_aload_n dL_law_594 rfl rfl ?_
  refine aE_aload_n dL_law_595 rfl rfl ?_
  refine aE_iload_n dL_law_596 rfl rfl ?_
  refine aE_iconst (v := 1) dL_law_597 rfl ?_
  refine aE_iadd dL_law_598 ?_
  refine aE_sld dL_law_599 (nI_add i 1) hz (by omega) ?_
  refine aE_callV dL_law_600 lk_L_66 mv_X12_gone (hm) rfl (lt_nn (by decide)) rfl rfl ⟨by decide, by decide⟩ (Nat.le_of_ble_eq_true rfl) ⟨hf.1, hf.2⟩ ?_
  rintro r n' m' ⟨K, rfl, rfl, rfl, hI⟩
  refine aE_icmp_eq (tgt := 1363) dL_law_603 (by decide) (fun h603 => ?_) (fun h603 => absurd (rfl) h603)
  exact hK K sp' hI
set_option maxRecDepth 20000 in
theorem lc_terms (i : Nat) (hz : z.1 < 2 ^ 31) (hi : i + 6 ≤ z.1) (Rx : Room) (k1 k2 : Nat) (hM : aRuns mX11_terms Rx [.ref 0, .int (z.2 (i + 1)), .int (z.2 (i + 2)), .int (z.2 (i + 3))] (nn p) (MM I sp p) (KM p' mX12_terms (rK 1) [.ref 101, .int (z.2 (i + 1)), .int (z.2 (i + 2)), .int (z.2 (i + 3))])) (hok : a_ok mX11_terms Rx room_1) (hf : k1 + Rx.cells ≤ room_1.cells ∧ k2 + Rx.slots ≤ room_1.slots) (hK : ∀ J sp', Inv J sp' p' → aE z (mLn nm) room_1 Q 1363 [some (.ref 100000), some (.ref 0), some (.ref 101), some (.int (nI i))] [] (nn p') (MM J sp' p') (k1 + Rx.cells) (k2 + Rx.slots)) : aE z (mLn nm) room_1 Q 608 [some (.ref 100000), some (.ref 0), some (.ref 101), some (.int (nI i))] [] (nn p) (MM I sp p) k1 k2 := by
  refine aE_aload_n dL_law_608 rfl rfl ?_
  refine aE_aload_n dL_law_609 rfl rfl ?_
  refine aE_iload_n dL_law_610 rfl rfl ?_
  refine aE_iconst (v := 1) dL_law_611 rfl ?_
  refine aE_iadd dL_law_612 ?_
  refine aE_sld dL_law_613 (nI_add i 1) hz (by omega) ?_
  refine aE_aload_n dL_law_614 rfl rfl ?_
  refine aE_iload_n dL_law_615 rfl rfl ?_
  refine aE_iconst (v := 2) dL_law_616 rfl ?_
  refine aE_iadd dL_law_617 ?_
  refine aE_sld dL_law_618 (nI_add i 2) hz (by omega) ?_
  refine aE_aload_n dL_law_619 rfl rfl ?_
  refine aE_iload_n dL_law_620 rfl rfl ?_
  refine aE_iconst (v := 3) dL_law_621 rfl ?_
  refine aE_iadd dL_law_622 ?_
  refine aE_sld dL_law_623 (nI_add i 3) hz (by omega) ?_
  refine aE_callV dL_law_624 lk_L_67 mv_X11_terms (hM) rfl (lt_nn (by decide)) rfl rfl hok (Nat.le_of_ble_eq_true rfl) hf ?_
  rintro r n' m' ⟨v, J, sp', rfl, rfl, rfl, hm⟩
  refine aE_aload_n dL_law_627 rfl rfl ?_
  refine aE_aload_n dL_law_628 rfl rfl ?_
  refine aE_iload_n dL_law_629 rfl rfl ?_
  refine aE_iconst (v := 1) dL_law_630 rfl ?_
  refine aE_iadd dL_law_631 ?_
  refine aE_sld dL_law_632 (nI_add i 1) hz (by omega) ?_
  refine aE_aload_n dL_law_633 rfl rfl ?_
  refine aE_iload_n dL_law_634 rfl rfl ?_
  refine aE_iconst (v := 2) dL_law_635 rfl ?_
  refine aE_iadd dL_law_636 ?_
  refine aE_sld dL_law_637 (nI_add i 2) hz (by omega) ?_
  refine aE_aload_n dL_law_638 rfl rfl ?_
  refine aE_iload_n dL_law_639 rfl rfl ?_
  refine aE_iconst (v := 3) dL_law_640 rfl ?_
  refine aE_iadd dL_law_641 ?_
  refine aE_sld dL_law_642 (nI_add i 3) hz (by omega) ?_
  refine aE_callV dL_law_643 lk_L_70 mv_X12_terms (hm) rfl (lt_nn (by decide)) rfl rfl ⟨by decide, by decide⟩ (Nat.le_of_ble_eq_true rfl) ⟨hf.1, hf.2⟩ ?_
  rintro r n' m' ⟨K, rfl, rfl, rfl, hI⟩
  refine aE_icmp_eq (tgt := 1363) dL_law_646 (by decide) (fun h646 => ?_) (fun h646 => absurd (rfl) h646)
  exact hK K sp' hI
set_option maxRecDepth 20000 in
theorem lc_routes (i : Nat) (hz : z.1 < 2 ^ 31) (hi : i + 6 ≤ z.1) (Rx : Room) (k1 k2 : Nat) (hM : aRuns mX11_routes Rx [.ref 0, .int (z.2 (i + 1))] (nn p) (MM I sp p) (KM p' mX12_routes (rK 5) [.ref 101, .int (z.2 (i + 1))])) (hok : a_ok mX11_routes Rx room_1) (hf : k1 + Rx.cells ≤ room_1.cells ∧ k2 + Rx.slots ≤ room_1.slots) (hK : ∀ J sp', Inv J sp' p' → aE z (mLn nm) room_1 Q 1363 [some (.ref 100000), some (.ref 0), some (.ref 101), some (.int (nI i))] [] (nn p') (MM J sp' p') (k1 + Rx.cells) (k2 + Rx.slots)) : aE z (mLn nm) room_1 Q 651 [some (.ref 100000), some (.ref 0), some (.ref 101), some (.int (nI i))] [] (nn p) (MM I sp p) k1 k2 := by
  refine aE_aload_n dL_law_651 rfl rfl ?_
  refine aE_aload_n dL_law_652 rfl rfl ?_
  refine aE_iload_n dL_law_653 rfl rfl ?_
  refine aE_iconst (v := 1) dL_law_654 rfl ?_
  refine aE_iadd dL_law_655 ?_
  refine aE_sld dL_law_656 (nI_add i 1) hz (by omega) ?_
  refine aE_callV dL_law_657 lk_L_71 mv_X11_routes (hM) rfl (lt_nn (by decide)) rfl rfl hok (Nat.le_of_ble_eq_true rfl) hf ?_
  rintro r n' m' ⟨v, J, sp', rfl, rfl, rfl, hm⟩
  refine aE_aload_n dL_law_660 rfl rfl ?_
  refine aE_aload_n dL_law_661 rfl rfl ?_
  refine aE_iload_n dL_law_662 rfl rfl ?_
  refine aE_iconst (v := 1) dL_law_663 rfl ?_
  refine aE_iadd dL_law_664 ?_
  refine aE_sld dL_law_665 (nI_add i 1) hz (by omega) ?_
  refine aE_callV dL_law_666 lk_L_74 mv_X12_routes (hm) rfl (lt_nn (by decide)) rfl rfl ⟨by decide, by decide⟩ (Nat.le_of_ble_eq_true rfl) ⟨hf.1, hf.2⟩ ?_
  rintro r n' m' ⟨K, rfl, rfl, rfl, hI⟩
  refine aE_icmp_eq (tgt := 1363) dL_law_669 (by decide) (fun h669 => ?_) (fun h669 => absurd (rfl) h669)
  exact hK K sp' hI
set_option maxRecDepth 20000 in
theorem lc_route (i : Nat) (hz : z.1 < 2 ^ 31) (hi : i + 6 ≤ z.1) (Rx : Room) (k1 k2 : Nat) (hM : aRuns mX11_route Rx [.ref 0, .int (z.2 (i + 1)), .int (z.2 (i + 2)), .int (z.2 (i + 3))] (nn p) (MM I sp p) (KM p' mX12_route (rK 5) [.ref 101, .int (z.2 (i + 1)), .int (z.2 (i + 2)), .int (z.2 (i + 3))])) (hok : a_ok mX11_route Rx room_1) (hf : k1 + Rx.cells ≤ room_1.cells ∧ k2 + Rx.slots ≤ room_1.slots) (hK : ∀ J sp', Inv J sp' p' → aE z (mLn nm) room_1 Q 1363 [some (.ref 100000), some (.ref 0), some (.ref 101), some (.int (nI i))] [] (nn p') (MM J sp' p') (k1 + Rx.cells) (k2 + Rx.slots)) : aE z (mLn nm) room_1 Q 674 [some (.ref 100000), some (.ref 0), some (.ref 101), some (.int (nI i))] [] (nn p) (MM I sp p) k1 k2 := by
  refine aE_aload_n dL_law_674 rfl rfl ?_
  refine aE_aload_n dL_law_675 rfl rfl ?_
  refine aE_iload_n dL_law_676 rfl rfl ?_
  refine aE_iconst (v := 1) dL_law_677 rfl ?_
  refine aE_iadd dL_law_678 ?_
  refine aE_sld dL_law_679 (nI_add i 1) hz (by omega) ?_
  refine aE_aload_n dL_law_680 rfl rfl ?_
  refine aE_iload_n dL_law_681 rfl rfl ?_
  refine aE_iconst (v := 2) dL_law_682 rfl ?_
  refine aE_iadd dL_law_683 ?_
  refine aE_sld dL_law_684 (nI_add i 2) hz (by omega) ?_
  refine aE_aload_n dL_law_685 rfl rfl ?_
  refine aE_iload_n dL_law_686 rfl rfl ?_
  refine aE_iconst (v := 3) dL_law_687 rfl ?_
  refine aE_iadd dL_law_688 ?_
  refine aE_sld dL_law_689 (nI_add i 3) hz (by omega) ?_
  refine aE_callV dL_law_690 lk_L_75 mv_X11_route (hM) rfl (lt_nn (by decide)) rfl rfl hok (Nat.le_of_ble_eq_true rfl) hf ?_
  rintro r n' m' ⟨v, J, sp', rfl, rfl, rfl, hm⟩
  refine aE_aload_n dL_law_693 rfl rfl ?_
  refine aE_aload_n dL_law_694 rfl rfl ?_
  refine aE_iload_n dL_law_695 rfl rfl ?_
  refine aE_iconst (v := 1) dL_law_696 rfl ?_
  refine aE_iadd dL_law_697 ?_
  refine aE_sld dL_law_698 (nI_add i 1) hz (by omega) ?_
  refine aE_aload_n dL_law_699 rfl rfl ?_
  refine aE_iload_n dL_law_700 rfl rfl ?_
  refine aE_iconst (v := 2) dL_law_701 rfl ?_
  refine aE_iadd dL_law_702 ?_
  refine aE_sld dL_law_703 (nI_add i 2) hz (by omega) ?_
  refine aE_aload_n dL_law_704 rfl rfl ?_
  refine aE_iload_n dL_law_705 rfl rfl ?_
  refine aE_iconst (v := 3) dL_law_706 rfl ?_
  refine aE_iadd dL_law_707 ?_
  refine aE_sld dL_law_708 (nI_add i 3) hz (by omega) ?_
  refine aE_callV dL_law_709 lk_L_78 mv_X12_route (hm) rfl (lt_nn (by decide)) rfl rfl ⟨by decide, by decide⟩ (Nat.le_of_ble_eq_true rfl) ⟨hf.1, hf.2⟩ ?_
  rintro r n' m' ⟨K, rfl, rfl, rfl, hI⟩
  refine aE_icmp_eq (tgt := 1363) dL_law_712 (by decide) (fun h712 => ?_) (fun h712 => absurd (rfl) h712)
  exact hK K sp' hI
set_option maxRecDepth 20000 in
theorem lc_ride (i : Nat) (hz : z.1 < 2 ^ 31) (hi : i + 6 ≤ z.1) (Rx : Room) (k1 k2 : Nat) (hM : aRuns mX11_ride Rx [.ref 0, .int (z.2 (i + 1))] (nn p) (MM I sp p) (KM p' mX12_ride (rK 5) [.ref 101, .int (z.2 (i + 1))])) (hok : a_ok mX11_ride Rx room_1) (hf : k1 + Rx.cells ≤ room_1.cells ∧ k2 + Rx.slots ≤ room_1.slots) (hK : ∀ J sp', Inv J sp' p' → aE z (mLn nm) room_1 Q 1363 [some (.ref 100000), some (.ref 0), some (.ref 101), some (.int (nI i))] [] (nn p') (MM J sp' p') (k1 + Rx.cells) (k2 + Rx.slots)) : aE z (mLn nm) room_1 Q 717 [some (.ref 100000), some (.ref 0), some (.ref 101), some (.int (nI i))] [] (nn p) (MM I sp p) k1 k2 := by
  refine aE_aload_n dL_law_717 rfl rfl ?_
  refine aE_aload_n dL_law_718 rfl rfl ?_
  refine aE_iload_n dL_law_719 rfl rfl ?_
  refine aE_iconst (v := 1) dL_law_720 rfl ?_
  refine aE_iadd dL_law_721 ?_
  refine aE_sld dL_law_722 (nI_add i 1) hz (by omega) ?_
  refine aE_callV dL_law_723 lk_L_79 mv_X11_ride (hM) rfl (lt_nn (by decide)) rfl rfl hok (Nat.le_of_ble_eq_true rfl) hf ?_
  rintro r n' m' ⟨v, J, sp', rfl, rfl, rfl, hm⟩
  refine aE_aload_n dL_law_726 rfl rfl ?_
  refine aE_aload_n dL_law_727 rfl rfl ?_
  refine aE_iload_n dL_law_728 rfl rfl ?_
  refine aE_iconst (v := 1) dL_law_729 rfl ?_
  refine aE_iadd dL_law_730 ?_
  refine aE_sld dL_law_731 (nI_add i 1) hz (by omega) ?_
  refine aE_callV dL_law_732 lk_L_82 mv_X12_ride (hm) rfl (lt_nn (by decide)) rfl rfl ⟨by decide, by decide⟩ (Nat.le_of_ble_eq_true rfl) ⟨hf.1, hf.2⟩ ?_
  rintro r n' m' ⟨K, rfl, rfl, rfl, hI⟩
  refine aE_icmp_eq (tgt := 1363) dL_law_735 (by decide) (fun h735 => ?_) (fun h735 => absurd (rfl) h735)
  exact hK K sp' hI
set_option maxRecDepth 20000 in
theorem lc_all (i : Nat) (hz : z.1 < 2 ^ 31) (hi : i + 6 ≤ z.1) (Rx : Room) (k1 k2 : Nat) (hM : aRuns mX11_all Rx [.ref 0] (nn p) (MM I sp p) (KM p' mX12_all (rK 5) [.ref 101])) (hok : a_ok mX11_all Rx room_1) (hf : k1 + Rx.cells ≤ room_1.cells ∧ k2 + Rx.slots ≤ room_1.slots) (hK : ∀ J sp', Inv J sp' p' → aE z (mLn nm) room_1 Q 1363 [some (.ref 100000), some (.ref 0), some (.ref 101), some (.int (nI i))] [] (nn p') (MM J sp' p') (k1 + Rx.cells) (k2 + Rx.slots)) : aE z (mLn nm) room_1 Q 740 [some (.ref 100000), some (.ref 0), some (.ref 101), some (.int (nI i))] [] (nn p) (MM I sp p) k1 k2 := by
  refine aE_aload_n dL_law_740 rfl rfl ?_
  refine aE_callV dL_law_741 lk_L_83 mv_X11_all (hM) rfl (lt_nn (by decide)) rfl rfl hok (Nat.le_of_ble_eq_true rfl) hf ?_
  rintro r n' m' ⟨v, J, sp', rfl, rfl, rfl, hm⟩
  refine aE_aload_n dL_law_744 rfl rfl ?_
  refine aE_callV dL_law_745 lk_L_86 mv_X12_all (hm) rfl (lt_nn (by decide)) rfl rfl ⟨by decide, by decide⟩ (Nat.le_of_ble_eq_true rfl) ⟨hf.1, hf.2⟩ ?_
  rintro r n' m' ⟨K, rfl, rfl, rfl, hI⟩
  refine aE_icmp_eq (tgt := 1363) dL_law_748 (by decide) (fun h748 => ?_) (fun h748 => absurd (rfl) h748)
  exact hK K sp' hI
set_option maxRecDepth 20000 in
theorem lc_start (i : Nat) (hz : z.1 < 2 ^ 31) (hi : i + 6 ≤ z.1) (Rx : Room) (k1 k2 : Nat) (hM : aRuns mX11_start Rx [.ref 0, .int (z.2 (i + 1))] (nn p) (MM I sp p) (KM p' mX12_start (rK 5) [.ref 101, .int (z.2 (i + 1))])) (hok : a_ok mX11_start Rx room_1) (hf : k1 + Rx.cells ≤ room_1.cells ∧ k2 + Rx.slots ≤ room_1.slots) (hK : ∀ J sp', Inv J sp' p' → aE z (mLn nm) room_1 Q 1363 [some (.ref 100000), some (.ref 0), some (.ref 101), some (.int (nI i))] [] (nn p') (MM J sp' p') (k1 + Rx.cells) (k2 + Rx.slots)) : aE z (mLn nm) room_1 Q 753 [some (.ref 100000), some (.ref 0), some (.ref 101), some (.int (nI i))] [] (nn p) (MM I sp p) k1 k2 := by
  refine aE_aload_n dL_law_753 rfl rfl ?_
  refine aE_aload_n dL_law_754 rfl rfl ?_
  refine aE_iload_n dL_law_755 rfl rfl ?_
  refine aE_iconst (v := 1) dL_law_756 rfl ?_
  refine aE_iadd dL_law_757 ?_
  refine aE_sld dL_law_758 (nI_add i 1) hz (by omega) ?_
  refine aE_callV dL_law_759 lk_L_87 mv_X11_start (hM) rfl (lt_nn (by decide)) rfl rfl hok (Nat.le_of_ble_eq_true rfl) hf ?_
  rintro r n' m' ⟨v, J, sp', rfl, rfl, rfl, hm⟩
  refine aE_aload_n dL_law_762 rfl rfl ?_
  refine aE_aload_n dL_law_763 rfl rfl ?_
  refine aE_iload_n dL_law_764 rfl rfl ?_
  refine aE_iconst (v := 1) dL_law_765 rfl ?_
  refine aE_iadd dL_law_766 ?_
  refine aE_sld dL_law_767 (nI_add i 1) hz (by omega) ?_
  refine aE_callV dL_law_768 lk_L_90 mv_X12_start (hm) rfl (lt_nn (by decide)) rfl rfl ⟨by decide, by decide⟩ (Nat.le_of_ble_eq_true rfl) ⟨hf.1, hf.2⟩ ?_
  rintro r n' m' ⟨K, rfl, rfl, rfl, hI⟩
  refine aE_icmp_eq (tgt := 1363) dL_law_771 (by decide) (fun h771 => ?_) (fun h771 => absurd (rfl) h771)
  exact hK K sp' hI
set_option maxRecDepth 20000 in
theorem lc_follows (i : Nat) (hz : z.1 < 2 ^ 31) (hi : i + 6 ≤ z.1) (Rx : Room) (k1 k2 : Nat) (hM : aRuns mX11_follows Rx [.ref 0, .int (z.2 (i + 1)), .int (z.2 (i + 2))] (nn p) (MM I sp p) (KM p' mX12_follows (rK 5) [.ref 101, .int (z.2 (i + 1)), .int (z.2 (i + 2))])) (hok : a_ok mX11_follows Rx room_1) (hf : k1 + Rx.cells ≤ room_1.cells ∧ k2 + Rx.slots ≤ room_1.slots) (hK : ∀ J sp', Inv J sp' p' → aE z (mLn nm) room_1 Q 1363 [some (.ref 100000), some (.ref 0), some (.ref 101), some (.int (nI i))] [] (nn p') (MM J sp' p') (k1 + Rx.cells) (k2 + Rx.slots)) : aE z (mLn nm) room_1 Q 776 [some (.ref 100000), some (.ref 0), some (.ref 101), some (.int (nI i))] [] (nn p) (MM I sp p) k1 k2 := by
  refine aE_aload_n dL_law_776 rfl rfl ?_
  refine aE_aload_n dL_law_777 rfl rfl ?_
  refine aE_iload_n dL_law_778 rfl rfl ?_
  refine aE_iconst (v := 1) dL_law_779 rfl ?_
  refine aE_iadd dL_law_780 ?_
  refine aE_sld dL_law_781 (nI_add i 1) hz (by omega) ?_
  refine aE_aload_n dL_law_782 rfl rfl ?_
  refine aE_iload_n dL_law_783 rfl rfl ?_
  refine aE_iconst (v := 2) dL_law_784 rfl ?_
  refine aE_iadd dL_law_785 ?_
  refine aE_sld dL_law_786 (nI_add i 2) hz (by omega) ?_
  refine aE_callV dL_law_787 lk_L_91 mv_X11_follows (hM) rfl (lt_nn (by decide)) rfl rfl hok (Nat.le_of_ble_eq_true rfl) hf ?_
  rintro r n' m' ⟨v, J, sp', rfl, rfl, rfl, hm⟩
  refine aE_aload_n dL_law_790 rfl rfl ?_
  refine aE_aload_n dL_law_791 rfl rfl ?_
  refine aE_iload_n dL_law_792 rfl rfl ?_
  refine aE_iconst (v := 1) dL_law_793 rfl ?_
  refine aE_iadd dL_law_794 ?_
  refine aE_sld dL_law_795 (nI_add i 1) hz (by omega) ?_
  refine aE_aload_n dL_law_796 rfl rfl ?_
  refine aE_iload_n dL_law_797 rfl rfl ?_
  refine aE_iconst (v := 2) dL_law_798 rfl ?_
  refine aE_iadd dL_law_799 ?_
  refine aE_sld dL_law_800 (nI_add i 2) hz (by omega) ?_
  refine aE_callV dL_law_801 lk_L_94 mv_X12_follows (hm) rfl (lt_nn (by decide)) rfl rfl ⟨by decide, by decide⟩ (Nat.le_of_ble_eq_true rfl) ⟨hf.1, hf.2⟩ ?_
  rintro r n' m' ⟨K, rfl, rfl, rfl, hI⟩
  refine aE_icmp_eq (tgt := 1363) dL_law_804 (by decide) (fun h804 => ?_) (fun h804 => absurd (rfl) h804)
  exact hK K sp' hI
set_option maxRecDepth 20000 in
theorem lc_buses (i : Nat) (hz : z.1 < 2 ^ 31) (hi : i + 6 ≤ z.1) (Rx : Room) (k1 k2 : Nat) (hM : aRuns mX11_buses Rx [.ref 0] (nn p) (MM I sp p) (KM p' mX12_buses (rK 6) [.ref 101])) (hok : a_ok mX11_buses Rx room_1) (hf : k1 + Rx.cells ≤ room_1.cells ∧ k2 + Rx.slots ≤ room_1.slots) (hK : ∀ J sp', Inv J sp' p' → aE z (mLn nm) room_1 Q 1363 [some (.ref 100000), some (.ref 0), some (.ref 101), some (.int (nI i))] [] (nn p') (MM J sp' p') (k1 + Rx.cells) (k2 + Rx.slots)) : aE z (mLn nm) room_1 Q 809 [some (.ref 100000), some (.ref 0), some (.ref 101), some (.int (nI i))] [] (nn p) (MM I sp p) k1 k2 := by
  refine aE_aload_n dL_law_809 rfl rfl ?_
  refine aE_callV dL_law_810 lk_L_95 mv_X11_buses (hM) rfl (lt_nn (by decide)) rfl rfl hok (Nat.le_of_ble_eq_true rfl) hf ?_
  rintro r n' m' ⟨v, J, sp', rfl, rfl, rfl, hm⟩
  refine aE_aload_n dL_law_813 rfl rfl ?_
  refine aE_callV dL_law_814 lk_L_98 mv_X12_buses (hm) rfl (lt_nn (by decide)) rfl rfl ⟨by decide, by decide⟩ (Nat.le_of_ble_eq_true rfl) ⟨hf.1, hf.2⟩ ?_
  rintro r n' m' ⟨K, rfl, rfl, rfl, hI⟩
  refine aE_icmp_eq (tgt := 1363) dL_law_817 (by decide) (fun h817 => ?_) (fun h817 => absurd (rfl) h817)
  exact hK K sp' hI
set_option maxRecDepth 20000 in
theorem lc_chain (i : Nat) (hz : z.1 < 2 ^ 31) (hi : i + 6 ≤ z.1) (Rx : Room) (k1 k2 : Nat) (hM : aRuns mX11_chain Rx [.ref 0, .int (z.2 (i + 1)), .int (z.2 (i + 2))] (nn p) (MM I sp p) (KM p' mX12_chain (rK 6) [.ref 101, .int (z.2 (i + 1)), .int (z.2 (i + 2))])) (hok : a_ok mX11_chain Rx room_1) (hf : k1 + Rx.cells ≤ room_1.cells ∧ k2 + Rx.slots ≤ room_1.slots) (hK : ∀ J sp', Inv J sp' p' → aE z (mLn nm) room_1 Q 1363 [some (.ref 100000), some (.ref 0), some (.ref 101), some (.int (nI i))] [] (nn p') (MM J sp' p') (k1 + Rx.cells) (k2 + Rx.slots)) : aE z (mLn nm) room_1 Q 822 [some (.ref 100000), some (.ref 0), some (.ref 101), some (.int (nI i))] [] (nn p) (MM I sp p) k1 k2 := by
  refine aE_aload_n dL_law_822 rfl rfl ?_
  refine aE_aload_n dL_law_823 rfl rfl ?_
  refine aE_iload_n dL_law_824 rfl rfl ?_
  refine aE_iconst (v := 1) dL_law_825 rfl ?_
  refine aE_iadd dL_law_826 ?_
  refine aE_sld dL_law_827 (nI_add i 1) hz (by omega) ?_
  refine aE_aload_n dL_law_828 rfl rfl ?_
  refine aE_iload_n dL_law_829 rfl rfl ?_
  refine aE_iconst (v := 2) dL_law_830 rfl ?_
  refine aE_iadd dL_law_831 ?_
  refine aE_sld dL_law_832 (nI_add i 2) hz (by omega) ?_
  refine aE_callV dL_law_833 lk_L_99 mv_X11_chain (hM) rfl (lt_nn (by decide)) rfl rfl hok (Nat.le_of_ble_eq_true rfl) hf ?_
  rintro r n' m' ⟨v, J, sp', rfl, rfl, rfl, hm⟩
  refine aE_aload_n dL_law_836 rfl rfl ?_
  refine aE_aload_n dL_law_837 rfl rfl ?_
  refine aE_iload_n dL_law_838 rfl rfl ?_
  refine aE_iconst (v := 1) dL_law_839 rfl ?_
  refine aE_iadd dL_law_840 ?_
  refine aE_sld dL_law_841 (nI_add i 1) hz (by omega) ?_
  refine aE_aload_n dL_law_842 rfl rfl ?_
  refine aE_iload_n dL_law_843 rfl rfl ?_
  refine aE_iconst (v := 2) dL_law_844 rfl ?_
  refine aE_iadd dL_law_845 ?_
  refine aE_sld dL_law_846 (nI_add i 2) hz (by omega) ?_
  refine aE_callV dL_law_847 lk_L_102 mv_X12_chain (hm) rfl (lt_nn (by decide)) rfl rfl ⟨by decide, by decide⟩ (Nat.le_of_ble_eq_true rfl) ⟨hf.1, hf.2⟩ ?_
  rintro r n' m' ⟨K, rfl, rfl, rfl, hI⟩
  refine aE_icmp_eq (tgt := 1363) dL_law_850 (by decide) (fun h850 => ?_) (fun h850 => absurd (rfl) h850)
  exact hK K sp' hI
set_option maxRecDepth 20000 in
theorem lc_aides (i : Nat) (hz : z.1 < 2 ^ 31) (hi : i + 6 ≤ z.1) (Rx : Room) (k1 k2 : Nat) (hM : aRuns mX11_aides Rx [.ref 0] (nn p) (MM I sp p) (KM p' mX12_aides (rK 6) [.ref 101])) (hok : a_ok mX11_aides Rx room_1) (hf : k1 + Rx.cells ≤ room_1.cells ∧ k2 + Rx.slots ≤ room_1.slots) (hK : ∀ J sp', Inv J sp' p' → aE z (mLn nm) room_1 Q 1363 [some (.ref 100000), some (.ref 0), some (.ref 101), some (.int (nI i))] [] (nn p') (MM J sp' p') (k1 + Rx.cells) (k2 + Rx.slots)) : aE z (mLn nm) room_1 Q 855 [some (.ref 100000), some (.ref 0), some (.ref 101), some (.int (nI i))] [] (nn p) (MM I sp p) k1 k2 := by
  refine aE_aload_n dL_law_855 rfl rfl ?_
  refine aE_callV dL_law_856 lk_L_103 mv_X11_aides (hM) rfl (lt_nn (by decide)) rfl rfl hok (Nat.le_of_ble_eq_true rfl) hf ?_
  rintro r n' m' ⟨v, J, sp', rfl, rfl, rfl, hm⟩
  refine aE_aload_n dL_law_859 rfl rfl ?_
  refine aE_callV dL_law_860 lk_L_106 mv_X12_aides (hm) rfl (lt_nn (by decide)) rfl rfl ⟨by decide, by decide⟩ (Nat.le_of_ble_eq_true rfl) ⟨hf.1, hf.2⟩ ?_
  rintro r n' m' ⟨K, rfl, rfl, rfl, hI⟩
  refine aE_icmp_eq (tgt := 1363) dL_law_863 (by decide) (fun h863 => ?_) (fun h863 => absurd (rfl) h863)
  exact hK K sp' hI
set_option maxRecDepth 20000 in
theorem lc_feed (i : Nat) (hz : z.1 < 2 ^ 31) (hi : i + 6 ≤ z.1) (Rx : Room) (k1 k2 : Nat) (hM : ∀ W : Int64, aRuns mX11_feed Rx [.ref 0, .long W, .int (z.2 (i + 3))] (nn p) (MM I sp p) (KM p' mX12_feed (rK 1) [.ref 101, .long W, .int (z.2 (i + 3))])) (hok : a_ok mX11_feed Rx room_1) (hf : k1 + Rx.cells ≤ room_1.cells ∧ k2 + Rx.slots ≤ room_1.slots) (hK : ∀ J sp', Inv J sp' p' → aE z (mLn nm) room_1 Q 1363 [some (.ref 100000), some (.ref 0), some (.ref 101), some (.int (nI i))] [] (nn p') (MM J sp' p') (k1 + Rx.cells) (k2 + Rx.slots)) : aE z (mLn nm) room_1 Q 868 [some (.ref 100000), some (.ref 0), some (.ref 101), some (.int (nI i))] [] (nn p) (MM I sp p) k1 k2 := by
  refine aE_aload_n dL_law_868 rfl rfl ?_
  refine aE_aload_n dL_law_869 rfl rfl ?_
  refine aE_iload_n dL_law_870 rfl rfl ?_
  refine aE_iconst (v := 1) dL_law_871 rfl ?_
  refine aE_iadd dL_law_872 ?_
  refine aE_sld dL_law_873 (nI_add i 1) hz (by omega) ?_
  refine aE_i2l dL_law_874 ?_
  refine aE_bipush (v := 32) dL_law_875 (by decide) ?_
  refine aE_lshl dL_law_877 ?_
  refine aE_aload_n dL_law_878 rfl rfl ?_
  refine aE_iload_n dL_law_879 rfl rfl ?_
  refine aE_iconst (v := 2) dL_law_880 rfl ?_
  refine aE_iadd dL_law_881 ?_
  refine aE_sld dL_law_882 (nI_add i 2) hz (by omega) ?_
  refine aE_i2l dL_law_883 ?_
  refine aE_ldc2 dL_law_884 ct_L_107 ?_
  refine aE_land dL_law_887 ?_
  refine aE_lor dL_law_888 ?_
  refine aE_aload_n dL_law_889 rfl rfl ?_
  refine aE_iload_n dL_law_890 rfl rfl ?_
  refine aE_iconst (v := 3) dL_law_891 rfl ?_
  refine aE_iadd dL_law_892 ?_
  refine aE_sld dL_law_893 (nI_add i 3) hz (by omega) ?_
  refine aE_callV dL_law_894 lk_L_109 mv_X11_feed ((hM _)) rfl (lt_nn (by decide)) rfl rfl hok (Nat.le_of_ble_eq_true rfl) hf ?_
  rintro r n' m' ⟨v, J, sp', rfl, rfl, rfl, hm⟩
  refine aE_aload_n dL_law_897 rfl rfl ?_
  refine aE_aload_n dL_law_898 rfl rfl ?_
  refine aE_iload_n dL_law_899 rfl rfl ?_
  refine aE_iconst (v := 1) dL_law_900 rfl ?_
  refine aE_iadd dL_law_901 ?_
  refine aE_sld dL_law_902 (nI_add i 1) hz (by omega) ?_
  refine aE_i2l dL_law_903 ?_
  refine aE_bipush (v := 32) dL_law_904 (by decide) ?_
  refine aE_lshl dL_law_906 ?_
  refine aE_aload_n dL_law_907 rfl rfl ?_
  refine aE_iload_n dL_law_908 rfl rfl ?_
  refine aE_iconst (v := 2) dL_law_909 rfl ?_
  refine aE_iadd dL_law_910 ?_
  refine aE_sld dL_law_911 (nI_add i 2) hz (by omega) ?_
  refine aE_i2l dL_law_912 ?_
  refine aE_ldc2 dL_law_913 ct_L_107 ?_
  refine aE_land dL_law_916 ?_
  refine aE_lor dL_law_917 ?_
  refine aE_aload_n dL_law_918 rfl rfl ?_
  refine aE_iload_n dL_law_919 rfl rfl ?_
  refine aE_iconst (v := 3) dL_law_920 rfl ?_
  refine aE_iadd dL_law_921 ?_
  refine aE_sld dL_law_922 (nI_add i 3) hz (by omega) ?_
  refine aE_callV dL_law_923 lk_L_113 mv_X12_feed (hm) rfl (lt_nn (by decide)) rfl rfl ⟨by decide, by decide⟩ (Nat.le_of_ble_eq_true rfl) ⟨hf.1, hf.2⟩ ?_
  rintro r n' m' ⟨K, rfl, rfl, rfl, hI⟩
  refine aE_icmp_eq (tgt := 1363) dL_law_926 (by decide) (fun h926 => ?_) (fun h926 => absurd (rfl) h926)
  exact hK K sp' hI
set_option maxRecDepth 20000 in
theorem lc_text (i : Nat) (hz : z.1 < 2 ^ 31) (hi : i + 6 ≤ z.1) (Rx : Room) (k1 k2 : Nat) (hM : aRuns mX11_text Rx [.ref 0] (nn p) (MM I sp p) (KM p' mX12_text (rK 2) [.ref 101])) (hok : a_ok mX11_text Rx room_1) (hf : k1 + Rx.cells ≤ room_1.cells ∧ k2 + Rx.slots ≤ room_1.slots) (hK : ∀ J sp', Inv J sp' p' → aE z (mLn nm) room_1 Q 1363 [some (.ref 100000), some (.ref 0), some (.ref 101), some (.int (nI i))] [] (nn p') (MM J sp' p') (k1 + Rx.cells) (k2 + Rx.slots)) : aE z (mLn nm) room_1 Q 931 [some (.ref 100000), some (.ref 0), some (.ref 101), some (.int (nI i))] [] (nn p) (MM I sp p) k1 k2 := by
  refine aE_aload_n dL_law_931 rfl rfl ?_
  refine aE_callV dL_law_932 lk_L_114 mv_X11_text (hM) rfl (lt_nn (by decide)) rfl rfl hok (Nat.le_of_ble_eq_true rfl) hf ?_
  rintro r n' m' ⟨v, J, sp', rfl, rfl, rfl, hm⟩
  refine aE_aload_n dL_law_935 rfl rfl ?_
  refine aE_callV dL_law_936 lk_L_117 mv_X12_text (hm) rfl (lt_nn (by decide)) rfl rfl ⟨by decide, by decide⟩ (Nat.le_of_ble_eq_true rfl) ⟨hf.1, hf.2⟩ ?_
  rintro r n' m' ⟨K, rfl, rfl, rfl, hI⟩
  refine aE_icmp_eq (tgt := 1363) dL_law_939 (by decide) (fun h939 => ?_) (fun h939 => absurd (rfl) h939)
  exact hK K sp' hI
set_option maxRecDepth 20000 in
theorem lc_allowed (i : Nat) (hz : z.1 < 2 ^ 31) (hi : i + 6 ≤ z.1) (Rx : Room) (k1 k2 : Nat) (hM : aRuns mX11_allowed Rx [.ref 0, .int (z.2 (i + 1)), .int (z.2 (i + 2))] (nn p) (MM I sp p) (KM p' mX12_allowed (rK 2) [.ref 101, .int (z.2 (i + 1)), .int (z.2 (i + 2))])) (hok : a_ok mX11_allowed Rx room_1) (hf : k1 + Rx.cells ≤ room_1.cells ∧ k2 + Rx.slots ≤ room_1.slots) (hK : ∀ J sp', Inv J sp' p' → aE z (mLn nm) room_1 Q 1363 [some (.ref 100000), some (.ref 0), some (.ref 101), some (.int (nI i))] [] (nn p') (MM J sp' p') (k1 + Rx.cells) (k2 + Rx.slots)) : aE z (mLn nm) room_1 Q 944 [some (.ref 100000), some (.ref 0), some (.ref 101), some (.int (nI i))] [] (nn p) (MM I sp p) k1 k2 := by
  refine aE_aload_n dL_law_944 rfl rfl ?_
  refine aE_aload_n dL_law_945 rfl rfl ?_
  refine aE_iload_n dL_law_946 rfl rfl ?_
  refine aE_iconst (v := 1) dL_law_947 rfl ?_
  refine aE_iadd dL_law_948 ?_
  refine aE_sld dL_law_949 (nI_add i 1) hz (by omega) ?_
  refine aE_aload_n dL_law_950 rfl rfl ?_
  refine aE_iload_n dL_law_951 rfl rfl ?_
  refine aE_iconst (v := 2) dL_law_952 rfl ?_
  refine aE_iadd dL_law_953 ?_
  refine aE_sld dL_law_954 (nI_add i 2) hz (by omega) ?_
  refine aE_callV dL_law_955 lk_L_118 mv_X11_allowed (hM) rfl (lt_nn (by decide)) rfl rfl hok (Nat.le_of_ble_eq_true rfl) hf ?_
  rintro r n' m' ⟨v, J, sp', rfl, rfl, rfl, hm⟩
  refine aE_aload_n dL_law_958 rfl rfl ?_
  refine aE_aload_n dL_law_959 rfl rfl ?_
  refine aE_iload_n dL_law_960 rfl rfl ?_
  refine aE_iconst (v := 1) dL_law_961 rfl ?_
  refine aE_iadd dL_law_962 ?_
  refine aE_sld dL_law_963 (nI_add i 1) hz (by omega) ?_
  refine aE_aload_n dL_law_964 rfl rfl ?_
  refine aE_iload_n dL_law_965 rfl rfl ?_
  refine aE_iconst (v := 2) dL_law_966 rfl ?_
  refine aE_iadd dL_law_967 ?_
  refine aE_sld dL_law_968 (nI_add i 2) hz (by omega) ?_
  refine aE_callV dL_law_969 lk_L_121 mv_X12_allowed (hm) rfl (lt_nn (by decide)) rfl rfl ⟨by decide, by decide⟩ (Nat.le_of_ble_eq_true rfl) ⟨hf.1, hf.2⟩ ?_
  rintro r n' m' ⟨K, rfl, rfl, rfl, hI⟩
  refine aE_icmp_eq (tgt := 1363) dL_law_972 (by decide) (fun h972 => ?_) (fun h972 => absurd (rfl) h972)
  exact hK K sp' hI
set_option maxRecDepth 20000 in
theorem lc_cost (i : Nat) (hz : z.1 < 2 ^ 31) (hi : i + 6 ≤ z.1) (Rx : Room) (k1 k2 : Nat) (hM : aRuns mX11_cost Rx [.ref 0] (nn p) (MM I sp p) (KM p' mX12_cost (rK 3) [.ref 101])) (hok : a_ok mX11_cost Rx room_1) (hf : k1 + Rx.cells ≤ room_1.cells ∧ k2 + Rx.slots ≤ room_1.slots) (hK : ∀ J sp', Inv J sp' p' → aE z (mLn nm) room_1 Q 1363 [some (.ref 100000), some (.ref 0), some (.ref 101), some (.int (nI i))] [] (nn p') (MM J sp' p') (k1 + Rx.cells) (k2 + Rx.slots)) : aE z (mLn nm) room_1 Q 977 [some (.ref 100000), some (.ref 0), some (.ref 101), some (.int (nI i))] [] (nn p) (MM I sp p) k1 k2 := by
  refine aE_aload_n dL_law_977 rfl rfl ?_
  refine aE_callV dL_law_978 lk_L_122 mv_X11_cost (hM) rfl (lt_nn (by decide)) rfl rfl hok (Nat.le_of_ble_eq_true rfl) hf ?_
  rintro r n' m' ⟨v, J, sp', rfl, rfl, rfl, hm⟩
  refine aE_aload_n dL_law_981 rfl rfl ?_
  refine aE_callV dL_law_982 lk_L_125 mv_X12_cost (hm) rfl (lt_nn (by decide)) rfl rfl ⟨by decide, by decide⟩ (Nat.le_of_ble_eq_true rfl) ⟨hf.1, hf.2⟩ ?_
  rintro r n' m' ⟨K, rfl, rfl, rfl, hI⟩
  refine aE_icmp_eq (tgt := 1363) dL_law_985 (by decide) (fun h985 => ?_) (fun h985 => absurd (rfl) h985)
  exact hK K sp' hI
set_option maxRecDepth 20000 in
theorem lc_trades (i : Nat) (hz : z.1 < 2 ^ 31) (hi : i + 6 ≤ z.1) (Rx : Room) (k1 k2 : Nat) (hM : aRuns mX11_trades Rx [.ref 0] (nn p) (MM I sp p) (KM p' mX12_trades (rK 7) [.ref 101])) (hok : a_ok mX11_trades Rx room_1) (hf : k1 + Rx.cells ≤ room_1.cells ∧ k2 + Rx.slots ≤ room_1.slots) (hK : ∀ J sp', Inv J sp' p' → aE z (mLn nm) room_1 Q 1363 [some (.ref 100000), some (.ref 0), some (.ref 101), some (.int (nI i))] [] (nn p') (MM J sp' p') (k1 + Rx.cells) (k2 + Rx.slots)) : aE z (mLn nm) room_1 Q 990 [some (.ref 100000), some (.ref 0), some (.ref 101), some (.int (nI i))] [] (nn p) (MM I sp p) k1 k2 := by
  refine aE_aload_n dL_law_990 rfl rfl ?_
  refine aE_callV dL_law_991 lk_L_126 mv_X11_trades (hM) rfl (lt_nn (by decide)) rfl rfl hok (Nat.le_of_ble_eq_true rfl) hf ?_
  rintro r n' m' ⟨v, J, sp', rfl, rfl, rfl, hm⟩
  refine aE_aload_n dL_law_994 rfl rfl ?_
  refine aE_callV dL_law_995 lk_L_129 mv_X12_trades (hm) rfl (lt_nn (by decide)) rfl rfl ⟨by decide, by decide⟩ (Nat.le_of_ble_eq_true rfl) ⟨hf.1, hf.2⟩ ?_
  rintro r n' m' ⟨K, rfl, rfl, rfl, hI⟩
  refine aE_icmp_eq (tgt := 1363) dL_law_998 (by decide) (fun h998 => ?_) (fun h998 => absurd (rfl) h998)
  exact hK K sp' hI
set_option maxRecDepth 20000 in
theorem lc_trade (i : Nat) (hz : z.1 < 2 ^ 31) (hi : i + 6 ≤ z.1) (Rx : Room) (k1 k2 : Nat) (hM : aRuns mX11_trade Rx [.ref 0, .int (z.2 (i + 1)), .int (z.2 (i + 2))] (nn p) (MM I sp p) (KM p' mX12_trade (rK 7) [.ref 101, .int (z.2 (i + 1)), .int (z.2 (i + 2))])) (hok : a_ok mX11_trade Rx room_1) (hf : k1 + Rx.cells ≤ room_1.cells ∧ k2 + Rx.slots ≤ room_1.slots) (hK : ∀ J sp', Inv J sp' p' → aE z (mLn nm) room_1 Q 1363 [some (.ref 100000), some (.ref 0), some (.ref 101), some (.int (nI i))] [] (nn p') (MM J sp' p') (k1 + Rx.cells) (k2 + Rx.slots)) : aE z (mLn nm) room_1 Q 1003 [some (.ref 100000), some (.ref 0), some (.ref 101), some (.int (nI i))] [] (nn p) (MM I sp p) k1 k2 := by
  refine aE_aload_n dL_law_1003 rfl rfl ?_
  refine aE_aload_n dL_law_1004 rfl rfl ?_
  refine aE_iload_n dL_law_1005 rfl rfl ?_
  refine aE_iconst (v := 1) dL_law_1006 rfl ?_
  refine aE_iadd dL_law_1007 ?_
  refine aE_sld dL_law_1008 (nI_add i 1) hz (by omega) ?_
  refine aE_aload_n dL_law_1009 rfl rfl ?_
  refine aE_iload_n dL_law_1010 rfl rfl ?_
  refine aE_iconst (v := 2) dL_law_1011 rfl ?_
  refine aE_iadd dL_law_1012 ?_
  refine aE_sld dL_law_1013 (nI_add i 2) hz (by omega) ?_
  refine aE_callV dL_law_1014 lk_L_130 mv_X11_trade (hM) rfl (lt_nn (by decide)) rfl rfl hok (Nat.le_of_ble_eq_true rfl) hf ?_
  rintro r n' m' ⟨v, J, sp', rfl, rfl, rfl, hm⟩
  refine aE_aload_n dL_law_1017 rfl rfl ?_
  refine aE_aload_n dL_law_1018 rfl rfl ?_
  refine aE_iload_n dL_law_1019 rfl rfl ?_
  refine aE_iconst (v := 1) dL_law_1020 rfl ?_
  refine aE_iadd dL_law_1021 ?_
  refine aE_sld dL_law_1022 (nI_add i 1) hz (by omega) ?_
  refine aE_aload_n dL_law_1023 rfl rfl ?_
  refine aE_iload_n dL_law_1024 rfl rfl ?_
  refine aE_iconst (v := 2) dL_law_1025 rfl ?_
  refine aE_iadd dL_law_1026 ?_
  refine aE_sld dL_law_1027 (nI_add i 2) hz (by omega) ?_
  refine aE_callV dL_law_1028 lk_L_133 mv_X12_trade (hm) rfl (lt_nn (by decide)) rfl rfl ⟨by decide, by decide⟩ (Nat.le_of_ble_eq_true rfl) ⟨hf.1, hf.2⟩ ?_
  rintro r n' m' ⟨K, rfl, rfl, rfl, hI⟩
  refine aE_icmp_eq (tgt := 1363) dL_law_1031 (by decide) (fun h1031 => ?_) (fun h1031 => absurd (rfl) h1031)
  exact hK K sp' hI
set_option maxRecDepth 20000 in
theorem lc_take (i : Nat) (hz : z.1 < 2 ^ 31) (hi : i + 6 ≤ z.1) (Rx : Room) (k1 k2 : Nat) (hM : aRuns mX11_take Rx [.ref 0, .int (z.2 (i + 1))] (nn p) (MM I sp p) (KM p' mX12_take (rK 7) [.ref 101, .int (z.2 (i + 1))])) (hok : a_ok mX11_take Rx room_1) (hf : k1 + Rx.cells ≤ room_1.cells ∧ k2 + Rx.slots ≤ room_1.slots) (hK : ∀ J sp', Inv J sp' p' → aE z (mLn nm) room_1 Q 1363 [some (.ref 100000), some (.ref 0), some (.ref 101), some (.int (nI i))] [] (nn p') (MM J sp' p') (k1 + Rx.cells) (k2 + Rx.slots)) : aE z (mLn nm) room_1 Q 1036 [some (.ref 100000), some (.ref 0), some (.ref 101), some (.int (nI i))] [] (nn p) (MM I sp p) k1 k2 := by
  refine aE_aload_n dL_law_1036 rfl rfl ?_
  refine aE_aload_n dL_law_1037 rfl rfl ?_
  refine aE_iload_n dL_law_1038 rfl rfl ?_
  refine aE_iconst (v := 1) dL_law_1039 rfl ?_
  refine aE_iadd dL_law_1040 ?_
  refine aE_sld dL_law_1041 (nI_add i 1) hz (by omega) ?_
  refine aE_callV dL_law_1042 lk_L_134 mv_X11_take (hM) rfl (lt_nn (by decide)) rfl rfl hok (Nat.le_of_ble_eq_true rfl) hf ?_
  rintro r n' m' ⟨v, J, sp', rfl, rfl, rfl, hm⟩
  refine aE_aload_n dL_law_1045 rfl rfl ?_
  refine aE_aload_n dL_law_1046 rfl rfl ?_
  refine aE_iload_n dL_law_1047 rfl rfl ?_
  refine aE_iconst (v := 1) dL_law_1048 rfl ?_
  refine aE_iadd dL_law_1049 ?_
  refine aE_sld dL_law_1050 (nI_add i 1) hz (by omega) ?_
  refine aE_callV dL_law_1051 lk_L_137 mv_X12_take (hm) rfl (lt_nn (by decide)) rfl rfl ⟨by decide, by decide⟩ (Nat.le_of_ble_eq_true rfl) ⟨hf.1, hf.2⟩ ?_
  rintro r n' m' ⟨K, rfl, rfl, rfl, hI⟩
  refine aE_icmp_eq (tgt := 1363) dL_law_1054 (by decide) (fun h1054 => ?_) (fun h1054 => absurd (rfl) h1054)
  exact hK K sp' hI
set_option maxRecDepth 20000 in
theorem lc_morning (i : Nat) (hz : z.1 < 2 ^ 31) (hi : i + 6 ≤ z.1) (Rx : Room) (k1 k2 : Nat) (hM : aRuns mX11_morning Rx [.ref 0, .int (z.2 (i + 1)), .int (z.2 (i + 2)), .int (z.2 (i + 3))] (nn p) (MM I sp p) (KM p' mX12_morning (rK 6) [.ref 101, .int (z.2 (i + 1)), .int (z.2 (i + 2)), .int (z.2 (i + 3))])) (hok : a_ok mX11_morning Rx room_1) (hf : k1 + Rx.cells ≤ room_1.cells ∧ k2 + Rx.slots ≤ room_1.slots) (hK : ∀ J sp', Inv J sp' p' → aE z (mLn nm) room_1 Q 1363 [some (.ref 100000), some (.ref 0), some (.ref 101), some (.int (nI i))] [] (nn p') (MM J sp' p') (k1 + Rx.cells) (k2 + Rx.slots)) : aE z (mLn nm) room_1 Q 1059 [some (.ref 100000), some (.ref 0), some (.ref 101), some (.int (nI i))] [] (nn p) (MM I sp p) k1 k2 := by
  refine aE_aload_n dL_law_1059 rfl rfl ?_
  refine aE_aload_n dL_law_1060 rfl rfl ?_
  refine aE_iload_n dL_law_1061 rfl rfl ?_
  refine aE_iconst (v := 1) dL_law_1062 rfl ?_
  refine aE_iadd dL_law_1063 ?_
  refine aE_sld dL_law_1064 (nI_add i 1) hz (by omega) ?_
  refine aE_aload_n dL_law_1065 rfl rfl ?_
  refine aE_iload_n dL_law_1066 rfl rfl ?_
  refine aE_iconst (v := 2) dL_law_1067 rfl ?_
  refine aE_iadd dL_law_1068 ?_
  refine aE_sld dL_law_1069 (nI_add i 2) hz (by omega) ?_
  refine aE_aload_n dL_law_1070 rfl rfl ?_
  refine aE_iload_n dL_law_1071 rfl rfl ?_
  refine aE_iconst (v := 3) dL_law_1072 rfl ?_
  refine aE_iadd dL_law_1073 ?_
  refine aE_sld dL_law_1074 (nI_add i 3) hz (by omega) ?_
  refine aE_callV dL_law_1075 lk_L_138 mv_X11_morning (hM) rfl (lt_nn (by decide)) rfl rfl hok (Nat.le_of_ble_eq_true rfl) hf ?_
  rintro r n' m' ⟨v, J, sp', rfl, rfl, rfl, hm⟩
  refine aE_aload_n dL_law_1078 rfl rfl ?_
  refine aE_aload_n dL_law_1079 rfl rfl ?_
  refine aE_iload_n dL_law_1080 rfl rfl ?_
  refine aE_iconst (v := 1) dL_law_1081 rfl ?_
  refine aE_iadd dL_law_1082 ?_
  refine aE_sld dL_law_1083 (nI_add i 1) hz (by omega) ?_
  refine aE_aload_n dL_law_1084 rfl rfl ?_
  refine aE_iload_n dL_law_1085 rfl rfl ?_
  refine aE_iconst (v := 2) dL_law_1086 rfl ?_
  refine aE_iadd dL_law_1087 ?_
  refine aE_sld dL_law_1088 (nI_add i 2) hz (by omega) ?_
  refine aE_aload_n dL_law_1089 rfl rfl ?_
  refine aE_iload_n dL_law_1090 rfl rfl ?_
  refine aE_iconst (v := 3) dL_law_1091 rfl ?_
  refine aE_iadd dL_law_1092 ?_
  refine aE_sld dL_law_1093 (nI_add i 3) hz (by omega) ?_
  refine aE_callV dL_law_1094 lk_L_141 mv_X12_morning (hm) rfl (lt_nn (by decide)) rfl rfl ⟨by decide, by decide⟩ (Nat.le_of_ble_eq_true rfl) ⟨hf.1, hf.2⟩ ?_
  rintro r n' m' ⟨K, rfl, rfl, rfl, hI⟩
  refine aE_icmp_eq (tgt := 1363) dL_law_1097 (by decide) (fun h1097 => ?_) (fun h1097 => absurd (rfl) h1097)
  exact hK K sp' hI
set_option maxRecDepth 20000 in
theorem lc_comes (i : Nat) (hz : z.1 < 2 ^ 31) (hi : i + 6 ≤ z.1) (Rx : Room) (k1 k2 : Nat) (hM : aRuns mX11_comes Rx [.ref 0, .int (z.2 (i + 1))] (nn p) (MM I sp p) (KM p' mX12_comes (rK 1) [.ref 101, .int (z.2 (i + 1))])) (hok : a_ok mX11_comes Rx room_1) (hf : k1 + Rx.cells ≤ room_1.cells ∧ k2 + Rx.slots ≤ room_1.slots) (hK : ∀ J sp', Inv J sp' p' → aE z (mLn nm) room_1 Q 1363 [some (.ref 100000), some (.ref 0), some (.ref 101), some (.int (nI i))] [] (nn p') (MM J sp' p') (k1 + Rx.cells) (k2 + Rx.slots)) : aE z (mLn nm) room_1 Q 1102 [some (.ref 100000), some (.ref 0), some (.ref 101), some (.int (nI i))] [] (nn p) (MM I sp p) k1 k2 := by
  refine aE_aload_n dL_law_1102 rfl rfl ?_
  refine aE_aload_n dL_law_1103 rfl rfl ?_
  refine aE_iload_n dL_law_1104 rfl rfl ?_
  refine aE_iconst (v := 1) dL_law_1105 rfl ?_
  refine aE_iadd dL_law_1106 ?_
  refine aE_sld dL_law_1107 (nI_add i 1) hz (by omega) ?_
  refine aE_callV dL_law_1108 lk_L_142 mv_X11_comes (hM) rfl (lt_nn (by decide)) rfl rfl hok (Nat.le_of_ble_eq_true rfl) hf ?_
  rintro r n' m' ⟨v, J, sp', rfl, rfl, rfl, hm⟩
  refine aE_aload_n dL_law_1111 rfl rfl ?_
  refine aE_aload_n dL_law_1112 rfl rfl ?_
  refine aE_iload_n dL_law_1113 rfl rfl ?_
  refine aE_iconst (v := 1) dL_law_1114 rfl ?_
  refine aE_iadd dL_law_1115 ?_
  refine aE_sld dL_law_1116 (nI_add i 1) hz (by omega) ?_
  refine aE_callV dL_law_1117 lk_L_145 mv_X12_comes (hm) rfl (lt_nn (by decide)) rfl rfl ⟨by decide, by decide⟩ (Nat.le_of_ble_eq_true rfl) ⟨hf.1, hf.2⟩ ?_
  rintro r n' m' ⟨K, rfl, rfl, rfl, hI⟩
  refine aE_icmp_eq (tgt := 1363) dL_law_1120 (by decide) (fun h1120 => ?_) (fun h1120 => absurd (rfl) h1120)
  exact hK K sp' hI
set_option maxRecDepth 20000 in
theorem lc_fair (i : Nat) (hz : z.1 < 2 ^ 31) (hi : i + 6 ≤ z.1) (Rx : Room) (k1 k2 : Nat) (hM : aRuns mX11_fair Rx [.ref 0, .int (z.2 (i + 1)), .int (z.2 (i + 2))] (nn p) (MM I sp p) (KM p' mX12_fair (rK 5) [.ref 101, .int (z.2 (i + 1)), .int (z.2 (i + 2))])) (hok : a_ok mX11_fair Rx room_1) (hf : k1 + Rx.cells ≤ room_1.cells ∧ k2 + Rx.slots ≤ room_1.slots) (hK : ∀ J sp', Inv J sp' p' → aE z (mLn nm) room_1 Q 1363 [some (.ref 100000), some (.ref 0), some (.ref 101), some (.int (nI i))] [] (nn p') (MM J sp' p') (k1 + Rx.cells) (k2 + Rx.slots)) : aE z (mLn nm) room_1 Q 1125 [some (.ref 100000), some (.ref 0), some (.ref 101), some (.int (nI i))] [] (nn p) (MM I sp p) k1 k2 := by
  refine aE_aload_n dL_law_1125 rfl rfl ?_
  refine aE_aload_n dL_law_1126 rfl rfl ?_
  refine aE_iload_n dL_law_1127 rfl rfl ?_
  refine aE_iconst (v := 1) dL_law_1128 rfl ?_
  refine aE_iadd dL_law_1129 ?_
  refine aE_sld dL_law_1130 (nI_add i 1) hz (by omega) ?_
  refine aE_aload_n dL_law_1131 rfl rfl ?_
  refine aE_iload_n dL_law_1132 rfl rfl ?_
  refine aE_iconst (v := 2) dL_law_1133 rfl ?_
  refine aE_iadd dL_law_1134 ?_
  refine aE_sld dL_law_1135 (nI_add i 2) hz (by omega) ?_
  refine aE_callV dL_law_1136 lk_L_146 mv_X11_fair (hM) rfl (lt_nn (by decide)) rfl rfl hok (Nat.le_of_ble_eq_true rfl) hf ?_
  rintro r n' m' ⟨v, J, sp', rfl, rfl, rfl, hm⟩
  refine aE_aload_n dL_law_1139 rfl rfl ?_
  refine aE_aload_n dL_law_1140 rfl rfl ?_
  refine aE_iload_n dL_law_1141 rfl rfl ?_
  refine aE_iconst (v := 1) dL_law_1142 rfl ?_
  refine aE_iadd dL_law_1143 ?_
  refine aE_sld dL_law_1144 (nI_add i 1) hz (by omega) ?_
  refine aE_aload_n dL_law_1145 rfl rfl ?_
  refine aE_iload_n dL_law_1146 rfl rfl ?_
  refine aE_iconst (v := 2) dL_law_1147 rfl ?_
  refine aE_iadd dL_law_1148 ?_
  refine aE_sld dL_law_1149 (nI_add i 2) hz (by omega) ?_
  refine aE_callV dL_law_1150 lk_L_149 mv_X12_fair (hm) rfl (lt_nn (by decide)) rfl rfl ⟨by decide, by decide⟩ (Nat.le_of_ble_eq_true rfl) ⟨hf.1, hf.2⟩ ?_
  rintro r n' m' ⟨K, rfl, rfl, rfl, hI⟩
  refine aE_icmp_eq (tgt := 1363) dL_law_1153 (by decide) (fun h1153 => ?_) (fun h1153 => absurd (rfl) h1153)
  exact hK K sp' hI
set_option maxRecDepth 20000 in
theorem lc_sheet (i : Nat) (hz : z.1 < 2 ^ 31) (hi : i + 6 ≤ z.1) (Rx : Room) (k1 k2 : Nat) (hM : aRuns mX11_sheet Rx [.ref 0, .int (z.2 (i + 1)), .int (z.2 (i + 2)), .int (z.2 (i + 3))] (nn p) (MM I sp p) (KM p' mX12_sheet (rK 2) [.ref 101, .int (z.2 (i + 1)), .int (z.2 (i + 2)), .int (z.2 (i + 3))])) (hok : a_ok mX11_sheet Rx room_1) (hf : k1 + Rx.cells ≤ room_1.cells ∧ k2 + Rx.slots ≤ room_1.slots) (hK : ∀ J sp', Inv J sp' p' → aE z (mLn nm) room_1 Q 1363 [some (.ref 100000), some (.ref 0), some (.ref 101), some (.int (nI i))] [] (nn p') (MM J sp' p') (k1 + Rx.cells) (k2 + Rx.slots)) : aE z (mLn nm) room_1 Q 1158 [some (.ref 100000), some (.ref 0), some (.ref 101), some (.int (nI i))] [] (nn p) (MM I sp p) k1 k2 := by
  refine aE_aload_n dL_law_1158 rfl rfl ?_
  refine aE_aload_n dL_law_1159 rfl rfl ?_
  refine aE_iload_n dL_law_1160 rfl rfl ?_
  refine aE_iconst (v := 1) dL_law_1161 rfl ?_
  refine aE_iadd dL_law_1162 ?_
  refine aE_sld dL_law_1163 (nI_add i 1) hz (by omega) ?_
  refine aE_aload_n dL_law_1164 rfl rfl ?_
  refine aE_iload_n dL_law_1165 rfl rfl ?_
  refine aE_iconst (v := 2) dL_law_1166 rfl ?_
  refine aE_iadd dL_law_1167 ?_
  refine aE_sld dL_law_1168 (nI_add i 2) hz (by omega) ?_
  refine aE_aload_n dL_law_1169 rfl rfl ?_
  refine aE_iload_n dL_law_1170 rfl rfl ?_
  refine aE_iconst (v := 3) dL_law_1171 rfl ?_
  refine aE_iadd dL_law_1172 ?_
  refine aE_sld dL_law_1173 (nI_add i 3) hz (by omega) ?_
  refine aE_callV dL_law_1174 lk_L_150 mv_X11_sheet (hM) rfl (lt_nn (by decide)) rfl rfl hok (Nat.le_of_ble_eq_true rfl) hf ?_
  rintro r n' m' ⟨v, J, sp', rfl, rfl, rfl, hm⟩
  refine aE_aload_n dL_law_1177 rfl rfl ?_
  refine aE_aload_n dL_law_1178 rfl rfl ?_
  refine aE_iload_n dL_law_1179 rfl rfl ?_
  refine aE_iconst (v := 1) dL_law_1180 rfl ?_
  refine aE_iadd dL_law_1181 ?_
  refine aE_sld dL_law_1182 (nI_add i 1) hz (by omega) ?_
  refine aE_aload_n dL_law_1183 rfl rfl ?_
  refine aE_iload_n dL_law_1184 rfl rfl ?_
  refine aE_iconst (v := 2) dL_law_1185 rfl ?_
  refine aE_iadd dL_law_1186 ?_
  refine aE_sld dL_law_1187 (nI_add i 2) hz (by omega) ?_
  refine aE_aload_n dL_law_1188 rfl rfl ?_
  refine aE_iload_n dL_law_1189 rfl rfl ?_
  refine aE_iconst (v := 3) dL_law_1190 rfl ?_
  refine aE_iadd dL_law_1191 ?_
  refine aE_sld dL_law_1192 (nI_add i 3) hz (by omega) ?_
  refine aE_callV dL_law_1193 lk_L_153 mv_X12_sheet (hm) rfl (lt_nn (by decide)) rfl rfl ⟨by decide, by decide⟩ (Nat.le_of_ble_eq_true rfl) ⟨hf.1, hf.2⟩ ?_
  rintro r n' m' ⟨K, rfl, rfl, rfl, hI⟩
  refine aE_icmp_eq (tgt := 1363) dL_law_1196 (by decide) (fun h1196 => ?_) (fun h1196 => absurd (rfl) h1196)
  exact hK K sp' hI
set_option maxRecDepth 20000 in
theorem lc_write (i : Nat) (hz : z.1 < 2 ^ 31) (hi : i + 6 ≤ z.1) (Rx : Room) (k1 k2 : Nat) (hM : aRuns mX11_write Rx [.ref 0, .int (z.2 (i + 1)), .int (z.2 (i + 2)), .int (z.2 (i + 3))] (nn p) (MM I sp p) (KM p' mX12_write (rK 2) [.ref 101, .int (z.2 (i + 1)), .int (z.2 (i + 2)), .int (z.2 (i + 3))])) (hok : a_ok mX11_write Rx room_1) (hf : k1 + Rx.cells ≤ room_1.cells ∧ k2 + Rx.slots ≤ room_1.slots) (hK : ∀ J sp', Inv J sp' p' → aE z (mLn nm) room_1 Q 1363 [some (.ref 100000), some (.ref 0), some (.ref 101), some (.int (nI i))] [] (nn p') (MM J sp' p') (k1 + Rx.cells) (k2 + Rx.slots)) : aE z (mLn nm) room_1 Q 1201 [some (.ref 100000), some (.ref 0), some (.ref 101), some (.int (nI i))] [] (nn p) (MM I sp p) k1 k2 := by
  refine aE_aload_n dL_law_1201 rfl rfl ?_
  refine aE_aload_n dL_law_1202 rfl rfl ?_
  refine aE_iload_n dL_law_1203 rfl rfl ?_
  refine aE_iconst (v := 1) dL_law_1204 rfl ?_
  refine aE_iadd dL_law_1205 ?_
  refine aE_sld dL_law_1206 (nI_add i 1) hz (by omega) ?_
  refine aE_aload_n dL_law_1207 rfl rfl ?_
  refine aE_iload_n dL_law_1208 rfl rfl ?_
  refine aE_iconst (v := 2) dL_law_1209 rfl ?_
  refine aE_iadd dL_law_1210 ?_
  refine aE_sld dL_law_1211 (nI_add i 2) hz (by omega) ?_
  refine aE_aload_n dL_law_1212 rfl rfl ?_
  refine aE_iload_n dL_law_1213 rfl rfl ?_
  refine aE_iconst (v := 3) dL_law_1214 rfl ?_
  refine aE_iadd dL_law_1215 ?_
  refine aE_sld dL_law_1216 (nI_add i 3) hz (by omega) ?_
  refine aE_callV dL_law_1217 lk_L_154 mv_X11_write (hM) rfl (lt_nn (by decide)) rfl rfl hok (Nat.le_of_ble_eq_true rfl) hf ?_
  rintro r n' m' ⟨v, J, sp', rfl, rfl, rfl, hm⟩
  refine aE_aload_n dL_law_1220 rfl rfl ?_
  refine aE_aload_n dL_law_1221 rfl rfl ?_
  refine aE_iload_n dL_law_1222 rfl rfl ?_
  refine aE_iconst (v := 1) dL_law_1223 rfl ?_
  refine aE_iadd dL_law_1224 ?_
  refine aE_sld dL_law_1225 (nI_add i 1) hz (by omega) ?_
  refine aE_aload_n dL_law_1226 rfl rfl ?_
  refine aE_iload_n dL_law_1227 rfl rfl ?_
  refine aE_iconst (v := 2) dL_law_1228 rfl ?_
  refine aE_iadd dL_law_1229 ?_
  refine aE_sld dL_law_1230 (nI_add i 2) hz (by omega) ?_
  refine aE_aload_n dL_law_1231 rfl rfl ?_
  refine aE_iload_n dL_law_1232 rfl rfl ?_
  refine aE_iconst (v := 3) dL_law_1233 rfl ?_
  refine aE_iadd dL_law_1234 ?_
  refine aE_sld dL_law_1235 (nI_add i 3) hz (by omega) ?_
  refine aE_callV dL_law_1236 lk_L_157 mv_X12_write (hm) rfl (lt_nn (by decide)) rfl rfl ⟨by decide, by decide⟩ (Nat.le_of_ble_eq_true rfl) ⟨hf.1, hf.2⟩ ?_
  rintro r n' m' ⟨K, rfl, rfl, rfl, hI⟩
  refine aE_icmp_eq (tgt := 1363) dL_law_1239 (by decide) (fun h1239 => ?_) (fun h1239 => absurd (rfl) h1239)
  exact hK K sp' hI
set_option maxRecDepth 20000 in
theorem lc_copy (i : Nat) (hz : z.1 < 2 ^ 31) (hi : i + 6 ≤ z.1) (Rx : Room) (k1 k2 : Nat) (hM : aRuns mX11_copy Rx [.ref 0, .int (z.2 (i + 1)), .int (z.2 (i + 2)), .int (z.2 (i + 3)), .int (z.2 (i + 4)), .int (z.2 (i + 5))] (nn p) (MM I sp p) (KM p' mX12_copy (rK 2) [.ref 101, .int (z.2 (i + 1)), .int (z.2 (i + 2)), .int (z.2 (i + 3)), .int (z.2 (i + 4)), .int (z.2 (i + 5))])) (hok : a_ok mX11_copy Rx room_1) (hf : k1 + Rx.cells ≤ room_1.cells ∧ k2 + Rx.slots ≤ room_1.slots) (hK : ∀ J sp', Inv J sp' p' → aE z (mLn nm) room_1 Q 1363 [some (.ref 100000), some (.ref 0), some (.ref 101), some (.int (nI i))] [] (nn p') (MM J sp' p') (k1 + Rx.cells) (k2 + Rx.slots)) : aE z (mLn nm) room_1 Q 1244 [some (.ref 100000), some (.ref 0), some (.ref 101), some (.int (nI i))] [] (nn p) (MM I sp p) k1 k2 := by
  refine aE_aload_n dL_law_1244 rfl rfl ?_
  refine aE_aload_n dL_law_1245 rfl rfl ?_
  refine aE_iload_n dL_law_1246 rfl rfl ?_
  refine aE_iconst (v := 1) dL_law_1247 rfl ?_
  refine aE_iadd dL_law_1248 ?_
  refine aE_sld dL_law_1249 (nI_add i 1) hz (by omega) ?_
  refine aE_aload_n dL_law_1250 rfl rfl ?_
  refine aE_iload_n dL_law_1251 rfl rfl ?_
  refine aE_iconst (v := 2) dL_law_1252 rfl ?_
  refine aE_iadd dL_law_1253 ?_
  refine aE_sld dL_law_1254 (nI_add i 2) hz (by omega) ?_
  refine aE_aload_n dL_law_1255 rfl rfl ?_
  refine aE_iload_n dL_law_1256 rfl rfl ?_
  refine aE_iconst (v := 3) dL_law_1257 rfl ?_
  refine aE_iadd dL_law_1258 ?_
  refine aE_sld dL_law_1259 (nI_add i 3) hz (by omega) ?_
  refine aE_aload_n dL_law_1260 rfl rfl ?_
  refine aE_iload_n dL_law_1261 rfl rfl ?_
  refine aE_iconst (v := 4) dL_law_1262 rfl ?_
  refine aE_iadd dL_law_1263 ?_
  refine aE_sld dL_law_1264 (nI_add i 4) hz (by omega) ?_
  refine aE_aload_n dL_law_1265 rfl rfl ?_
  refine aE_iload_n dL_law_1266 rfl rfl ?_
  refine aE_iconst (v := 5) dL_law_1267 rfl ?_
  refine aE_iadd dL_law_1268 ?_
  refine aE_sld dL_law_1269 (nI_add i 5) hz (by omega) ?_
  refine aE_callV dL_law_1270 lk_L_158 mv_X11_copy (hM) rfl (lt_nn (by decide)) rfl rfl hok (Nat.le_of_ble_eq_true rfl) hf ?_
  rintro r n' m' ⟨v, J, sp', rfl, rfl, rfl, hm⟩
  refine aE_aload_n dL_law_1273 rfl rfl ?_
  refine aE_aload_n dL_law_1274 rfl rfl ?_
  refine aE_iload_n dL_law_1275 rfl rfl ?_
  refine aE_iconst (v := 1) dL_law_1276 rfl ?_
  refine aE_iadd dL_law_1277 ?_
  refine aE_sld dL_law_1278 (nI_add i 1) hz (by omega) ?_
  refine aE_aload_n dL_law_1279 rfl rfl ?_
  refine aE_iload_n dL_law_1280 rfl rfl ?_
  refine aE_iconst (v := 2) dL_law_1281 rfl ?_
  refine aE_iadd dL_law_1282 ?_
  refine aE_sld dL_law_1283 (nI_add i 2) hz (by omega) ?_
  refine aE_aload_n dL_law_1284 rfl rfl ?_
  refine aE_iload_n dL_law_1285 rfl rfl ?_
  refine aE_iconst (v := 3) dL_law_1286 rfl ?_
  refine aE_iadd dL_law_1287 ?_
  refine aE_sld dL_law_1288 (nI_add i 3) hz (by omega) ?_
  refine aE_aload_n dL_law_1289 rfl rfl ?_
  refine aE_iload_n dL_law_1290 rfl rfl ?_
  refine aE_iconst (v := 4) dL_law_1291 rfl ?_
  refine aE_iadd dL_law_1292 ?_
  refine aE_sld dL_law_1293 (nI_add i 4) hz (by omega) ?_
  refine aE_aload_n dL_law_1294 rfl rfl ?_
  refine aE_iload_n dL_law_1295 rfl rfl ?_
  refine aE_iconst (v := 5) dL_law_1296 rfl ?_
  refine aE_iadd dL_law_1297 ?_
  refine aE_sld dL_law_1298 (nI_add i 5) hz (by omega) ?_
  refine aE_callV dL_law_1299 lk_L_162 mv_X12_copy (hm) rfl (lt_nn (by decide)) rfl rfl ⟨by decide, by decide⟩ (Nat.le_of_ble_eq_true rfl) ⟨hf.1, hf.2⟩ ?_
  rintro r n' m' ⟨K, rfl, rfl, rfl, hI⟩
  refine aE_icmp_eq (tgt := 1363) dL_law_1302 (by decide) (fun h1302 => ?_) (fun h1302 => absurd (rfl) h1302)
  exact hK K sp' hI
set_option maxRecDepth 20000 in
theorem lc_read (i : Nat) (hz : z.1 < 2 ^ 31) (hi : i + 6 ≤ z.1) (Rx : Room) (k1 k2 : Nat) (hM : aRuns mX11_read Rx [.ref 0, .int (z.2 (i + 1)), .int (z.2 (i + 2))] (nn p) (MM I sp p) (KM p' mX12_read (rK 2) [.ref 101, .int (z.2 (i + 1)), .int (z.2 (i + 2))])) (hok : a_ok mX11_read Rx room_1) (hf : k1 + Rx.cells ≤ room_1.cells ∧ k2 + Rx.slots ≤ room_1.slots) (hK : ∀ J sp', Inv J sp' p' → aE z (mLn nm) room_1 Q 1363 [some (.ref 100000), some (.ref 0), some (.ref 101), some (.int (nI i))] [] (nn p') (MM J sp' p') (k1 + Rx.cells) (k2 + Rx.slots)) : aE z (mLn nm) room_1 Q 1307 [some (.ref 100000), some (.ref 0), some (.ref 101), some (.int (nI i))] [] (nn p) (MM I sp p) k1 k2 := by
  refine aE_aload_n dL_law_1307 rfl rfl ?_
  refine aE_aload_n dL_law_1308 rfl rfl ?_
  refine aE_iload_n dL_law_1309 rfl rfl ?_
  refine aE_iconst (v := 1) dL_law_1310 rfl ?_
  refine aE_iadd dL_law_1311 ?_
  refine aE_sld dL_law_1312 (nI_add i 1) hz (by omega) ?_
  refine aE_aload_n dL_law_1313 rfl rfl ?_
  refine aE_iload_n dL_law_1314 rfl rfl ?_
  refine aE_iconst (v := 2) dL_law_1315 rfl ?_
  refine aE_iadd dL_law_1316 ?_
  refine aE_sld dL_law_1317 (nI_add i 2) hz (by omega) ?_
  refine aE_callV dL_law_1318 lk_L_163 mv_X11_read (hM) rfl (lt_nn (by decide)) rfl rfl hok (Nat.le_of_ble_eq_true rfl) hf ?_
  rintro r n' m' ⟨v, J, sp', rfl, rfl, rfl, hm⟩
  refine aE_aload_n dL_law_1321 rfl rfl ?_
  refine aE_aload_n dL_law_1322 rfl rfl ?_
  refine aE_iload_n dL_law_1323 rfl rfl ?_
  refine aE_iconst (v := 1) dL_law_1324 rfl ?_
  refine aE_iadd dL_law_1325 ?_
  refine aE_sld dL_law_1326 (nI_add i 1) hz (by omega) ?_
  refine aE_aload_n dL_law_1327 rfl rfl ?_
  refine aE_iload_n dL_law_1328 rfl rfl ?_
  refine aE_iconst (v := 2) dL_law_1329 rfl ?_
  refine aE_iadd dL_law_1330 ?_
  refine aE_sld dL_law_1331 (nI_add i 2) hz (by omega) ?_
  refine aE_callV dL_law_1332 lk_L_166 mv_X12_read (hm) rfl (lt_nn (by decide)) rfl rfl ⟨by decide, by decide⟩ (Nat.le_of_ble_eq_true rfl) ⟨hf.1, hf.2⟩ ?_
  rintro r n' m' ⟨K, rfl, rfl, rfl, hI⟩
  refine aE_icmp_eq (tgt := 1363) dL_law_1335 (by decide) (fun h1335 => ?_) (fun h1335 => absurd (rfl) h1335)
  exact hK K sp' hI
set_option maxRecDepth 20000 in
theorem lc_told (i : Nat) (hz : z.1 < 2 ^ 31) (hi : i + 6 ≤ z.1) (Rx : Room) (k1 k2 : Nat) (hM : aRuns mX11_told Rx [.ref 0, .int (z.2 (i + 1))] (nn p) (MM I sp p) (KM p' mX12_told (rK 1) [.ref 101, .int (z.2 (i + 1))])) (hok : a_ok mX11_told Rx room_1) (hf : k1 + Rx.cells ≤ room_1.cells ∧ k2 + Rx.slots ≤ room_1.slots) (hK : ∀ J sp', Inv J sp' p' → aE z (mLn nm) room_1 Q 1363 [some (.ref 100000), some (.ref 0), some (.ref 101), some (.int (nI i))] [] (nn p') (MM J sp' p') (k1 + Rx.cells) (k2 + Rx.slots)) : aE z (mLn nm) room_1 Q 1340 [some (.ref 100000), some (.ref 0), some (.ref 101), some (.int (nI i))] [] (nn p) (MM I sp p) k1 k2 := by
  refine aE_aload_n dL_law_1340 rfl rfl ?_
  refine aE_aload_n dL_law_1341 rfl rfl ?_
  refine aE_iload_n dL_law_1342 rfl rfl ?_
  refine aE_iconst (v := 1) dL_law_1343 rfl ?_
  refine aE_iadd dL_law_1344 ?_
  refine aE_sld dL_law_1345 (nI_add i 1) hz (by omega) ?_
  refine aE_callV dL_law_1346 lk_L_167 mv_X11_told (hM) rfl (lt_nn (by decide)) rfl rfl hok (Nat.le_of_ble_eq_true rfl) hf ?_
  rintro r n' m' ⟨v, J, sp', rfl, rfl, rfl, hm⟩
  refine aE_aload_n dL_law_1349 rfl rfl ?_
  refine aE_aload_n dL_law_1350 rfl rfl ?_
  refine aE_iload_n dL_law_1351 rfl rfl ?_
  refine aE_iconst (v := 1) dL_law_1352 rfl ?_
  refine aE_iadd dL_law_1353 ?_
  refine aE_sld dL_law_1354 (nI_add i 1) hz (by omega) ?_
  refine aE_callV dL_law_1355 lk_L_170 mv_X12_told (hm) rfl (lt_nn (by decide)) rfl rfl ⟨by decide, by decide⟩ (Nat.le_of_ble_eq_true rfl) ⟨hf.1, hf.2⟩ ?_
  rintro r n' m' ⟨K, rfl, rfl, rfl, hI⟩
  refine aE_icmp_eq (tgt := 1363) dL_law_1358 (by decide) (fun h1358 => ?_) (fun h1358 => absurd (rfl) h1358)
  exact hK K sp' hI
end LAW
