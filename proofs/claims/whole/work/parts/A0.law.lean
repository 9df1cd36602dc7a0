/-! THE LAW: its body. -/
theorem J_ex (v : Int32) : ∃ z : Int, (-2147483648 ≤ z ∧ z < 2147483648) ∧ v = J z := by
  refine ⟨v.toInt, ⟨?_, ?_⟩, ?_⟩
  · exact Int32.le_toInt v
  · exact Int32.toInt_lt v
  · unfold J
    exact (Int32.ofInt_toInt v).symm
theorem Ex_sloadN {S : mj_S} {μ : mj_Y} {pc : Nat} {ls : mj_L} {st : List Value} {h : mj_H} {Q : Option Value → mj_H → Prop} {i : Int32} {a : Nat} {f : UInt32} (hμ : μ.1 = yL_law) (hd : decode μ.2.1 pc = .ok (.iaload, 1)) (hi : i = nI a) (ha : a < S.1) (hb : S.1 ≤ 3584) (k : Ex S μ (pc + 1) ls (.int (S.2 a) :: st) h Q) : Ex S μ pc ls (.int i :: .float f :: st) h Q := by
  subst hi
  refine Ex_sload hμ hd ?_ ?_
  · intro z
    rcases z with z | z
    · exact nI_nonneg (by omega) z
    · rw [nI_nat (by omega)] at z
      omega
  · rw [nI_nat (by omega)]
    exact k
theorem law_0 {S : mj_S} (hS : S.1 ≤ 3584) {t : Nat} (ht : 7 * t + 7 ≤ S.1) {h : mj_H} (hX : LX t h) {Q : Option Value → mj_H → Prop} (kx : ∀ h2, LX (t + 1) h2 → Ex S law 1708 [some (.float 0), some (.ref 0), some (.ref 38), some (.int (nI (7 * t)))] [] h2 Q) : Ex S law 196 [some (.float 0), some (.ref 0), some (.ref 38), some (.int (nI (7 * t)))] [] h Q := by
  obtain ⟨⟨K, P, G, R, F, Y, hs, hC, hM, hO⟩, hr⟩ := hX
  obtain ⟨z1, b1, e1⟩ := J_ex (S.2 (7 * t + 1))
  obtain ⟨z2, b2, e2⟩ := J_ex (S.2 (7 * t + 2))
  obtain ⟨z4, b4, e4⟩ := J_ex (S.2 (7 * t + 4))
  refine Ex_aload_n d_law_196 rfl ?_
  refine Ex_aloads_n d_law_197 rfl ?_
  refine Ex_iload_n d_law_198 rfl ?_
  refine Ex_iconst d_law_199 ic_1 ?_
  refine Ex_iaddN (7 * t) (1) d_law_200 rfl rfl ?_
  refine Ex_sloadN (a := (7 * t) + 1) rfl d_law_201 rfl (by omega) (by omega) ?_
  rw [show ((S.2 ((7 * t) + 1)) : Int32) = (J (z1)) from e1]
  refine Ex_aloads_n d_law_202 rfl ?_
  refine Ex_iload_n d_law_203 rfl ?_
  refine Ex_iconst d_law_204 ic_2 ?_
  refine Ex_iaddN (7 * t) (2) d_law_205 rfl rfl ?_
  refine Ex_sloadN (a := (7 * t) + 2) rfl d_law_206 rfl (by omega) (by omega) ?_
  rw [show ((S.2 ((7 * t) + 2)) : Int32) = (J (z2)) from e2]
  refine Ex_aloads_n d_law_207 rfl ?_
  refine Ex_iload_n d_law_208 rfl ?_
  refine Ex_iconst d_law_209 ic_3 ?_
  refine Ex_iaddN (7 * t) (3) d_law_210 rfl rfl ?_
  refine Ex_sloadN (a := (7 * t) + 3) rfl d_law_211 rfl (by omega) (by omega) ?_
  refine Ex_if_eq 219 d_law_212 rfl (fun hc212 => ?_) (fun hc212 => ?_)
  · refine Ex_iconst d_law_219 ic_0 ?_
    refine Ex_aloads_n d_law_220 rfl ?_
    refine Ex_iload_n d_law_221 rfl ?_
    refine Ex_iconst d_law_222 ic_4 ?_
    refine Ex_iaddN (7 * t) (4) d_law_223 rfl rfl ?_
    refine Ex_sloadN (a := (7 * t) + 4) rfl d_law_224 rfl (by omega) (by omega) ?_
    rw [show ((S.2 ((7 * t) + 4)) : Int32) = (J (z4)) from e4]
    refine Ex_aloads_n d_law_225 rfl ?_
    refine Ex_iload_n d_law_226 rfl ?_
    refine Ex_iconst d_law_227 ic_5 ?_
    refine Ex_iaddN (7 * t) (5) d_law_228 rfl rfl ?_
    refine Ex_sloadN (a := (7 * t) + 5) rfl d_law_229 rfl (by omega) (by omega) ?_
    refine Ex_i2l d_law_230 ?_
    refine Ex_bipush d_law_231 bp_32 ?_
    refine Ex_lshl d_law_233 ?_
    refine Ex_aloads_n d_law_234 rfl ?_
    refine Ex_iload_n d_law_235 rfl ?_
    refine Ex_bipush d_law_236 bp_6 ?_
    refine Ex_iaddN (7 * t) (6) d_law_238 rfl rfl ?_
    refine Ex_sloadN (a := (7 * t) + 6) rfl d_law_239 rfl (by omega) (by omega) ?_
    refine Ex_i2l d_law_240 ?_
    refine Ex_ldc2_w pi_law_13 d_law_241 ?_
    refine Ex_land d_law_244 ?_
    refine Ex_lor d_law_245 ?_
    refine Ex_cV5 d_law_246 pk_law_15 (t_0 hs) (pr_kind hs hC hM hO hr b1 b2 b4 false _) ?_
    rintro rv h1 ⟨x, rfl, hs1, hR⟩
    show Ex S law 249 [some (.float 0), some (.ref 0), some (.ref 38), some (.int (nI (7 * t)))] [.int (x)] h1 _
    refine Ex_aload_n d_law_249 rfl ?_
    refine Ex_aloads_n d_law_250 rfl ?_
    refine Ex_iload_n d_law_251 rfl ?_
    refine Ex_iconst d_law_252 ic_1 ?_
    refine Ex_iaddN (7 * t) (1) d_law_253 rfl rfl ?_
    refine Ex_sloadN (a := (7 * t) + 1) rfl d_law_254 rfl (by omega) (by omega) ?_
    rw [show ((S.2 ((7 * t) + 1)) : Int32) = (J (z1)) from e1]
    refine Ex_aloads_n d_law_255 rfl ?_
    refine Ex_iload_n d_law_256 rfl ?_
    refine Ex_iconst d_law_257 ic_2 ?_
    refine Ex_iaddN (7 * t) (2) d_law_258 rfl rfl ?_
    refine Ex_sloadN (a := (7 * t) + 2) rfl d_law_259 rfl (by omega) (by omega) ?_
    rw [show ((S.2 ((7 * t) + 2)) : Int32) = (J (z2)) from e2]
    refine Ex_aloads_n d_law_260 rfl ?_
    refine Ex_iload_n d_law_261 rfl ?_
    refine Ex_iconst d_law_262 ic_3 ?_
    refine Ex_iaddN (7 * t) (3) d_law_263 rfl rfl ?_
    refine Ex_sloadN (a := (7 * t) + 3) rfl d_law_264 rfl (by omega) (by omega) ?_
    refine Ex_if_eq 272 d_law_265 rfl (fun hc265 => ?_) (fun hc265 => ?_)
    · refine Ex_iconst d_law_272 ic_0 ?_
      refine Ex_aloads_n d_law_273 rfl ?_
      refine Ex_iload_n d_law_274 rfl ?_
      refine Ex_iconst d_law_275 ic_4 ?_
      refine Ex_iaddN (7 * t) (4) d_law_276 rfl rfl ?_
      refine Ex_sloadN (a := (7 * t) + 4) rfl d_law_277 rfl (by omega) (by omega) ?_
      rw [show ((S.2 ((7 * t) + 4)) : Int32) = (J (z4)) from e4]
      refine Ex_aloads_n d_law_278 rfl ?_
      refine Ex_iload_n d_law_279 rfl ?_
      refine Ex_iconst d_law_280 ic_5 ?_
      refine Ex_iaddN (7 * t) (5) d_law_281 rfl rfl ?_
      refine Ex_sloadN (a := (7 * t) + 5) rfl d_law_282 rfl (by omega) (by omega) ?_
      refine Ex_i2l d_law_283 ?_
      refine Ex_bipush d_law_284 bp_32 ?_
      refine Ex_lshl d_law_286 ?_
      refine Ex_aloads_n d_law_287 rfl ?_
      refine Ex_iload_n d_law_288 rfl ?_
      refine Ex_bipush d_law_289 bp_6 ?_
      refine Ex_iaddN (7 * t) (6) d_law_291 rfl rfl ?_
      refine Ex_sloadN (a := (7 * t) + 6) rfl d_law_292 rfl (by omega) (by omega) ?_
      refine Ex_i2l d_law_293 ?_
      refine Ex_ldc2_w pi_law_13 d_law_294 ?_
      refine Ex_land d_law_297 ?_
      refine Ex_lor d_law_298 ?_
      refine Ex_cV5 d_law_299 pk_law_19 (t_38 hs1) hR ?_
      rintro rv h2 ⟨rfl, hL⟩
      show Ex S law 302 [some (.float 0), some (.ref 0), some (.ref 38), some (.int (nI (7 * t)))] [.int (x), .int (x)] h2 _
      refine Ex_icmp_eq 1708 d_law_302 rfl (fun hc302 => ?_) (fun hc302 => ?_)
      · exact kx h2 hL
      · exact absurd rfl hc302
    · exact absurd hc212 hc265
  · refine Ex_iconst d_law_215 ic_1 ?_
    refine Ex_goto 220 d_law_216 rfl ?_
    refine Ex_aloads_n d_law_220 rfl ?_
    refine Ex_iload_n d_law_221 rfl ?_
    refine Ex_iconst d_law_222 ic_4 ?_
    refine Ex_iaddN (7 * t) (4) d_law_223 rfl rfl ?_
    refine Ex_sloadN (a := (7 * t) + 4) rfl d_law_224 rfl (by omega) (by omega) ?_
    rw [show ((S.2 ((7 * t) + 4)) : Int32) = (J (z4)) from e4]
    refine Ex_aloads_n d_law_225 rfl ?_
    refine Ex_iload_n d_law_226 rfl ?_
    refine Ex_iconst d_law_227 ic_5 ?_
    refine Ex_iaddN (7 * t) (5) d_law_228 rfl rfl ?_
    refine Ex_sloadN (a := (7 * t) + 5) rfl d_law_229 rfl (by omega) (by omega) ?_
    refine Ex_i2l d_law_230 ?_
    refine Ex_bipush d_law_231 bp_32 ?_
    refine Ex_lshl d_law_233 ?_
    refine Ex_aloads_n d_law_234 rfl ?_
    refine Ex_iload_n d_law_235 rfl ?_
    refine Ex_bipush d_law_236 bp_6 ?_
    refine Ex_iaddN (7 * t) (6) d_law_238 rfl rfl ?_
    refine Ex_sloadN (a := (7 * t) + 6) rfl d_law_239 rfl (by omega) (by omega) ?_
    refine Ex_i2l d_law_240 ?_
    refine Ex_ldc2_w pi_law_13 d_law_241 ?_
    refine Ex_land d_law_244 ?_
    refine Ex_lor d_law_245 ?_
    refine Ex_cV5 d_law_246 pk_law_15 (t_0 hs) (pr_kind hs hC hM hO hr b1 b2 b4 true _) ?_
    rintro rv h1 ⟨x, rfl, hs1, hR⟩
    show Ex S law 249 [some (.float 0), some (.ref 0), some (.ref 38), some (.int (nI (7 * t)))] [.int (x)] h1 _
    refine Ex_aload_n d_law_249 rfl ?_
    refine Ex_aloads_n d_law_250 rfl ?_
    refine Ex_iload_n d_law_251 rfl ?_
    refine Ex_iconst d_law_252 ic_1 ?_
    refine Ex_iaddN (7 * t) (1) d_law_253 rfl rfl ?_
    refine Ex_sloadN (a := (7 * t) + 1) rfl d_law_254 rfl (by omega) (by omega) ?_
    rw [show ((S.2 ((7 * t) + 1)) : Int32) = (J (z1)) from e1]
    refine Ex_aloads_n d_law_255 rfl ?_
    refine Ex_iload_n d_law_256 rfl ?_
    refine Ex_iconst d_law_257 ic_2 ?_
    refine Ex_iaddN (7 * t) (2) d_law_258 rfl rfl ?_
    refine Ex_sloadN (a := (7 * t) + 2) rfl d_law_259 rfl (by omega) (by omega) ?_
    rw [show ((S.2 ((7 * t) + 2)) : Int32) = (J (z2)) from e2]
    refine Ex_aloads_n d_law_260 rfl ?_
    refine Ex_iload_n d_law_261 rfl ?_
    refine Ex_iconst d_law_262 ic_3 ?_
    refine Ex_iaddN (7 * t) (3) d_law_263 rfl rfl ?_
    refine Ex_sloadN (a := (7 * t) + 3) rfl d_law_264 rfl (by omega) (by omega) ?_
    refine Ex_if_eq 272 d_law_265 rfl (fun hc265 => ?_) (fun hc265 => ?_)
    · exact absurd hc265 hc212
    · refine Ex_iconst d_law_268 ic_1 ?_
      refine Ex_goto 273 d_law_269 rfl ?_
      refine Ex_aloads_n d_law_273 rfl ?_
      refine Ex_iload_n d_law_274 rfl ?_
      refine Ex_iconst d_law_275 ic_4 ?_
      refine Ex_iaddN (7 * t) (4) d_law_276 rfl rfl ?_
      refine Ex_sloadN (a := (7 * t) + 4) rfl d_law_277 rfl (by omega) (by omega) ?_
      rw [show ((S.2 ((7 * t) + 4)) : Int32) = (J (z4)) from e4]
      refine Ex_aloads_n d_law_278 rfl ?_
      refine Ex_iload_n d_law_279 rfl ?_
      refine Ex_iconst d_law_280 ic_5 ?_
      refine Ex_iaddN (7 * t) (5) d_law_281 rfl rfl ?_
      refine Ex_sloadN (a := (7 * t) + 5) rfl d_law_282 rfl (by omega) (by omega) ?_
      refine Ex_i2l d_law_283 ?_
      refine Ex_bipush d_law_284 bp_32 ?_
      refine Ex_lshl d_law_286 ?_
      refine Ex_aloads_n d_law_287 rfl ?_
      refine Ex_iload_n d_law_288 rfl ?_
      refine Ex_bipush d_law_289 bp_6 ?_
      refine Ex_iaddN (7 * t) (6) d_law_291 rfl rfl ?_
      refine Ex_sloadN (a := (7 * t) + 6) rfl d_law_292 rfl (by omega) (by omega) ?_
      refine Ex_i2l d_law_293 ?_
      refine Ex_ldc2_w pi_law_13 d_law_294 ?_
      refine Ex_land d_law_297 ?_
      refine Ex_lor d_law_298 ?_
      refine Ex_cV5 d_law_299 pk_law_19 (t_38 hs1) hR ?_
      rintro rv h2 ⟨rfl, hL⟩
      show Ex S law 302 [some (.float 0), some (.ref 0), some (.ref 38), some (.int (nI (7 * t)))] [.int (x), .int (x)] h2 _
      refine Ex_icmp_eq 1708 d_law_302 rfl (fun hc302 => ?_) (fun hc302 => ?_)
      · exact kx h2 hL
      · exact absurd rfl hc302
theorem law_1 {S : mj_S} (hS : S.1 ≤ 3584) {t : Nat} (ht : 7 * t + 7 ≤ S.1) {h : mj_H} (hX : LX t h) {Q : Option Value → mj_H → Prop} (kx : ∀ h2, LX (t + 1) h2 → Ex S law 1708 [some (.float 0), some (.ref 0), some (.ref 38), some (.int (nI (7 * t)))] [] h2 Q) : Ex S law 307 [some (.float 0), some (.ref 0), some (.ref 38), some (.int (nI (7 * t)))] [] h Q := by
  obtain ⟨⟨K, P, G, R, F, Y, hs, hC, hM, hO⟩, hr⟩ := hX
  refine Ex_aload_n d_law_307 rfl ?_
  refine Ex_aloads_n d_law_308 rfl ?_
  refine Ex_iload_n d_law_309 rfl ?_
  refine Ex_iconst d_law_310 ic_1 ?_
  refine Ex_iaddN (7 * t) (1) d_law_311 rfl rfl ?_
  refine Ex_sloadN (a := (7 * t) + 1) rfl d_law_312 rfl (by omega) (by omega) ?_
  refine Ex_i2l d_law_313 ?_
  refine Ex_bipush d_law_314 bp_32 ?_
  refine Ex_lshl d_law_316 ?_
  refine Ex_aloads_n d_law_317 rfl ?_
  refine Ex_iload_n d_law_318 rfl ?_
  refine Ex_iconst d_law_319 ic_2 ?_
  refine Ex_iaddN (7 * t) (2) d_law_320 rfl rfl ?_
  refine Ex_sloadN (a := (7 * t) + 2) rfl d_law_321 rfl (by omega) (by omega) ?_
  refine Ex_i2l d_law_322 ?_
  refine Ex_ldc2_w pi_law_13 d_law_323 ?_
  refine Ex_land d_law_326 ?_
  refine Ex_lor d_law_327 ?_
  refine Ex_cV1 d_law_328 pk_law_20 (t_0 hs) (pr_named hs hC hM hO hr _) ?_
  rintro rv h1 ⟨x, rfl, hs1, hR⟩
  show Ex S law 331 [some (.float 0), some (.ref 0), some (.ref 38), some (.int (nI (7 * t)))] [.int (x)] h1 _
  refine Ex_aload_n d_law_331 rfl ?_
  refine Ex_aloads_n d_law_332 rfl ?_
  refine Ex_iload_n d_law_333 rfl ?_
  refine Ex_iconst d_law_334 ic_1 ?_
  refine Ex_iaddN (7 * t) (1) d_law_335 rfl rfl ?_
  refine Ex_sloadN (a := (7 * t) + 1) rfl d_law_336 rfl (by omega) (by omega) ?_
  refine Ex_i2l d_law_337 ?_
  refine Ex_bipush d_law_338 bp_32 ?_
  refine Ex_lshl d_law_340 ?_
  refine Ex_aloads_n d_law_341 rfl ?_
  refine Ex_iload_n d_law_342 rfl ?_
  refine Ex_iconst d_law_343 ic_2 ?_
  refine Ex_iaddN (7 * t) (2) d_law_344 rfl rfl ?_
  refine Ex_sloadN (a := (7 * t) + 2) rfl d_law_345 rfl (by omega) (by omega) ?_
  refine Ex_i2l d_law_346 ?_
  refine Ex_ldc2_w pi_law_13 d_law_347 ?_
  refine Ex_land d_law_350 ?_
  refine Ex_lor d_law_351 ?_
  refine Ex_cV1 d_law_352 pk_law_24 (t_38 hs1) hR ?_
  rintro rv h2 ⟨rfl, hL⟩
  show Ex S law 355 [some (.float 0), some (.ref 0), some (.ref 38), some (.int (nI (7 * t)))] [.int (x), .int (x)] h2 _
  refine Ex_icmp_eq 1708 d_law_355 rfl (fun hc355 => ?_) (fun hc355 => ?_)
  · exact kx h2 hL
  · exact absurd rfl hc355
theorem law_2 {S : mj_S} (hS : S.1 ≤ 3584) {t : Nat} (ht : 7 * t + 7 ≤ S.1) {h : mj_H} (hX : LX t h) {Q : Option Value → mj_H → Prop} (kx : ∀ h2, LX (t + 1) h2 → Ex S law 1708 [some (.float 0), some (.ref 0), some (.ref 38), some (.int (nI (7 * t)))] [] h2 Q) : Ex S law 360 [some (.float 0), some (.ref 0), some (.ref 38), some (.int (nI (7 * t)))] [] h Q := by
  obtain ⟨⟨K, P, G, R, F, Y, hs, hC, hM, hO⟩, hr⟩ := hX
  obtain ⟨z1, b1, e1⟩ := J_ex (S.2 (7 * t + 1))
  obtain ⟨z2, b2, e2⟩ := J_ex (S.2 (7 * t + 2))
  obtain ⟨z3, b3, e3⟩ := J_ex (S.2 (7 * t + 3))
  refine Ex_aload_n d_law_360 rfl ?_
  refine Ex_aloads_n d_law_361 rfl ?_
  refine Ex_iload_n d_law_362 rfl ?_
  refine Ex_iconst d_law_363 ic_1 ?_
  refine Ex_iaddN (7 * t) (1) d_law_364 rfl rfl ?_
  refine Ex_sloadN (a := (7 * t) + 1) rfl d_law_365 rfl (by omega) (by omega) ?_
  rw [show ((S.2 ((7 * t) + 1)) : Int32) = (J (z1)) from e1]
  refine Ex_aloads_n d_law_366 rfl ?_
  refine Ex_iload_n d_law_367 rfl ?_
  refine Ex_iconst d_law_368 ic_2 ?_
  refine Ex_iaddN (7 * t) (2) d_law_369 rfl rfl ?_
  refine Ex_sloadN (a := (7 * t) + 2) rfl d_law_370 rfl (by omega) (by omega) ?_
  rw [show ((S.2 ((7 * t) + 2)) : Int32) = (J (z2)) from e2]
  refine Ex_aloads_n d_law_371 rfl ?_
  refine Ex_iload_n d_law_372 rfl ?_
  refine Ex_iconst d_law_373 ic_3 ?_
  refine Ex_iaddN (7 * t) (3) d_law_374 rfl rfl ?_
  refine Ex_sloadN (a := (7 * t) + 3) rfl d_law_375 rfl (by omega) (by omega) ?_
  rw [show ((S.2 ((7 * t) + 3)) : Int32) = (J (z3)) from e3]
  refine Ex_cV3 d_law_376 pk_law_25 (t_0 hs) (pr_edge hs hC hM hO hr b1 b2 b3) ?_
  rintro rv h1 ⟨x, rfl, hs1, hR⟩
  show Ex S law 379 [some (.float 0), some (.ref 0), some (.ref 38), some (.int (nI (7 * t)))] [.int (x)] h1 _
  refine Ex_aload_n d_law_379 rfl ?_
  refine Ex_aloads_n d_law_380 rfl ?_
  refine Ex_iload_n d_law_381 rfl ?_
  refine Ex_iconst d_law_382 ic_1 ?_
  refine Ex_iaddN (7 * t) (1) d_law_383 rfl rfl ?_
  refine Ex_sloadN (a := (7 * t) + 1) rfl d_law_384 rfl (by omega) (by omega) ?_
  rw [show ((S.2 ((7 * t) + 1)) : Int32) = (J (z1)) from e1]
  refine Ex_aloads_n d_law_385 rfl ?_
  refine Ex_iload_n d_law_386 rfl ?_
  refine Ex_iconst d_law_387 ic_2 ?_
  refine Ex_iaddN (7 * t) (2) d_law_388 rfl rfl ?_
  refine Ex_sloadN (a := (7 * t) + 2) rfl d_law_389 rfl (by omega) (by omega) ?_
  rw [show ((S.2 ((7 * t) + 2)) : Int32) = (J (z2)) from e2]
  refine Ex_aloads_n d_law_390 rfl ?_
  refine Ex_iload_n d_law_391 rfl ?_
  refine Ex_iconst d_law_392 ic_3 ?_
  refine Ex_iaddN (7 * t) (3) d_law_393 rfl rfl ?_
  refine Ex_sloadN (a := (7 * t) + 3) rfl d_law_394 rfl (by omega) (by omega) ?_
  rw [show ((S.2 ((7 * t) + 3)) : Int32) = (J (z3)) from e3]
  refine Ex_cV3 d_law_395 pk_law_29 (t_38 hs1) hR ?_
  rintro rv h2 ⟨rfl, hL⟩
  show Ex S law 398 [some (.float 0), some (.ref 0), some (.ref 38), some (.int (nI (7 * t)))] [.int (x), .int (x)] h2 _
  refine Ex_icmp_eq 1708 d_law_398 rfl (fun hc398 => ?_) (fun hc398 => ?_)
  · exact kx h2 hL
  · exact absurd rfl hc398
theorem law_3 {S : mj_S} (hS : S.1 ≤ 3584) {t : Nat} (ht : 7 * t + 7 ≤ S.1) {h : mj_H} (hX : LX t h) {Q : Option Value → mj_H → Prop} (kx : ∀ h2, LX (t + 1) h2 → Ex S law 1708 [some (.float 0), some (.ref 0), some (.ref 38), some (.int (nI (7 * t)))] [] h2 Q) : Ex S law 403 [some (.float 0), some (.ref 0), some (.ref 38), some (.int (nI (7 * t)))] [] h Q := by
  obtain ⟨⟨K, P, G, R, F, Y, hs, hC, hM, hO⟩, hr⟩ := hX
  obtain ⟨z1, b1, e1⟩ := J_ex (S.2 (7 * t + 1))
  obtain ⟨z2, b2, e2⟩ := J_ex (S.2 (7 * t + 2))
  refine Ex_aload_n d_law_403 rfl ?_
  refine Ex_aloads_n d_law_404 rfl ?_
  refine Ex_iload_n d_law_405 rfl ?_
  refine Ex_iconst d_law_406 ic_1 ?_
  refine Ex_iaddN (7 * t) (1) d_law_407 rfl rfl ?_
  refine Ex_sloadN (a := (7 * t) + 1) rfl d_law_408 rfl (by omega) (by omega) ?_
  rw [show ((S.2 ((7 * t) + 1)) : Int32) = (J (z1)) from e1]
  refine Ex_aloads_n d_law_409 rfl ?_
  refine Ex_iload_n d_law_410 rfl ?_
  refine Ex_iconst d_law_411 ic_2 ?_
  refine Ex_iaddN (7 * t) (2) d_law_412 rfl rfl ?_
  refine Ex_sloadN (a := (7 * t) + 2) rfl d_law_413 rfl (by omega) (by omega) ?_
  rw [show ((S.2 ((7 * t) + 2)) : Int32) = (J (z2)) from e2]
  refine Ex_cV2 d_law_414 pk_law_30 (t_0 hs) (pr_then hs hC hM hO hr b1 b2) ?_
  rintro rv h1 ⟨x, rfl, hs1, hR⟩
  show Ex S law 417 [some (.float 0), some (.ref 0), some (.ref 38), some (.int (nI (7 * t)))] [.int (x)] h1 _
  refine Ex_aload_n d_law_417 rfl ?_
  refine Ex_aloads_n d_law_418 rfl ?_
  refine Ex_iload_n d_law_419 rfl ?_
  refine Ex_iconst d_law_420 ic_1 ?_
  refine Ex_iaddN (7 * t) (1) d_law_421 rfl rfl ?_
  refine Ex_sloadN (a := (7 * t) + 1) rfl d_law_422 rfl (by omega) (by omega) ?_
  rw [show ((S.2 ((7 * t) + 1)) : Int32) = (J (z1)) from e1]
  refine Ex_aloads_n d_law_423 rfl ?_
  refine Ex_iload_n d_law_424 rfl ?_
  refine Ex_iconst d_law_425 ic_2 ?_
  refine Ex_iaddN (7 * t) (2) d_law_426 rfl rfl ?_
  refine Ex_sloadN (a := (7 * t) + 2) rfl d_law_427 rfl (by omega) (by omega) ?_
  rw [show ((S.2 ((7 * t) + 2)) : Int32) = (J (z2)) from e2]
  refine Ex_cV2 d_law_428 pk_law_34 (t_38 hs1) hR ?_
  rintro rv h2 ⟨rfl, hL⟩
  show Ex S law 431 [some (.float 0), some (.ref 0), some (.ref 38), some (.int (nI (7 * t)))] [.int (x), .int (x)] h2 _
  refine Ex_icmp_eq 1708 d_law_431 rfl (fun hc431 => ?_) (fun hc431 => ?_)
  · exact kx h2 hL
  · exact absurd rfl hc431
theorem law_4 {S : mj_S} (hS : S.1 ≤ 3584) {t : Nat} (ht : 7 * t + 7 ≤ S.1) {h : mj_H} (hX : LX t h) {Q : Option Value → mj_H → Prop} (kx : ∀ h2, LX (t + 1) h2 → Ex S law 1708 [some (.float 0), some (.ref 0), some (.ref 38), some (.int (nI (7 * t)))] [] h2 Q) : Ex S law 436 [some (.float 0), some (.ref 0), some (.ref 38), some (.int (nI (7 * t)))] [] h Q := by
  obtain ⟨⟨K, P, G, R, F, Y, hs, hC, hM, hO⟩, hr⟩ := hX
  refine Ex_aload_n d_law_436 rfl ?_
  refine Ex_cV0 d_law_437 pk_law_35 (t_0 hs) (pr_pattern hs hC hM hO hr ) ?_
  rintro rv h1 ⟨x, rfl, hs1, hR⟩
  show Ex S law 440 [some (.float 0), some (.ref 0), some (.ref 38), some (.int (nI (7 * t)))] [.int (x)] h1 _
  refine Ex_aload_n d_law_440 rfl ?_
  refine Ex_cV0 d_law_441 pk_law_39 (t_38 hs1) hR ?_
  rintro rv h2 ⟨rfl, hL⟩
  show Ex S law 444 [some (.float 0), some (.ref 0), some (.ref 38), some (.int (nI (7 * t)))] [.int (x), .int (x)] h2 _
  refine Ex_icmp_eq 1708 d_law_444 rfl (fun hc444 => ?_) (fun hc444 => ?_)
  · exact kx h2 hL
  · exact absurd rfl hc444
theorem law_5 {S : mj_S} (hS : S.1 ≤ 3584) {t : Nat} (ht : 7 * t + 7 ≤ S.1) {h : mj_H} (hX : LX t h) {Q : Option Value → mj_H → Prop} (kx : ∀ h2, LX (t + 1) h2 → Ex S law 1708 [some (.float 0), some (.ref 0), some (.ref 38), some (.int (nI (7 * t)))] [] h2 Q) : Ex S law 449 [some (.float 0), some (.ref 0), some (.ref 38), some (.int (nI (7 * t)))] [] h Q := by
  obtain ⟨⟨K, P, G, R, F, Y, hs, hC, hM, hO⟩, hr⟩ := hX
  obtain ⟨z1, b1, e1⟩ := J_ex (S.2 (7 * t + 1))
  obtain ⟨z2, b2, e2⟩ := J_ex (S.2 (7 * t + 2))
  obtain ⟨z3, b3, e3⟩ := J_ex (S.2 (7 * t + 3))
  obtain ⟨z4, b4, e4⟩ := J_ex (S.2 (7 * t + 4))
  refine Ex_aload_n d_law_449 rfl ?_
  refine Ex_aloads_n d_law_450 rfl ?_
  refine Ex_iload_n d_law_451 rfl ?_
  refine Ex_iconst d_law_452 ic_1 ?_
  refine Ex_iaddN (7 * t) (1) d_law_453 rfl rfl ?_
  refine Ex_sloadN (a := (7 * t) + 1) rfl d_law_454 rfl (by omega) (by omega) ?_
  rw [show ((S.2 ((7 * t) + 1)) : Int32) = (J (z1)) from e1]
  refine Ex_aloads_n d_law_455 rfl ?_
  refine Ex_iload_n d_law_456 rfl ?_
  refine Ex_iconst d_law_457 ic_2 ?_
  refine Ex_iaddN (7 * t) (2) d_law_458 rfl rfl ?_
  refine Ex_sloadN (a := (7 * t) + 2) rfl d_law_459 rfl (by omega) (by omega) ?_
  rw [show ((S.2 ((7 * t) + 2)) : Int32) = (J (z2)) from e2]
  refine Ex_aloads_n d_law_460 rfl ?_
  refine Ex_iload_n d_law_461 rfl ?_
  refine Ex_iconst d_law_462 ic_3 ?_
  refine Ex_iaddN (7 * t) (3) d_law_463 rfl rfl ?_
  refine Ex_sloadN (a := (7 * t) + 3) rfl d_law_464 rfl (by omega) (by omega) ?_
  rw [show ((S.2 ((7 * t) + 3)) : Int32) = (J (z3)) from e3]
  refine Ex_aloads_n d_law_465 rfl ?_
  refine Ex_iload_n d_law_466 rfl ?_
  refine Ex_iconst d_law_467 ic_4 ?_
  refine Ex_iaddN (7 * t) (4) d_law_468 rfl rfl ?_
  refine Ex_sloadN (a := (7 * t) + 4) rfl d_law_469 rfl (by omega) (by omega) ?_
  rw [show ((S.2 ((7 * t) + 4)) : Int32) = (J (z4)) from e4]
  refine Ex_cV4 d_law_470 pk_law_40 (t_0 hs) (pr_insert hs hC hM hO hr b1 b2 b3 b4) ?_
  rintro rv h1 ⟨x, rfl, hs1, hR⟩
  show Ex S law 473 [some (.float 0), some (.ref 0), some (.ref 38), some (.int (nI (7 * t)))] [.int (x)] h1 _
  refine Ex_aload_n d_law_473 rfl ?_
  refine Ex_aloads_n d_law_474 rfl ?_
  refine Ex_iload_n d_law_475 rfl ?_
  refine Ex_iconst d_law_476 ic_1 ?_
  refine Ex_iaddN (7 * t) (1) d_law_477 rfl rfl ?_
  refine Ex_sloadN (a := (7 * t) + 1) rfl d_law_478 rfl (by omega) (by omega) ?_
  rw [show ((S.2 ((7 * t) + 1)) : Int32) = (J (z1)) from e1]
  refine Ex_aloads_n d_law_479 rfl ?_
  refine Ex_iload_n d_law_480 rfl ?_
  refine Ex_iconst d_law_481 ic_2 ?_
  refine Ex_iaddN (7 * t) (2) d_law_482 rfl rfl ?_
  refine Ex_sloadN (a := (7 * t) + 2) rfl d_law_483 rfl (by omega) (by omega) ?_
  rw [show ((S.2 ((7 * t) + 2)) : Int32) = (J (z2)) from e2]
  refine Ex_aloads_n d_law_484 rfl ?_
  refine Ex_iload_n d_law_485 rfl ?_
  refine Ex_iconst d_law_486 ic_3 ?_
  refine Ex_iaddN (7 * t) (3) d_law_487 rfl rfl ?_
  refine Ex_sloadN (a := (7 * t) + 3) rfl d_law_488 rfl (by omega) (by omega) ?_
  rw [show ((S.2 ((7 * t) + 3)) : Int32) = (J (z3)) from e3]
  refine Ex_aloads_n d_law_489 rfl ?_
  refine Ex_iload_n d_law_490 rfl ?_
  refine Ex_iconst d_law_491 ic_4 ?_
  refine Ex_iaddN (7 * t) (4) d_law_492 rfl rfl ?_
  refine Ex_sloadN (a := (7 * t) + 4) rfl d_law_493 rfl (by omega) (by omega) ?_
  rw [show ((S.2 ((7 * t) + 4)) : Int32) = (J (z4)) from e4]
  refine Ex_cV4 d_law_494 pk_law_44 (t_38 hs1) hR ?_
  rintro rv h2 ⟨rfl, hL⟩
  show Ex S law 497 [some (.float 0), some (.ref 0), some (.ref 38), some (.int (nI (7 * t)))] [.int (x), .int (x)] h2 _
  refine Ex_icmp_eq 1708 d_law_497 rfl (fun hc497 => ?_) (fun hc497 => ?_)
  · exact kx h2 hL
  · exact absurd rfl hc497
theorem law_6 {S : mj_S} (hS : S.1 ≤ 3584) {t : Nat} (ht : 7 * t + 7 ≤ S.1) {h : mj_H} (hX : LX t h) {Q : Option Value → mj_H → Prop} (kx : ∀ h2, LX (t + 1) h2 → Ex S law 1708 [some (.float 0), some (.ref 0), some (.ref 38), some (.int (nI (7 * t)))] [] h2 Q) : Ex S law 502 [some (.float 0), some (.ref 0), some (.ref 38), some (.int (nI (7 * t)))] [] h Q := by
  obtain ⟨⟨K, P, G, R, F, Y, hs, hC, hM, hO⟩, hr⟩ := hX
  obtain ⟨z1, b1, e1⟩ := J_ex (S.2 (7 * t + 1))
  obtain ⟨z2, b2, e2⟩ := J_ex (S.2 (7 * t + 2))
  refine Ex_aload_n d_law_502 rfl ?_
  refine Ex_aloads_n d_law_503 rfl ?_
  refine Ex_iload_n d_law_504 rfl ?_
  refine Ex_iconst d_law_505 ic_1 ?_
  refine Ex_iaddN (7 * t) (1) d_law_506 rfl rfl ?_
  refine Ex_sloadN (a := (7 * t) + 1) rfl d_law_507 rfl (by omega) (by omega) ?_
  rw [show ((S.2 ((7 * t) + 1)) : Int32) = (J (z1)) from e1]
  refine Ex_aloads_n d_law_508 rfl ?_
  refine Ex_iload_n d_law_509 rfl ?_
  refine Ex_iconst d_law_510 ic_2 ?_
  refine Ex_iaddN (7 * t) (2) d_law_511 rfl rfl ?_
  refine Ex_sloadN (a := (7 * t) + 2) rfl d_law_512 rfl (by omega) (by omega) ?_
  rw [show ((S.2 ((7 * t) + 2)) : Int32) = (J (z2)) from e2]
  refine Ex_cV2 d_law_513 pk_law_45 (t_0 hs) (pr_remove hs hC hM hO hr b1 b2) ?_
  rintro rv h1 ⟨x, rfl, hs1, hR⟩
  show Ex S law 516 [some (.float 0), some (.ref 0), some (.ref 38), some (.int (nI (7 * t)))] [.int (x)] h1 _
  refine Ex_aload_n d_law_516 rfl ?_
  refine Ex_aloads_n d_law_517 rfl ?_
  refine Ex_iload_n d_law_518 rfl ?_
  refine Ex_iconst d_law_519 ic_1 ?_
  refine Ex_iaddN (7 * t) (1) d_law_520 rfl rfl ?_
  refine Ex_sloadN (a := (7 * t) + 1) rfl d_law_521 rfl (by omega) (by omega) ?_
  rw [show ((S.2 ((7 * t) + 1)) : Int32) = (J (z1)) from e1]
  refine Ex_aloads_n d_law_522 rfl ?_
  refine Ex_iload_n d_law_523 rfl ?_
  refine Ex_iconst d_law_524 ic_2 ?_
  refine Ex_iaddN (7 * t) (2) d_law_525 rfl rfl ?_
  refine Ex_sloadN (a := (7 * t) + 2) rfl d_law_526 rfl (by omega) (by omega) ?_
  rw [show ((S.2 ((7 * t) + 2)) : Int32) = (J (z2)) from e2]
  refine Ex_cV2 d_law_527 pk_law_49 (t_38 hs1) hR ?_
  rintro rv h2 ⟨rfl, hL⟩
  show Ex S law 530 [some (.float 0), some (.ref 0), some (.ref 38), some (.int (nI (7 * t)))] [.int (x), .int (x)] h2 _
  refine Ex_icmp_eq 1708 d_law_530 rfl (fun hc530 => ?_) (fun hc530 => ?_)
  · exact kx h2 hL
  · exact absurd rfl hc530
theorem law_7 {S : mj_S} (hS : S.1 ≤ 3584) {t : Nat} (ht : 7 * t + 7 ≤ S.1) {h : mj_H} (hX : LX t h) {Q : Option Value → mj_H → Prop} (kx : ∀ h2, LX (t + 1) h2 → Ex S law 1708 [some (.float 0), some (.ref 0), some (.ref 38), some (.int (nI (7 * t)))] [] h2 Q) : Ex S law 535 [some (.float 0), some (.ref 0), some (.ref 38), some (.int (nI (7 * t)))] [] h Q := by
  obtain ⟨⟨K, P, G, R, F, Y, hs, hC, hM, hO⟩, hr⟩ := hX
  obtain ⟨z1, b1, e1⟩ := J_ex (S.2 (7 * t + 1))
  obtain ⟨z2, b2, e2⟩ := J_ex (S.2 (7 * t + 2))
  obtain ⟨z3, b3, e3⟩ := J_ex (S.2 (7 * t + 3))
  refine Ex_aload_n d_law_535 rfl ?_
  refine Ex_aloads_n d_law_536 rfl ?_
  refine Ex_iload_n d_law_537 rfl ?_
  refine Ex_iconst d_law_538 ic_1 ?_
  refine Ex_iaddN (7 * t) (1) d_law_539 rfl rfl ?_
  refine Ex_sloadN (a := (7 * t) + 1) rfl d_law_540 rfl (by omega) (by omega) ?_
  rw [show ((S.2 ((7 * t) + 1)) : Int32) = (J (z1)) from e1]
  refine Ex_aloads_n d_law_541 rfl ?_
  refine Ex_iload_n d_law_542 rfl ?_
  refine Ex_iconst d_law_543 ic_2 ?_
  refine Ex_iaddN (7 * t) (2) d_law_544 rfl rfl ?_
  refine Ex_sloadN (a := (7 * t) + 2) rfl d_law_545 rfl (by omega) (by omega) ?_
  rw [show ((S.2 ((7 * t) + 2)) : Int32) = (J (z2)) from e2]
  refine Ex_aloads_n d_law_546 rfl ?_
  refine Ex_iload_n d_law_547 rfl ?_
  refine Ex_iconst d_law_548 ic_3 ?_
  refine Ex_iaddN (7 * t) (3) d_law_549 rfl rfl ?_
  refine Ex_sloadN (a := (7 * t) + 3) rfl d_law_550 rfl (by omega) (by omega) ?_
  rw [show ((S.2 ((7 * t) + 3)) : Int32) = (J (z3)) from e3]
  refine Ex_cV3 d_law_551 pk_law_50 (t_0 hs) (pr_move hs hC hM hO hr b1 b2 b3) ?_
  rintro rv h1 ⟨x, rfl, hs1, hR⟩
  show Ex S law 554 [some (.float 0), some (.ref 0), some (.ref 38), some (.int (nI (7 * t)))] [.int (x)] h1 _
  refine Ex_aload_n d_law_554 rfl ?_
  refine Ex_aloads_n d_law_555 rfl ?_
  refine Ex_iload_n d_law_556 rfl ?_
  refine Ex_iconst d_law_557 ic_1 ?_
  refine Ex_iaddN (7 * t) (1) d_law_558 rfl rfl ?_
  refine Ex_sloadN (a := (7 * t) + 1) rfl d_law_559 rfl (by omega) (by omega) ?_
  rw [show ((S.2 ((7 * t) + 1)) : Int32) = (J (z1)) from e1]
  refine Ex_aloads_n d_law_560 rfl ?_
  refine Ex_iload_n d_law_561 rfl ?_
  refine Ex_iconst d_law_562 ic_2 ?_
  refine Ex_iaddN (7 * t) (2) d_law_563 rfl rfl ?_
  refine Ex_sloadN (a := (7 * t) + 2) rfl d_law_564 rfl (by omega) (by omega) ?_
  rw [show ((S.2 ((7 * t) + 2)) : Int32) = (J (z2)) from e2]
  refine Ex_aloads_n d_law_565 rfl ?_
  refine Ex_iload_n d_law_566 rfl ?_
  refine Ex_iconst d_law_567 ic_3 ?_
  refine Ex_iaddN (7 * t) (3) d_law_568 rfl rfl ?_
  refine Ex_sloadN (a := (7 * t) + 3) rfl d_law_569 rfl (by omega) (by omega) ?_
  rw [show ((S.2 ((7 * t) + 3)) : Int32) = (J (z3)) from e3]
  refine Ex_cV3 d_law_570 pk_law_54 (t_38 hs1) hR ?_
  rintro rv h2 ⟨rfl, hL⟩
  show Ex S law 573 [some (.float 0), some (.ref 0), some (.ref 38), some (.int (nI (7 * t)))] [.int (x), .int (x)] h2 _
  refine Ex_icmp_eq 1708 d_law_573 rfl (fun hc573 => ?_) (fun hc573 => ?_)
  · exact kx h2 hL
  · exact absurd rfl hc573
theorem law_8 {S : mj_S} (hS : S.1 ≤ 3584) {t : Nat} (ht : 7 * t + 7 ≤ S.1) {h : mj_H} (hX : LX t h) {Q : Option Value → mj_H → Prop} (kx : ∀ h2, LX (t + 1) h2 → Ex S law 1708 [some (.float 0), some (.ref 0), some (.ref 38), some (.int (nI (7 * t)))] [] h2 Q) : Ex S law 578 [some (.float 0), some (.ref 0), some (.ref 38), some (.int (nI (7 * t)))] [] h Q := by
  obtain ⟨⟨K, P, G, R, F, Y, hs, hC, hM, hO⟩, hr⟩ := hX
  obtain ⟨z1, b1, e1⟩ := J_ex (S.2 (7 * t + 1))
  obtain ⟨z2, b2, e2⟩ := J_ex (S.2 (7 * t + 2))
  obtain ⟨z3, b3, e3⟩ := J_ex (S.2 (7 * t + 3))
  obtain ⟨z4, b4, e4⟩ := J_ex (S.2 (7 * t + 4))
  obtain ⟨z5, b5, e5⟩ := J_ex (S.2 (7 * t + 5))
  refine Ex_aload_n d_law_578 rfl ?_
  refine Ex_aloads_n d_law_579 rfl ?_
  refine Ex_iload_n d_law_580 rfl ?_
  refine Ex_iconst d_law_581 ic_1 ?_
  refine Ex_iaddN (7 * t) (1) d_law_582 rfl rfl ?_
  refine Ex_sloadN (a := (7 * t) + 1) rfl d_law_583 rfl (by omega) (by omega) ?_
  rw [show ((S.2 ((7 * t) + 1)) : Int32) = (J (z1)) from e1]
  refine Ex_aloads_n d_law_584 rfl ?_
  refine Ex_iload_n d_law_585 rfl ?_
  refine Ex_iconst d_law_586 ic_2 ?_
  refine Ex_iaddN (7 * t) (2) d_law_587 rfl rfl ?_
  refine Ex_sloadN (a := (7 * t) + 2) rfl d_law_588 rfl (by omega) (by omega) ?_
  rw [show ((S.2 ((7 * t) + 2)) : Int32) = (J (z2)) from e2]
  refine Ex_aloads_n d_law_589 rfl ?_
  refine Ex_iload_n d_law_590 rfl ?_
  refine Ex_iconst d_law_591 ic_3 ?_
  refine Ex_iaddN (7 * t) (3) d_law_592 rfl rfl ?_
  refine Ex_sloadN (a := (7 * t) + 3) rfl d_law_593 rfl (by omega) (by omega) ?_
  rw [show ((S.2 ((7 * t) + 3)) : Int32) = (J (z3)) from e3]
  refine Ex_aloads_n d_law_594 rfl ?_
  refine Ex_iload_n d_law_595 rfl ?_
  refine Ex_iconst d_law_596 ic_4 ?_
  refine Ex_iaddN (7 * t) (4) d_law_597 rfl rfl ?_
  refine Ex_sloadN (a := (7 * t) + 4) rfl d_law_598 rfl (by omega) (by omega) ?_
  rw [show ((S.2 ((7 * t) + 4)) : Int32) = (J (z4)) from e4]
  refine Ex_aloads_n d_law_599 rfl ?_
  refine Ex_iload_n d_law_600 rfl ?_
  refine Ex_iconst d_law_601 ic_5 ?_
  refine Ex_iaddN (7 * t) (5) d_law_602 rfl rfl ?_
  refine Ex_sloadN (a := (7 * t) + 5) rfl d_law_603 rfl (by omega) (by omega) ?_
  rw [show ((S.2 ((7 * t) + 5)) : Int32) = (J (z5)) from e5]
  refine Ex_cV5 d_law_604 pk_law_55 (t_0 hs) (pr_put hs hC hM hO hr b1 b2 b3 b4 b5) ?_
  rintro rv h1 ⟨x, rfl, hs1, hR⟩
  show Ex S law 607 [some (.float 0), some (.ref 0), some (.ref 38), some (.int (nI (7 * t)))] [.int (x)] h1 _
  refine Ex_aload_n d_law_607 rfl ?_
  refine Ex_aloads_n d_law_608 rfl ?_
  refine Ex_iload_n d_law_609 rfl ?_
  refine Ex_iconst d_law_610 ic_1 ?_
  refine Ex_iaddN (7 * t) (1) d_law_611 rfl rfl ?_
  refine Ex_sloadN (a := (7 * t) + 1) rfl d_law_612 rfl (by omega) (by omega) ?_
  rw [show ((S.2 ((7 * t) + 1)) : Int32) = (J (z1)) from e1]
  refine Ex_aloads_n d_law_613 rfl ?_
  refine Ex_iload_n d_law_614 rfl ?_
  refine Ex_iconst d_law_615 ic_2 ?_
  refine Ex_iaddN (7 * t) (2) d_law_616 rfl rfl ?_
  refine Ex_sloadN (a := (7 * t) + 2) rfl d_law_617 rfl (by omega) (by omega) ?_
  rw [show ((S.2 ((7 * t) + 2)) : Int32) = (J (z2)) from e2]
  refine Ex_aloads_n d_law_618 rfl ?_
  refine Ex_iload_n d_law_619 rfl ?_
  refine Ex_iconst d_law_620 ic_3 ?_
  refine Ex_iaddN (7 * t) (3) d_law_621 rfl rfl ?_
  refine Ex_sloadN (a := (7 * t) + 3) rfl d_law_622 rfl (by omega) (by omega) ?_
  rw [show ((S.2 ((7 * t) + 3)) : Int32) = (J (z3)) from e3]
  refine Ex_aloads_n d_law_623 rfl ?_
  refine Ex_iload_n d_law_624 rfl ?_
  refine Ex_iconst d_law_625 ic_4 ?_
  refine Ex_iaddN (7 * t) (4) d_law_626 rfl rfl ?_
  refine Ex_sloadN (a := (7 * t) + 4) rfl d_law_627 rfl (by omega) (by omega) ?_
  rw [show ((S.2 ((7 * t) + 4)) : Int32) = (J (z4)) from e4]
  refine Ex_aloads_n d_law_628 rfl ?_
  refine Ex_iload_n d_law_629 rfl ?_
  refine Ex_iconst d_law_630 ic_5 ?_
  refine Ex_iaddN (7 * t) (5) d_law_631 rfl rfl ?_
  refine Ex_sloadN (a := (7 * t) + 5) rfl d_law_632 rfl (by omega) (by omega) ?_
  rw [show ((S.2 ((7 * t) + 5)) : Int32) = (J (z5)) from e5]
  refine Ex_cV5 d_law_633 pk_law_59 (t_38 hs1) hR ?_
  rintro rv h2 ⟨rfl, hL⟩
  show Ex S law 636 [some (.float 0), some (.ref 0), some (.ref 38), some (.int (nI (7 * t)))] [.int (x), .int (x)] h2 _
  refine Ex_icmp_eq 1708 d_law_636 rfl (fun hc636 => ?_) (fun hc636 => ?_)
  · exact kx h2 hL
  · exact absurd rfl hc636
theorem law_9 {S : mj_S} (hS : S.1 ≤ 3584) {t : Nat} (ht : 7 * t + 7 ≤ S.1) {h : mj_H} (hX : LX t h) {Q : Option Value → mj_H → Prop} (kx : ∀ h2, LX (t + 1) h2 → Ex S law 1708 [some (.float 0), some (.ref 0), some (.ref 38), some (.int (nI (7 * t)))] [] h2 Q) : Ex S law 641 [some (.float 0), some (.ref 0), some (.ref 38), some (.int (nI (7 * t)))] [] h Q := by
  obtain ⟨⟨K, P, G, R, F, Y, hs, hC, hM, hO⟩, hr⟩ := hX
  obtain ⟨z1, b1, e1⟩ := J_ex (S.2 (7 * t + 1))
  obtain ⟨z2, b2, e2⟩ := J_ex (S.2 (7 * t + 2))
  obtain ⟨z3, b3, e3⟩ := J_ex (S.2 (7 * t + 3))
  refine Ex_aload_n d_law_641 rfl ?_
  refine Ex_aloads_n d_law_642 rfl ?_
  refine Ex_iload_n d_law_643 rfl ?_
  refine Ex_iconst d_law_644 ic_1 ?_
  refine Ex_iaddN (7 * t) (1) d_law_645 rfl rfl ?_
  refine Ex_sloadN (a := (7 * t) + 1) rfl d_law_646 rfl (by omega) (by omega) ?_
  rw [show ((S.2 ((7 * t) + 1)) : Int32) = (J (z1)) from e1]
  refine Ex_aloads_n d_law_647 rfl ?_
  refine Ex_iload_n d_law_648 rfl ?_
  refine Ex_iconst d_law_649 ic_2 ?_
  refine Ex_iaddN (7 * t) (2) d_law_650 rfl rfl ?_
  refine Ex_sloadN (a := (7 * t) + 2) rfl d_law_651 rfl (by omega) (by omega) ?_
  rw [show ((S.2 ((7 * t) + 2)) : Int32) = (J (z2)) from e2]
  refine Ex_aloads_n d_law_652 rfl ?_
  refine Ex_iload_n d_law_653 rfl ?_
  refine Ex_iconst d_law_654 ic_3 ?_
  refine Ex_iaddN (7 * t) (3) d_law_655 rfl rfl ?_
  refine Ex_sloadN (a := (7 * t) + 3) rfl d_law_656 rfl (by omega) (by omega) ?_
  rw [show ((S.2 ((7 * t) + 3)) : Int32) = (J (z3)) from e3]
  refine Ex_aloads_n d_law_657 rfl ?_
  refine Ex_iload_n d_law_658 rfl ?_
  refine Ex_iconst d_law_659 ic_4 ?_
  refine Ex_iaddN (7 * t) (4) d_law_660 rfl rfl ?_
  refine Ex_sloadN (a := (7 * t) + 4) rfl d_law_661 rfl (by omega) (by omega) ?_
  refine Ex_cV4 d_law_662 pk_law_60 (t_0 hs) (pr_shade hs hC hM hO hr b1 b2 b3) ?_
  rintro rv h1 ⟨x, rfl, hs1, hR⟩
  show Ex S law 665 [some (.float 0), some (.ref 0), some (.ref 38), some (.int (nI (7 * t)))] [.int (x)] h1 _
  refine Ex_aload_n d_law_665 rfl ?_
  refine Ex_aloads_n d_law_666 rfl ?_
  refine Ex_iload_n d_law_667 rfl ?_
  refine Ex_iconst d_law_668 ic_1 ?_
  refine Ex_iaddN (7 * t) (1) d_law_669 rfl rfl ?_
  refine Ex_sloadN (a := (7 * t) + 1) rfl d_law_670 rfl (by omega) (by omega) ?_
  rw [show ((S.2 ((7 * t) + 1)) : Int32) = (J (z1)) from e1]
  refine Ex_aloads_n d_law_671 rfl ?_
  refine Ex_iload_n d_law_672 rfl ?_
  refine Ex_iconst d_law_673 ic_2 ?_
  refine Ex_iaddN (7 * t) (2) d_law_674 rfl rfl ?_
  refine Ex_sloadN (a := (7 * t) + 2) rfl d_law_675 rfl (by omega) (by omega) ?_
  rw [show ((S.2 ((7 * t) + 2)) : Int32) = (J (z2)) from e2]
  refine Ex_aloads_n d_law_676 rfl ?_
  refine Ex_iload_n d_law_677 rfl ?_
  refine Ex_iconst d_law_678 ic_3 ?_
  refine Ex_iaddN (7 * t) (3) d_law_679 rfl rfl ?_
  refine Ex_sloadN (a := (7 * t) + 3) rfl d_law_680 rfl (by omega) (by omega) ?_
  rw [show ((S.2 ((7 * t) + 3)) : Int32) = (J (z3)) from e3]
  refine Ex_aloads_n d_law_681 rfl ?_
  refine Ex_iload_n d_law_682 rfl ?_
  refine Ex_iconst d_law_683 ic_4 ?_
  refine Ex_iaddN (7 * t) (4) d_law_684 rfl rfl ?_
  refine Ex_sloadN (a := (7 * t) + 4) rfl d_law_685 rfl (by omega) (by omega) ?_
  refine Ex_cV4 d_law_686 pk_law_63 (t_38 hs1) hR ?_
  rintro rv h2 ⟨rfl, hL⟩
  show Ex S law 689 [some (.float 0), some (.ref 0), some (.ref 38), some (.int (nI (7 * t)))] [.int (x), .int (x)] h2 _
  refine Ex_icmp_eq 1708 d_law_689 rfl (fun hc689 => ?_) (fun hc689 => ?_)
  · exact kx h2 hL
  · exact absurd rfl hc689
theorem law_10 {S : mj_S} (hS : S.1 ≤ 3584) {t : Nat} (ht : 7 * t + 7 ≤ S.1) {h : mj_H} (hX : LX t h) {Q : Option Value → mj_H → Prop} (kx : ∀ h2, LX (t + 1) h2 → Ex S law 1708 [some (.float 0), some (.ref 0), some (.ref 38), some (.int (nI (7 * t)))] [] h2 Q) : Ex S law 694 [some (.float 0), some (.ref 0), some (.ref 38), some (.int (nI (7 * t)))] [] h Q := by
  obtain ⟨⟨K, P, G, R, F, Y, hs, hC, hM, hO⟩, hr⟩ := hX
  obtain ⟨z1, b1, e1⟩ := J_ex (S.2 (7 * t + 1))
  obtain ⟨z2, b2, e2⟩ := J_ex (S.2 (7 * t + 2))
  obtain ⟨z3, b3, e3⟩ := J_ex (S.2 (7 * t + 3))
  obtain ⟨z4, b4, e4⟩ := J_ex (S.2 (7 * t + 4))
  refine Ex_aload_n d_law_694 rfl ?_
  refine Ex_aloads_n d_law_695 rfl ?_
  refine Ex_iload_n d_law_696 rfl ?_
  refine Ex_iconst d_law_697 ic_1 ?_
  refine Ex_iaddN (7 * t) (1) d_law_698 rfl rfl ?_
  refine Ex_sloadN (a := (7 * t) + 1) rfl d_law_699 rfl (by omega) (by omega) ?_
  rw [show ((S.2 ((7 * t) + 1)) : Int32) = (J (z1)) from e1]
  refine Ex_aloads_n d_law_700 rfl ?_
  refine Ex_iload_n d_law_701 rfl ?_
  refine Ex_iconst d_law_702 ic_2 ?_
  refine Ex_iaddN (7 * t) (2) d_law_703 rfl rfl ?_
  refine Ex_sloadN (a := (7 * t) + 2) rfl d_law_704 rfl (by omega) (by omega) ?_
  rw [show ((S.2 ((7 * t) + 2)) : Int32) = (J (z2)) from e2]
  refine Ex_aloads_n d_law_705 rfl ?_
  refine Ex_iload_n d_law_706 rfl ?_
  refine Ex_iconst d_law_707 ic_3 ?_
  refine Ex_iaddN (7 * t) (3) d_law_708 rfl rfl ?_
  refine Ex_sloadN (a := (7 * t) + 3) rfl d_law_709 rfl (by omega) (by omega) ?_
  rw [show ((S.2 ((7 * t) + 3)) : Int32) = (J (z3)) from e3]
  refine Ex_aloads_n d_law_710 rfl ?_
  refine Ex_iload_n d_law_711 rfl ?_
  refine Ex_iconst d_law_712 ic_4 ?_
  refine Ex_iaddN (7 * t) (4) d_law_713 rfl rfl ?_
  refine Ex_sloadN (a := (7 * t) + 4) rfl d_law_714 rfl (by omega) (by omega) ?_
  rw [show ((S.2 ((7 * t) + 4)) : Int32) = (J (z4)) from e4]
  refine Ex_cV4 d_law_715 pk_law_64 (t_0 hs) (pr_at hs hC hM hO hr b1 b2 b3 b4) ?_
  rintro rv h1 ⟨x, rfl, hs1, hR⟩
  show Ex S law 718 [some (.float 0), some (.ref 0), some (.ref 38), some (.int (nI (7 * t)))] [.int (x)] h1 _
  refine Ex_aload_n d_law_718 rfl ?_
  refine Ex_aloads_n d_law_719 rfl ?_
  refine Ex_iload_n d_law_720 rfl ?_
  refine Ex_iconst d_law_721 ic_1 ?_
  refine Ex_iaddN (7 * t) (1) d_law_722 rfl rfl ?_
  refine Ex_sloadN (a := (7 * t) + 1) rfl d_law_723 rfl (by omega) (by omega) ?_
  rw [show ((S.2 ((7 * t) + 1)) : Int32) = (J (z1)) from e1]
  refine Ex_aloads_n d_law_724 rfl ?_
  refine Ex_iload_n d_law_725 rfl ?_
  refine Ex_iconst d_law_726 ic_2 ?_
  refine Ex_iaddN (7 * t) (2) d_law_727 rfl rfl ?_
  refine Ex_sloadN (a := (7 * t) + 2) rfl d_law_728 rfl (by omega) (by omega) ?_
  rw [show ((S.2 ((7 * t) + 2)) : Int32) = (J (z2)) from e2]
  refine Ex_aloads_n d_law_729 rfl ?_
  refine Ex_iload_n d_law_730 rfl ?_
  refine Ex_iconst d_law_731 ic_3 ?_
  refine Ex_iaddN (7 * t) (3) d_law_732 rfl rfl ?_
  refine Ex_sloadN (a := (7 * t) + 3) rfl d_law_733 rfl (by omega) (by omega) ?_
  rw [show ((S.2 ((7 * t) + 3)) : Int32) = (J (z3)) from e3]
  refine Ex_aloads_n d_law_734 rfl ?_
  refine Ex_iload_n d_law_735 rfl ?_
  refine Ex_iconst d_law_736 ic_4 ?_
  refine Ex_iaddN (7 * t) (4) d_law_737 rfl rfl ?_
  refine Ex_sloadN (a := (7 * t) + 4) rfl d_law_738 rfl (by omega) (by omega) ?_
  rw [show ((S.2 ((7 * t) + 4)) : Int32) = (J (z4)) from e4]
  refine Ex_cV4 d_law_739 pk_law_68 (t_38 hs1) hR ?_
  rintro rv h2 ⟨rfl, hL⟩
  show Ex S law 742 [some (.float 0), some (.ref 0), some (.ref 38), some (.int (nI (7 * t)))] [.int (x), .int (x)] h2 _
  refine Ex_icmp_eq 1708 d_law_742 rfl (fun hc742 => ?_) (fun hc742 => ?_)
  · exact kx h2 hL
  · exact absurd rfl hc742
theorem law_11 {S : mj_S} (hS : S.1 ≤ 3584) {t : Nat} (ht : 7 * t + 7 ≤ S.1) {h : mj_H} (hX : LX t h) {Q : Option Value → mj_H → Prop} (kx : ∀ h2, LX (t + 1) h2 → Ex S law 1708 [some (.float 0), some (.ref 0), some (.ref 38), some (.int (nI (7 * t)))] [] h2 Q) : Ex S law 747 [some (.float 0), some (.ref 0), some (.ref 38), some (.int (nI (7 * t)))] [] h Q := by
  obtain ⟨⟨K, P, G, R, F, Y, hs, hC, hM, hO⟩, hr⟩ := hX
  obtain ⟨z1, b1, e1⟩ := J_ex (S.2 (7 * t + 1))
  obtain ⟨z2, b2, e2⟩ := J_ex (S.2 (7 * t + 2))
  obtain ⟨z3, b3, e3⟩ := J_ex (S.2 (7 * t + 3))
  refine Ex_aload_n d_law_747 rfl ?_
  refine Ex_aloads_n d_law_748 rfl ?_
  refine Ex_iload_n d_law_749 rfl ?_
  refine Ex_iconst d_law_750 ic_1 ?_
  refine Ex_iaddN (7 * t) (1) d_law_751 rfl rfl ?_
  refine Ex_sloadN (a := (7 * t) + 1) rfl d_law_752 rfl (by omega) (by omega) ?_
  rw [show ((S.2 ((7 * t) + 1)) : Int32) = (J (z1)) from e1]
  refine Ex_aloads_n d_law_753 rfl ?_
  refine Ex_iload_n d_law_754 rfl ?_
  refine Ex_iconst d_law_755 ic_2 ?_
  refine Ex_iaddN (7 * t) (2) d_law_756 rfl rfl ?_
  refine Ex_sloadN (a := (7 * t) + 2) rfl d_law_757 rfl (by omega) (by omega) ?_
  rw [show ((S.2 ((7 * t) + 2)) : Int32) = (J (z2)) from e2]
  refine Ex_aloads_n d_law_758 rfl ?_
  refine Ex_iload_n d_law_759 rfl ?_
  refine Ex_iconst d_law_760 ic_3 ?_
  refine Ex_iaddN (7 * t) (3) d_law_761 rfl rfl ?_
  refine Ex_sloadN (a := (7 * t) + 3) rfl d_law_762 rfl (by omega) (by omega) ?_
  rw [show ((S.2 ((7 * t) + 3)) : Int32) = (J (z3)) from e3]
  refine Ex_cV3 d_law_763 pk_law_69 (t_0 hs) (pr_row hs hC hM hO hr b1 b2 b3) ?_
  rintro rv h1 ⟨x, rfl, hs1, hR⟩
  show Ex S law 766 [some (.float 0), some (.ref 0), some (.ref 38), some (.int (nI (7 * t)))] [.int (x)] h1 _
  refine Ex_aload_n d_law_766 rfl ?_
  refine Ex_aloads_n d_law_767 rfl ?_
  refine Ex_iload_n d_law_768 rfl ?_
  refine Ex_iconst d_law_769 ic_1 ?_
  refine Ex_iaddN (7 * t) (1) d_law_770 rfl rfl ?_
  refine Ex_sloadN (a := (7 * t) + 1) rfl d_law_771 rfl (by omega) (by omega) ?_
  rw [show ((S.2 ((7 * t) + 1)) : Int32) = (J (z1)) from e1]
  refine Ex_aloads_n d_law_772 rfl ?_
  refine Ex_iload_n d_law_773 rfl ?_
  refine Ex_iconst d_law_774 ic_2 ?_
  refine Ex_iaddN (7 * t) (2) d_law_775 rfl rfl ?_
  refine Ex_sloadN (a := (7 * t) + 2) rfl d_law_776 rfl (by omega) (by omega) ?_
  rw [show ((S.2 ((7 * t) + 2)) : Int32) = (J (z2)) from e2]
  refine Ex_aloads_n d_law_777 rfl ?_
  refine Ex_iload_n d_law_778 rfl ?_
  refine Ex_iconst d_law_779 ic_3 ?_
  refine Ex_iaddN (7 * t) (3) d_law_780 rfl rfl ?_
  refine Ex_sloadN (a := (7 * t) + 3) rfl d_law_781 rfl (by omega) (by omega) ?_
  rw [show ((S.2 ((7 * t) + 3)) : Int32) = (J (z3)) from e3]
  refine Ex_cV3 d_law_782 pk_law_72 (t_38 hs1) hR ?_
  rintro rv h2 ⟨rfl, hL⟩
  show Ex S law 785 [some (.float 0), some (.ref 0), some (.ref 38), some (.int (nI (7 * t)))] [.int (x), .int (x)] h2 _
  refine Ex_icmp_eq 1708 d_law_785 rfl (fun hc785 => ?_) (fun hc785 => ?_)
  · exact kx h2 hL
  · exact absurd rfl hc785
theorem law_12 {S : mj_S} (hS : S.1 ≤ 3584) {t : Nat} (ht : 7 * t + 7 ≤ S.1) {h : mj_H} (hX : LX t h) {Q : Option Value → mj_H → Prop} (kx : ∀ h2, LX (t + 1) h2 → Ex S law 1708 [some (.float 0), some (.ref 0), some (.ref 38), some (.int (nI (7 * t)))] [] h2 Q) : Ex S law 790 [some (.float 0), some (.ref 0), some (.ref 38), some (.int (nI (7 * t)))] [] h Q := by
  obtain ⟨⟨K, P, G, R, F, Y, hs, hC, hM, hO⟩, hr⟩ := hX
  obtain ⟨z1, b1, e1⟩ := J_ex (S.2 (7 * t + 1))
  obtain ⟨z2, b2, e2⟩ := J_ex (S.2 (7 * t + 2))
  obtain ⟨z3, b3, e3⟩ := J_ex (S.2 (7 * t + 3))
  obtain ⟨z4, b4, e4⟩ := J_ex (S.2 (7 * t + 4))
  refine Ex_aload_n d_law_790 rfl ?_
  refine Ex_aloads_n d_law_791 rfl ?_
  refine Ex_iload_n d_law_792 rfl ?_
  refine Ex_iconst d_law_793 ic_1 ?_
  refine Ex_iaddN (7 * t) (1) d_law_794 rfl rfl ?_
  refine Ex_sloadN (a := (7 * t) + 1) rfl d_law_795 rfl (by omega) (by omega) ?_
  rw [show ((S.2 ((7 * t) + 1)) : Int32) = (J (z1)) from e1]
  refine Ex_aloads_n d_law_796 rfl ?_
  refine Ex_iload_n d_law_797 rfl ?_
  refine Ex_iconst d_law_798 ic_2 ?_
  refine Ex_iaddN (7 * t) (2) d_law_799 rfl rfl ?_
  refine Ex_sloadN (a := (7 * t) + 2) rfl d_law_800 rfl (by omega) (by omega) ?_
  rw [show ((S.2 ((7 * t) + 2)) : Int32) = (J (z2)) from e2]
  refine Ex_aloads_n d_law_801 rfl ?_
  refine Ex_iload_n d_law_802 rfl ?_
  refine Ex_iconst d_law_803 ic_3 ?_
  refine Ex_iaddN (7 * t) (3) d_law_804 rfl rfl ?_
  refine Ex_sloadN (a := (7 * t) + 3) rfl d_law_805 rfl (by omega) (by omega) ?_
  rw [show ((S.2 ((7 * t) + 3)) : Int32) = (J (z3)) from e3]
  refine Ex_aloads_n d_law_806 rfl ?_
  refine Ex_iload_n d_law_807 rfl ?_
  refine Ex_iconst d_law_808 ic_4 ?_
  refine Ex_iaddN (7 * t) (4) d_law_809 rfl rfl ?_
  refine Ex_sloadN (a := (7 * t) + 4) rfl d_law_810 rfl (by omega) (by omega) ?_
  rw [show ((S.2 ((7 * t) + 4)) : Int32) = (J (z4)) from e4]
  refine Ex_cV4 d_law_811 pk_law_73 (t_0 hs) (pr_shares hs hC hM hO hr b1 b2 b3 b4) ?_
  rintro rv h1 ⟨x, rfl, hs1, hR⟩
  show Ex S law 814 [some (.float 0), some (.ref 0), some (.ref 38), some (.int (nI (7 * t)))] [.int (x)] h1 _
  refine Ex_aload_n d_law_814 rfl ?_
  refine Ex_aloads_n d_law_815 rfl ?_
  refine Ex_iload_n d_law_816 rfl ?_
  refine Ex_iconst d_law_817 ic_1 ?_
  refine Ex_iaddN (7 * t) (1) d_law_818 rfl rfl ?_
  refine Ex_sloadN (a := (7 * t) + 1) rfl d_law_819 rfl (by omega) (by omega) ?_
  rw [show ((S.2 ((7 * t) + 1)) : Int32) = (J (z1)) from e1]
  refine Ex_aloads_n d_law_820 rfl ?_
  refine Ex_iload_n d_law_821 rfl ?_
  refine Ex_iconst d_law_822 ic_2 ?_
  refine Ex_iaddN (7 * t) (2) d_law_823 rfl rfl ?_
  refine Ex_sloadN (a := (7 * t) + 2) rfl d_law_824 rfl (by omega) (by omega) ?_
  rw [show ((S.2 ((7 * t) + 2)) : Int32) = (J (z2)) from e2]
  refine Ex_aloads_n d_law_825 rfl ?_
  refine Ex_iload_n d_law_826 rfl ?_
  refine Ex_iconst d_law_827 ic_3 ?_
  refine Ex_iaddN (7 * t) (3) d_law_828 rfl rfl ?_
  refine Ex_sloadN (a := (7 * t) + 3) rfl d_law_829 rfl (by omega) (by omega) ?_
  rw [show ((S.2 ((7 * t) + 3)) : Int32) = (J (z3)) from e3]
  refine Ex_aloads_n d_law_830 rfl ?_
  refine Ex_iload_n d_law_831 rfl ?_
  refine Ex_iconst d_law_832 ic_4 ?_
  refine Ex_iaddN (7 * t) (4) d_law_833 rfl rfl ?_
  refine Ex_sloadN (a := (7 * t) + 4) rfl d_law_834 rfl (by omega) (by omega) ?_
  rw [show ((S.2 ((7 * t) + 4)) : Int32) = (J (z4)) from e4]
  refine Ex_cV4 d_law_835 pk_law_76 (t_38 hs1) hR ?_
  rintro rv h2 ⟨rfl, hL⟩
  show Ex S law 838 [some (.float 0), some (.ref 0), some (.ref 38), some (.int (nI (7 * t)))] [.int (x), .int (x)] h2 _
  refine Ex_icmp_eq 1708 d_law_838 rfl (fun hc838 => ?_) (fun hc838 => ?_)
  · exact kx h2 hL
  · exact absurd rfl hc838
theorem law_13 {S : mj_S} (hS : S.1 ≤ 3584) {t : Nat} (ht : 7 * t + 7 ≤ S.1) {h : mj_H} (hX : LX t h) {Q : Option Value → mj_H → Prop} (kx : ∀ h2, LX (t + 1) h2 → Ex S law 1708 [some (.float 0), some (.ref 0), some (.ref 38), some (.int (nI (7 * t)))] [] h2 Q) : Ex S law 843 [some (.float 0), some (.ref 0), some (.ref 38), some (.int (nI (7 * t)))] [] h Q := by
  obtain ⟨⟨K, P, G, R, F, Y, hs, hC, hM, hO⟩, hr⟩ := hX
  obtain ⟨z1, b1, e1⟩ := J_ex (S.2 (7 * t + 1))
  refine Ex_aload_n d_law_843 rfl ?_
  refine Ex_aloads_n d_law_844 rfl ?_
  refine Ex_iload_n d_law_845 rfl ?_
  refine Ex_iconst d_law_846 ic_1 ?_
  refine Ex_iaddN (7 * t) (1) d_law_847 rfl rfl ?_
  refine Ex_sloadN (a := (7 * t) + 1) rfl d_law_848 rfl (by omega) (by omega) ?_
  rw [show ((S.2 ((7 * t) + 1)) : Int32) = (J (z1)) from e1]
  refine Ex_cV1 d_law_849 pk_law_77 (t_0 hs) (pr_copy hs hC hM hO hr b1) ?_
  rintro rv h1 ⟨x, rfl, hs1, hR⟩
  show Ex S law 852 [some (.float 0), some (.ref 0), some (.ref 38), some (.int (nI (7 * t)))] [.int (x)] h1 _
  refine Ex_aload_n d_law_852 rfl ?_
  refine Ex_aloads_n d_law_853 rfl ?_
  refine Ex_iload_n d_law_854 rfl ?_
  refine Ex_iconst d_law_855 ic_1 ?_
  refine Ex_iaddN (7 * t) (1) d_law_856 rfl rfl ?_
  refine Ex_sloadN (a := (7 * t) + 1) rfl d_law_857 rfl (by omega) (by omega) ?_
  rw [show ((S.2 ((7 * t) + 1)) : Int32) = (J (z1)) from e1]
  refine Ex_cV1 d_law_858 pk_law_81 (t_38 hs1) hR ?_
  rintro rv h2 ⟨rfl, hL⟩
  show Ex S law 861 [some (.float 0), some (.ref 0), some (.ref 38), some (.int (nI (7 * t)))] [.int (x), .int (x)] h2 _
  refine Ex_icmp_eq 1708 d_law_861 rfl (fun hc861 => ?_) (fun hc861 => ?_)
  · exact kx h2 hL
  · exact absurd rfl hc861
theorem law_14 {S : mj_S} (hS : S.1 ≤ 3584) {t : Nat} (ht : 7 * t + 7 ≤ S.1) {h : mj_H} (hX : LX t h) {Q : Option Value → mj_H → Prop} (kx : ∀ h2, LX (t + 1) h2 → Ex S law 1708 [some (.float 0), some (.ref 0), some (.ref 38), some (.int (nI (7 * t)))] [] h2 Q) : Ex S law 866 [some (.float 0), some (.ref 0), some (.ref 38), some (.int (nI (7 * t)))] [] h Q := by
  obtain ⟨⟨K, P, G, R, F, Y, hs, hC, hM, hO⟩, hr⟩ := hX
  obtain ⟨z1, b1, e1⟩ := J_ex (S.2 (7 * t + 1))
  obtain ⟨z2, b2, e2⟩ := J_ex (S.2 (7 * t + 2))
  obtain ⟨z3, b3, e3⟩ := J_ex (S.2 (7 * t + 3))
  obtain ⟨z4, b4, e4⟩ := J_ex (S.2 (7 * t + 4))
  obtain ⟨z5, b5, e5⟩ := J_ex (S.2 (7 * t + 5))
  refine Ex_aload_n d_law_866 rfl ?_
  refine Ex_aloads_n d_law_867 rfl ?_
  refine Ex_iload_n d_law_868 rfl ?_
  refine Ex_iconst d_law_869 ic_1 ?_
  refine Ex_iaddN (7 * t) (1) d_law_870 rfl rfl ?_
  refine Ex_sloadN (a := (7 * t) + 1) rfl d_law_871 rfl (by omega) (by omega) ?_
  rw [show ((S.2 ((7 * t) + 1)) : Int32) = (J (z1)) from e1]
  refine Ex_aloads_n d_law_872 rfl ?_
  refine Ex_iload_n d_law_873 rfl ?_
  refine Ex_iconst d_law_874 ic_2 ?_
  refine Ex_iaddN (7 * t) (2) d_law_875 rfl rfl ?_
  refine Ex_sloadN (a := (7 * t) + 2) rfl d_law_876 rfl (by omega) (by omega) ?_
  rw [show ((S.2 ((7 * t) + 2)) : Int32) = (J (z2)) from e2]
  refine Ex_aloads_n d_law_877 rfl ?_
  refine Ex_iload_n d_law_878 rfl ?_
  refine Ex_iconst d_law_879 ic_3 ?_
  refine Ex_iaddN (7 * t) (3) d_law_880 rfl rfl ?_
  refine Ex_sloadN (a := (7 * t) + 3) rfl d_law_881 rfl (by omega) (by omega) ?_
  rw [show ((S.2 ((7 * t) + 3)) : Int32) = (J (z3)) from e3]
  refine Ex_aloads_n d_law_882 rfl ?_
  refine Ex_iload_n d_law_883 rfl ?_
  refine Ex_iconst d_law_884 ic_4 ?_
  refine Ex_iaddN (7 * t) (4) d_law_885 rfl rfl ?_
  refine Ex_sloadN (a := (7 * t) + 4) rfl d_law_886 rfl (by omega) (by omega) ?_
  rw [show ((S.2 ((7 * t) + 4)) : Int32) = (J (z4)) from e4]
  refine Ex_aloads_n d_law_887 rfl ?_
  refine Ex_iload_n d_law_888 rfl ?_
  refine Ex_iconst d_law_889 ic_5 ?_
  refine Ex_iaddN (7 * t) (5) d_law_890 rfl rfl ?_
  refine Ex_sloadN (a := (7 * t) + 5) rfl d_law_891 rfl (by omega) (by omega) ?_
  rw [show ((S.2 ((7 * t) + 5)) : Int32) = (J (z5)) from e5]
  refine Ex_cV5 d_law_892 pk_law_82 (t_0 hs) (pr_region hs hC hM hO hr b1 b2 b3 b4 b5) ?_
  rintro rv h1 ⟨x, rfl, hs1, hR⟩
  show Ex S law 895 [some (.float 0), some (.ref 0), some (.ref 38), some (.int (nI (7 * t)))] [.int (x)] h1 _
  refine Ex_aload_n d_law_895 rfl ?_
  refine Ex_aloads_n d_law_896 rfl ?_
  refine Ex_iload_n d_law_897 rfl ?_
  refine Ex_iconst d_law_898 ic_1 ?_
  refine Ex_iaddN (7 * t) (1) d_law_899 rfl rfl ?_
  refine Ex_sloadN (a := (7 * t) + 1) rfl d_law_900 rfl (by omega) (by omega) ?_
  rw [show ((S.2 ((7 * t) + 1)) : Int32) = (J (z1)) from e1]
  refine Ex_aloads_n d_law_901 rfl ?_
  refine Ex_iload_n d_law_902 rfl ?_
  refine Ex_iconst d_law_903 ic_2 ?_
  refine Ex_iaddN (7 * t) (2) d_law_904 rfl rfl ?_
  refine Ex_sloadN (a := (7 * t) + 2) rfl d_law_905 rfl (by omega) (by omega) ?_
  rw [show ((S.2 ((7 * t) + 2)) : Int32) = (J (z2)) from e2]
  refine Ex_aloads_n d_law_906 rfl ?_
  refine Ex_iload_n d_law_907 rfl ?_
  refine Ex_iconst d_law_908 ic_3 ?_
  refine Ex_iaddN (7 * t) (3) d_law_909 rfl rfl ?_
  refine Ex_sloadN (a := (7 * t) + 3) rfl d_law_910 rfl (by omega) (by omega) ?_
  rw [show ((S.2 ((7 * t) + 3)) : Int32) = (J (z3)) from e3]
  refine Ex_aloads_n d_law_911 rfl ?_
  refine Ex_iload_n d_law_912 rfl ?_
  refine Ex_iconst d_law_913 ic_4 ?_
  refine Ex_iaddN (7 * t) (4) d_law_914 rfl rfl ?_
  refine Ex_sloadN (a := (7 * t) + 4) rfl d_law_915 rfl (by omega) (by omega) ?_
  rw [show ((S.2 ((7 * t) + 4)) : Int32) = (J (z4)) from e4]
  refine Ex_aloads_n d_law_916 rfl ?_
  refine Ex_iload_n d_law_917 rfl ?_
  refine Ex_iconst d_law_918 ic_5 ?_
  refine Ex_iaddN (7 * t) (5) d_law_919 rfl rfl ?_
  refine Ex_sloadN (a := (7 * t) + 5) rfl d_law_920 rfl (by omega) (by omega) ?_
  rw [show ((S.2 ((7 * t) + 5)) : Int32) = (J (z5)) from e5]
  refine Ex_cV5 d_law_921 pk_law_86 (t_38 hs1) hR ?_
  rintro rv h2 ⟨rfl, hL⟩
  show Ex S law 924 [some (.float 0), some (.ref 0), some (.ref 38), some (.int (nI (7 * t)))] [.int (x), .int (x)] h2 _
  refine Ex_icmp_eq 1708 d_law_924 rfl (fun hc924 => ?_) (fun hc924 => ?_)
  · exact kx h2 hL
  · exact absurd rfl hc924
theorem law_15 {S : mj_S} (hS : S.1 ≤ 3584) {t : Nat} (ht : 7 * t + 7 ≤ S.1) {h : mj_H} (hX : LX t h) {Q : Option Value → mj_H → Prop} (kx : ∀ h2, LX (t + 1) h2 → Ex S law 1708 [some (.float 0), some (.ref 0), some (.ref 38), some (.int (nI (7 * t)))] [] h2 Q) : Ex S law 929 [some (.float 0), some (.ref 0), some (.ref 38), some (.int (nI (7 * t)))] [] h Q := by
  obtain ⟨⟨K, P, G, R, F, Y, hs, hC, hM, hO⟩, hr⟩ := hX
  obtain ⟨z1, b1, e1⟩ := J_ex (S.2 (7 * t + 1))
  refine Ex_aload_n d_law_929 rfl ?_
  refine Ex_aloads_n d_law_930 rfl ?_
  refine Ex_iload_n d_law_931 rfl ?_
  refine Ex_iconst d_law_932 ic_1 ?_
  refine Ex_iaddN (7 * t) (1) d_law_933 rfl rfl ?_
  refine Ex_sloadN (a := (7 * t) + 1) rfl d_law_934 rfl (by omega) (by omega) ?_
  rw [show ((S.2 ((7 * t) + 1)) : Int32) = (J (z1)) from e1]
  refine Ex_cV1 d_law_935 pk_law_87 (t_0 hs) (pr_turn hs hC hM hO hr b1) ?_
  rintro rv h1 ⟨x, rfl, hs1, hR⟩
  show Ex S law 938 [some (.float 0), some (.ref 0), some (.ref 38), some (.int (nI (7 * t)))] [.int (x)] h1 _
  refine Ex_aload_n d_law_938 rfl ?_
  refine Ex_aloads_n d_law_939 rfl ?_
  refine Ex_iload_n d_law_940 rfl ?_
  refine Ex_iconst d_law_941 ic_1 ?_
  refine Ex_iaddN (7 * t) (1) d_law_942 rfl rfl ?_
  refine Ex_sloadN (a := (7 * t) + 1) rfl d_law_943 rfl (by omega) (by omega) ?_
  rw [show ((S.2 ((7 * t) + 1)) : Int32) = (J (z1)) from e1]
  refine Ex_cV1 d_law_944 pk_law_91 (t_38 hs1) hR ?_
  rintro rv h2 ⟨rfl, hL⟩
  show Ex S law 947 [some (.float 0), some (.ref 0), some (.ref 38), some (.int (nI (7 * t)))] [.int (x), .int (x)] h2 _
  refine Ex_icmp_eq 1708 d_law_947 rfl (fun hc947 => ?_) (fun hc947 => ?_)
  · exact kx h2 hL
  · exact absurd rfl hc947
theorem law_16 {S : mj_S} (hS : S.1 ≤ 3584) {t : Nat} (ht : 7 * t + 7 ≤ S.1) {h : mj_H} (hX : LX t h) {Q : Option Value → mj_H → Prop} (kx : ∀ h2, LX (t + 1) h2 → Ex S law 1708 [some (.float 0), some (.ref 0), some (.ref 38), some (.int (nI (7 * t)))] [] h2 Q) : Ex S law 952 [some (.float 0), some (.ref 0), some (.ref 38), some (.int (nI (7 * t)))] [] h Q := by
  obtain ⟨⟨K, P, G, R, F, Y, hs, hC, hM, hO⟩, hr⟩ := hX
  obtain ⟨z1, b1, e1⟩ := J_ex (S.2 (7 * t + 1))
  obtain ⟨z2, b2, e2⟩ := J_ex (S.2 (7 * t + 2))
  obtain ⟨z3, b3, e3⟩ := J_ex (S.2 (7 * t + 3))
  refine Ex_aload_n d_law_952 rfl ?_
  refine Ex_aloads_n d_law_953 rfl ?_
  refine Ex_iload_n d_law_954 rfl ?_
  refine Ex_iconst d_law_955 ic_1 ?_
  refine Ex_iaddN (7 * t) (1) d_law_956 rfl rfl ?_
  refine Ex_sloadN (a := (7 * t) + 1) rfl d_law_957 rfl (by omega) (by omega) ?_
  rw [show ((S.2 ((7 * t) + 1)) : Int32) = (J (z1)) from e1]
  refine Ex_aloads_n d_law_958 rfl ?_
  refine Ex_iload_n d_law_959 rfl ?_
  refine Ex_iconst d_law_960 ic_2 ?_
  refine Ex_iaddN (7 * t) (2) d_law_961 rfl rfl ?_
  refine Ex_sloadN (a := (7 * t) + 2) rfl d_law_962 rfl (by omega) (by omega) ?_
  rw [show ((S.2 ((7 * t) + 2)) : Int32) = (J (z2)) from e2]
  refine Ex_aloads_n d_law_963 rfl ?_
  refine Ex_iload_n d_law_964 rfl ?_
  refine Ex_iconst d_law_965 ic_3 ?_
  refine Ex_iaddN (7 * t) (3) d_law_966 rfl rfl ?_
  refine Ex_sloadN (a := (7 * t) + 3) rfl d_law_967 rfl (by omega) (by omega) ?_
  rw [show ((S.2 ((7 * t) + 3)) : Int32) = (J (z3)) from e3]
  refine Ex_cV3 d_law_968 pk_law_92 (t_0 hs) (pr_paste hs hC hM hO hr b1 b2 b3) ?_
  rintro rv h1 ⟨x, rfl, hs1, hR⟩
  show Ex S law 971 [some (.float 0), some (.ref 0), some (.ref 38), some (.int (nI (7 * t)))] [.int (x)] h1 _
  refine Ex_aload_n d_law_971 rfl ?_
  refine Ex_aloads_n d_law_972 rfl ?_
  refine Ex_iload_n d_law_973 rfl ?_
  refine Ex_iconst d_law_974 ic_1 ?_
  refine Ex_iaddN (7 * t) (1) d_law_975 rfl rfl ?_
  refine Ex_sloadN (a := (7 * t) + 1) rfl d_law_976 rfl (by omega) (by omega) ?_
  rw [show ((S.2 ((7 * t) + 1)) : Int32) = (J (z1)) from e1]
  refine Ex_aloads_n d_law_977 rfl ?_
  refine Ex_iload_n d_law_978 rfl ?_
  refine Ex_iconst d_law_979 ic_2 ?_
  refine Ex_iaddN (7 * t) (2) d_law_980 rfl rfl ?_
  refine Ex_sloadN (a := (7 * t) + 2) rfl d_law_981 rfl (by omega) (by omega) ?_
  rw [show ((S.2 ((7 * t) + 2)) : Int32) = (J (z2)) from e2]
  refine Ex_aloads_n d_law_982 rfl ?_
  refine Ex_iload_n d_law_983 rfl ?_
  refine Ex_iconst d_law_984 ic_3 ?_
  refine Ex_iaddN (7 * t) (3) d_law_985 rfl rfl ?_
  refine Ex_sloadN (a := (7 * t) + 3) rfl d_law_986 rfl (by omega) (by omega) ?_
  rw [show ((S.2 ((7 * t) + 3)) : Int32) = (J (z3)) from e3]
  refine Ex_cV3 d_law_987 pk_law_95 (t_38 hs1) hR ?_
  rintro rv h2 ⟨rfl, hL⟩
  show Ex S law 990 [some (.float 0), some (.ref 0), some (.ref 38), some (.int (nI (7 * t)))] [.int (x), .int (x)] h2 _
  refine Ex_icmp_eq 1708 d_law_990 rfl (fun hc990 => ?_) (fun hc990 => ?_)
  · exact kx h2 hL
  · exact absurd rfl hc990
theorem law_17 {S : mj_S} (hS : S.1 ≤ 3584) {t : Nat} (ht : 7 * t + 7 ≤ S.1) {h : mj_H} (hX : LX t h) {Q : Option Value → mj_H → Prop} (kx : ∀ h2, LX (t + 1) h2 → Ex S law 1708 [some (.float 0), some (.ref 0), some (.ref 38), some (.int (nI (7 * t)))] [] h2 Q) : Ex S law 995 [some (.float 0), some (.ref 0), some (.ref 38), some (.int (nI (7 * t)))] [] h Q := by
  obtain ⟨⟨K, P, G, R, F, Y, hs, hC, hM, hO⟩, hr⟩ := hX
  obtain ⟨z1, b1, e1⟩ := J_ex (S.2 (7 * t + 1))
  obtain ⟨z2, b2, e2⟩ := J_ex (S.2 (7 * t + 2))
  refine Ex_aload_n d_law_995 rfl ?_
  refine Ex_aloads_n d_law_996 rfl ?_
  refine Ex_iload_n d_law_997 rfl ?_
  refine Ex_iconst d_law_998 ic_1 ?_
  refine Ex_iaddN (7 * t) (1) d_law_999 rfl rfl ?_
  refine Ex_sloadN (a := (7 * t) + 1) rfl d_law_1000 rfl (by omega) (by omega) ?_
  rw [show ((S.2 ((7 * t) + 1)) : Int32) = (J (z1)) from e1]
  refine Ex_aloads_n d_law_1001 rfl ?_
  refine Ex_iload_n d_law_1002 rfl ?_
  refine Ex_iconst d_law_1003 ic_2 ?_
  refine Ex_iaddN (7 * t) (2) d_law_1004 rfl rfl ?_
  refine Ex_sloadN (a := (7 * t) + 2) rfl d_law_1005 rfl (by omega) (by omega) ?_
  rw [show ((S.2 ((7 * t) + 2)) : Int32) = (J (z2)) from e2]
  refine Ex_cV2 d_law_1006 pk_law_96 (t_0 hs) (pr_rule hs hC hM hO hr b1 b2) ?_
  rintro rv h1 ⟨x, rfl, hs1, hR⟩
  show Ex S law 1009 [some (.float 0), some (.ref 0), some (.ref 38), some (.int (nI (7 * t)))] [.int (x)] h1 _
  refine Ex_aload_n d_law_1009 rfl ?_
  refine Ex_aloads_n d_law_1010 rfl ?_
  refine Ex_iload_n d_law_1011 rfl ?_
  refine Ex_iconst d_law_1012 ic_1 ?_
  refine Ex_iaddN (7 * t) (1) d_law_1013 rfl rfl ?_
  refine Ex_sloadN (a := (7 * t) + 1) rfl d_law_1014 rfl (by omega) (by omega) ?_
  rw [show ((S.2 ((7 * t) + 1)) : Int32) = (J (z1)) from e1]
  refine Ex_aloads_n d_law_1015 rfl ?_
  refine Ex_iload_n d_law_1016 rfl ?_
  refine Ex_iconst d_law_1017 ic_2 ?_
  refine Ex_iaddN (7 * t) (2) d_law_1018 rfl rfl ?_
  refine Ex_sloadN (a := (7 * t) + 2) rfl d_law_1019 rfl (by omega) (by omega) ?_
  rw [show ((S.2 ((7 * t) + 2)) : Int32) = (J (z2)) from e2]
  refine Ex_cV2 d_law_1020 pk_law_99 (t_38 hs1) hR ?_
  rintro rv h2 ⟨rfl, hL⟩
  show Ex S law 1023 [some (.float 0), some (.ref 0), some (.ref 38), some (.int (nI (7 * t)))] [.int (x), .int (x)] h2 _
  refine Ex_icmp_eq 1708 d_law_1023 rfl (fun hc1023 => ?_) (fun hc1023 => ?_)
  · exact kx h2 hL
  · exact absurd rfl hc1023
theorem law_18 {S : mj_S} (hS : S.1 ≤ 3584) {t : Nat} (ht : 7 * t + 7 ≤ S.1) {h : mj_H} (hX : LX t h) {Q : Option Value → mj_H → Prop} (kx : ∀ h2, LX (t + 1) h2 → Ex S law 1708 [some (.float 0), some (.ref 0), some (.ref 38), some (.int (nI (7 * t)))] [] h2 Q) : Ex S law 1028 [some (.float 0), some (.ref 0), some (.ref 38), some (.int (nI (7 * t)))] [] h Q := by
  obtain ⟨⟨K, P, G, R, F, Y, hs, hC, hM, hO⟩, hr⟩ := hX
  obtain ⟨z1, b1, e1⟩ := J_ex (S.2 (7 * t + 1))
  obtain ⟨z2, b2, e2⟩ := J_ex (S.2 (7 * t + 2))
  obtain ⟨z3, b3, e3⟩ := J_ex (S.2 (7 * t + 3))
  obtain ⟨z4, b4, e4⟩ := J_ex (S.2 (7 * t + 4))
  obtain ⟨z5, b5, e5⟩ := J_ex (S.2 (7 * t + 5))
  obtain ⟨z6, b6, e6⟩ := J_ex (S.2 (7 * t + 6))
  refine Ex_aload_n d_law_1028 rfl ?_
  refine Ex_aloads_n d_law_1029 rfl ?_
  refine Ex_iload_n d_law_1030 rfl ?_
  refine Ex_iconst d_law_1031 ic_1 ?_
  refine Ex_iaddN (7 * t) (1) d_law_1032 rfl rfl ?_
  refine Ex_sloadN (a := (7 * t) + 1) rfl d_law_1033 rfl (by omega) (by omega) ?_
  rw [show ((S.2 ((7 * t) + 1)) : Int32) = (J (z1)) from e1]
  refine Ex_aloads_n d_law_1034 rfl ?_
  refine Ex_iload_n d_law_1035 rfl ?_
  refine Ex_iconst d_law_1036 ic_2 ?_
  refine Ex_iaddN (7 * t) (2) d_law_1037 rfl rfl ?_
  refine Ex_sloadN (a := (7 * t) + 2) rfl d_law_1038 rfl (by omega) (by omega) ?_
  rw [show ((S.2 ((7 * t) + 2)) : Int32) = (J (z2)) from e2]
  refine Ex_aloads_n d_law_1039 rfl ?_
  refine Ex_iload_n d_law_1040 rfl ?_
  refine Ex_iconst d_law_1041 ic_3 ?_
  refine Ex_iaddN (7 * t) (3) d_law_1042 rfl rfl ?_
  refine Ex_sloadN (a := (7 * t) + 3) rfl d_law_1043 rfl (by omega) (by omega) ?_
  rw [show ((S.2 ((7 * t) + 3)) : Int32) = (J (z3)) from e3]
  refine Ex_aloads_n d_law_1044 rfl ?_
  refine Ex_iload_n d_law_1045 rfl ?_
  refine Ex_iconst d_law_1046 ic_4 ?_
  refine Ex_iaddN (7 * t) (4) d_law_1047 rfl rfl ?_
  refine Ex_sloadN (a := (7 * t) + 4) rfl d_law_1048 rfl (by omega) (by omega) ?_
  rw [show ((S.2 ((7 * t) + 4)) : Int32) = (J (z4)) from e4]
  refine Ex_aloads_n d_law_1049 rfl ?_
  refine Ex_iload_n d_law_1050 rfl ?_
  refine Ex_iconst d_law_1051 ic_5 ?_
  refine Ex_iaddN (7 * t) (5) d_law_1052 rfl rfl ?_
  refine Ex_sloadN (a := (7 * t) + 5) rfl d_law_1053 rfl (by omega) (by omega) ?_
  rw [show ((S.2 ((7 * t) + 5)) : Int32) = (J (z5)) from e5]
  refine Ex_aloads_n d_law_1054 rfl ?_
  refine Ex_iload_n d_law_1055 rfl ?_
  refine Ex_bipush d_law_1056 bp_6 ?_
  refine Ex_iaddN (7 * t) (6) d_law_1058 rfl rfl ?_
  refine Ex_sloadN (a := (7 * t) + 6) rfl d_law_1059 rfl (by omega) (by omega) ?_
  rw [show ((S.2 ((7 * t) + 6)) : Int32) = (J (z6)) from e6]
  refine Ex_cV6 d_law_1060 pk_law_100 (t_0 hs) (pr_becomes hs hC hM hO hr b1 b2 b3 b4 b5 b6) ?_
  rintro rv h1 ⟨x, rfl, hs1, hR⟩
  show Ex S law 1063 [some (.float 0), some (.ref 0), some (.ref 38), some (.int (nI (7 * t)))] [.int (x)] h1 _
  refine Ex_aload_n d_law_1063 rfl ?_
  refine Ex_aloads_n d_law_1064 rfl ?_
  refine Ex_iload_n d_law_1065 rfl ?_
  refine Ex_iconst d_law_1066 ic_1 ?_
  refine Ex_iaddN (7 * t) (1) d_law_1067 rfl rfl ?_
  refine Ex_sloadN (a := (7 * t) + 1) rfl d_law_1068 rfl (by omega) (by omega) ?_
  rw [show ((S.2 ((7 * t) + 1)) : Int32) = (J (z1)) from e1]
  refine Ex_aloads_n d_law_1069 rfl ?_
  refine Ex_iload_n d_law_1070 rfl ?_
  refine Ex_iconst d_law_1071 ic_2 ?_
  refine Ex_iaddN (7 * t) (2) d_law_1072 rfl rfl ?_
  refine Ex_sloadN (a := (7 * t) + 2) rfl d_law_1073 rfl (by omega) (by omega) ?_
  rw [show ((S.2 ((7 * t) + 2)) : Int32) = (J (z2)) from e2]
  refine Ex_aloads_n d_law_1074 rfl ?_
  refine Ex_iload_n d_law_1075 rfl ?_
  refine Ex_iconst d_law_1076 ic_3 ?_
  refine Ex_iaddN (7 * t) (3) d_law_1077 rfl rfl ?_
  refine Ex_sloadN (a := (7 * t) + 3) rfl d_law_1078 rfl (by omega) (by omega) ?_
  rw [show ((S.2 ((7 * t) + 3)) : Int32) = (J (z3)) from e3]
  refine Ex_aloads_n d_law_1079 rfl ?_
  refine Ex_iload_n d_law_1080 rfl ?_
  refine Ex_iconst d_law_1081 ic_4 ?_
  refine Ex_iaddN (7 * t) (4) d_law_1082 rfl rfl ?_
  refine Ex_sloadN (a := (7 * t) + 4) rfl d_law_1083 rfl (by omega) (by omega) ?_
  rw [show ((S.2 ((7 * t) + 4)) : Int32) = (J (z4)) from e4]
  refine Ex_aloads_n d_law_1084 rfl ?_
  refine Ex_iload_n d_law_1085 rfl ?_
  refine Ex_iconst d_law_1086 ic_5 ?_
  refine Ex_iaddN (7 * t) (5) d_law_1087 rfl rfl ?_
  refine Ex_sloadN (a := (7 * t) + 5) rfl d_law_1088 rfl (by omega) (by omega) ?_
  rw [show ((S.2 ((7 * t) + 5)) : Int32) = (J (z5)) from e5]
  refine Ex_aloads_n d_law_1089 rfl ?_
  refine Ex_iload_n d_law_1090 rfl ?_
  refine Ex_bipush d_law_1091 bp_6 ?_
  refine Ex_iaddN (7 * t) (6) d_law_1093 rfl rfl ?_
  refine Ex_sloadN (a := (7 * t) + 6) rfl d_law_1094 rfl (by omega) (by omega) ?_
  rw [show ((S.2 ((7 * t) + 6)) : Int32) = (J (z6)) from e6]
  refine Ex_cV6 d_law_1095 pk_law_104 (t_38 hs1) hR ?_
  rintro rv h2 ⟨rfl, hL⟩
  show Ex S law 1098 [some (.float 0), some (.ref 0), some (.ref 38), some (.int (nI (7 * t)))] [.int (x), .int (x)] h2 _
  refine Ex_icmp_eq 1708 d_law_1098 rfl (fun hc1098 => ?_) (fun hc1098 => ?_)
  · exact kx h2 hL
  · exact absurd rfl hc1098
theorem law_19 {S : mj_S} (hS : S.1 ≤ 3584) {t : Nat} (ht : 7 * t + 7 ≤ S.1) {h : mj_H} (hX : LX t h) {Q : Option Value → mj_H → Prop} (kx : ∀ h2, LX (t + 1) h2 → Ex S law 1708 [some (.float 0), some (.ref 0), some (.ref 38), some (.int (nI (7 * t)))] [] h2 Q) : Ex S law 1103 [some (.float 0), some (.ref 0), some (.ref 38), some (.int (nI (7 * t)))] [] h Q := by
  obtain ⟨⟨K, P, G, R, F, Y, hs, hC, hM, hO⟩, hr⟩ := hX
  obtain ⟨z1, b1, e1⟩ := J_ex (S.2 (7 * t + 1))
  obtain ⟨z2, b2, e2⟩ := J_ex (S.2 (7 * t + 2))
  obtain ⟨z3, b3, e3⟩ := J_ex (S.2 (7 * t + 3))
  refine Ex_aload_n d_law_1103 rfl ?_
  refine Ex_aloads_n d_law_1104 rfl ?_
  refine Ex_iload_n d_law_1105 rfl ?_
  refine Ex_iconst d_law_1106 ic_1 ?_
  refine Ex_iaddN (7 * t) (1) d_law_1107 rfl rfl ?_
  refine Ex_sloadN (a := (7 * t) + 1) rfl d_law_1108 rfl (by omega) (by omega) ?_
  rw [show ((S.2 ((7 * t) + 1)) : Int32) = (J (z1)) from e1]
  refine Ex_aloads_n d_law_1109 rfl ?_
  refine Ex_iload_n d_law_1110 rfl ?_
  refine Ex_iconst d_law_1111 ic_2 ?_
  refine Ex_iaddN (7 * t) (2) d_law_1112 rfl rfl ?_
  refine Ex_sloadN (a := (7 * t) + 2) rfl d_law_1113 rfl (by omega) (by omega) ?_
  rw [show ((S.2 ((7 * t) + 2)) : Int32) = (J (z2)) from e2]
  refine Ex_aloads_n d_law_1114 rfl ?_
  refine Ex_iload_n d_law_1115 rfl ?_
  refine Ex_iconst d_law_1116 ic_3 ?_
  refine Ex_iaddN (7 * t) (3) d_law_1117 rfl rfl ?_
  refine Ex_sloadN (a := (7 * t) + 3) rfl d_law_1118 rfl (by omega) (by omega) ?_
  rw [show ((S.2 ((7 * t) + 3)) : Int32) = (J (z3)) from e3]
  refine Ex_cV3 d_law_1119 pk_law_105 (t_0 hs) (pr_grow hs hC hM hO hr b1 b2 b3) ?_
  rintro rv h1 ⟨x, rfl, hs1, hR⟩
  show Ex S law 1122 [some (.float 0), some (.ref 0), some (.ref 38), some (.int (nI (7 * t)))] [.int (x)] h1 _
  refine Ex_aload_n d_law_1122 rfl ?_
  refine Ex_aloads_n d_law_1123 rfl ?_
  refine Ex_iload_n d_law_1124 rfl ?_
  refine Ex_iconst d_law_1125 ic_1 ?_
  refine Ex_iaddN (7 * t) (1) d_law_1126 rfl rfl ?_
  refine Ex_sloadN (a := (7 * t) + 1) rfl d_law_1127 rfl (by omega) (by omega) ?_
  rw [show ((S.2 ((7 * t) + 1)) : Int32) = (J (z1)) from e1]
  refine Ex_aloads_n d_law_1128 rfl ?_
  refine Ex_iload_n d_law_1129 rfl ?_
  refine Ex_iconst d_law_1130 ic_2 ?_
  refine Ex_iaddN (7 * t) (2) d_law_1131 rfl rfl ?_
  refine Ex_sloadN (a := (7 * t) + 2) rfl d_law_1132 rfl (by omega) (by omega) ?_
  rw [show ((S.2 ((7 * t) + 2)) : Int32) = (J (z2)) from e2]
  refine Ex_aloads_n d_law_1133 rfl ?_
  refine Ex_iload_n d_law_1134 rfl ?_
  refine Ex_iconst d_law_1135 ic_3 ?_
  refine Ex_iaddN (7 * t) (3) d_law_1136 rfl rfl ?_
  refine Ex_sloadN (a := (7 * t) + 3) rfl d_law_1137 rfl (by omega) (by omega) ?_
  rw [show ((S.2 ((7 * t) + 3)) : Int32) = (J (z3)) from e3]
  refine Ex_cV3 d_law_1138 pk_law_108 (t_38 hs1) hR ?_
  rintro rv h2 ⟨rfl, hL⟩
  show Ex S law 1141 [some (.float 0), some (.ref 0), some (.ref 38), some (.int (nI (7 * t)))] [.int (x), .int (x)] h2 _
  refine Ex_icmp_eq 1708 d_law_1141 rfl (fun hc1141 => ?_) (fun hc1141 => ?_)
  · exact kx h2 hL
  · exact absurd rfl hc1141
theorem law_20 {S : mj_S} (hS : S.1 ≤ 3584) {t : Nat} (ht : 7 * t + 7 ≤ S.1) {h : mj_H} (hX : LX t h) {Q : Option Value → mj_H → Prop} (kx : ∀ h2, LX (t + 1) h2 → Ex S law 1708 [some (.float 0), some (.ref 0), some (.ref 38), some (.int (nI (7 * t)))] [] h2 Q) : Ex S law 1146 [some (.float 0), some (.ref 0), some (.ref 38), some (.int (nI (7 * t)))] [] h Q := by
  obtain ⟨⟨K, P, G, R, F, Y, hs, hC, hM, hO⟩, hr⟩ := hX
  obtain ⟨z1, b1, e1⟩ := J_ex (S.2 (7 * t + 1))
  obtain ⟨z2, b2, e2⟩ := J_ex (S.2 (7 * t + 2))
  obtain ⟨z3, b3, e3⟩ := J_ex (S.2 (7 * t + 3))
  obtain ⟨z4, b4, e4⟩ := J_ex (S.2 (7 * t + 4))
  refine Ex_aload_n d_law_1146 rfl ?_
  refine Ex_aloads_n d_law_1147 rfl ?_
  refine Ex_iload_n d_law_1148 rfl ?_
  refine Ex_iconst d_law_1149 ic_1 ?_
  refine Ex_iaddN (7 * t) (1) d_law_1150 rfl rfl ?_
  refine Ex_sloadN (a := (7 * t) + 1) rfl d_law_1151 rfl (by omega) (by omega) ?_
  rw [show ((S.2 ((7 * t) + 1)) : Int32) = (J (z1)) from e1]
  refine Ex_aloads_n d_law_1152 rfl ?_
  refine Ex_iload_n d_law_1153 rfl ?_
  refine Ex_iconst d_law_1154 ic_2 ?_
  refine Ex_iaddN (7 * t) (2) d_law_1155 rfl rfl ?_
  refine Ex_sloadN (a := (7 * t) + 2) rfl d_law_1156 rfl (by omega) (by omega) ?_
  rw [show ((S.2 ((7 * t) + 2)) : Int32) = (J (z2)) from e2]
  refine Ex_aloads_n d_law_1157 rfl ?_
  refine Ex_iload_n d_law_1158 rfl ?_
  refine Ex_iconst d_law_1159 ic_3 ?_
  refine Ex_iaddN (7 * t) (3) d_law_1160 rfl rfl ?_
  refine Ex_sloadN (a := (7 * t) + 3) rfl d_law_1161 rfl (by omega) (by omega) ?_
  rw [show ((S.2 ((7 * t) + 3)) : Int32) = (J (z3)) from e3]
  refine Ex_aloads_n d_law_1162 rfl ?_
  refine Ex_iload_n d_law_1163 rfl ?_
  refine Ex_iconst d_law_1164 ic_4 ?_
  refine Ex_iaddN (7 * t) (4) d_law_1165 rfl rfl ?_
  refine Ex_sloadN (a := (7 * t) + 4) rfl d_law_1166 rfl (by omega) (by omega) ?_
  rw [show ((S.2 ((7 * t) + 4)) : Int32) = (J (z4)) from e4]
  refine Ex_cV4 d_law_1167 pk_law_109 (t_0 hs) (pr_foretold hs hC hM hO hr b1 b2 b3 b4) ?_
  rintro rv h1 ⟨x, rfl, hs1, hR⟩
  show Ex S law 1170 [some (.float 0), some (.ref 0), some (.ref 38), some (.int (nI (7 * t)))] [.long (x)] h1 _
  refine Ex_aload_n d_law_1170 rfl ?_
  refine Ex_aloads_n d_law_1171 rfl ?_
  refine Ex_iload_n d_law_1172 rfl ?_
  refine Ex_iconst d_law_1173 ic_1 ?_
  refine Ex_iaddN (7 * t) (1) d_law_1174 rfl rfl ?_
  refine Ex_sloadN (a := (7 * t) + 1) rfl d_law_1175 rfl (by omega) (by omega) ?_
  rw [show ((S.2 ((7 * t) + 1)) : Int32) = (J (z1)) from e1]
  refine Ex_aloads_n d_law_1176 rfl ?_
  refine Ex_iload_n d_law_1177 rfl ?_
  refine Ex_iconst d_law_1178 ic_2 ?_
  refine Ex_iaddN (7 * t) (2) d_law_1179 rfl rfl ?_
  refine Ex_sloadN (a := (7 * t) + 2) rfl d_law_1180 rfl (by omega) (by omega) ?_
  rw [show ((S.2 ((7 * t) + 2)) : Int32) = (J (z2)) from e2]
  refine Ex_aloads_n d_law_1181 rfl ?_
  refine Ex_iload_n d_law_1182 rfl ?_
  refine Ex_iconst d_law_1183 ic_3 ?_
  refine Ex_iaddN (7 * t) (3) d_law_1184 rfl rfl ?_
  refine Ex_sloadN (a := (7 * t) + 3) rfl d_law_1185 rfl (by omega) (by omega) ?_
  rw [show ((S.2 ((7 * t) + 3)) : Int32) = (J (z3)) from e3]
  refine Ex_aloads_n d_law_1186 rfl ?_
  refine Ex_iload_n d_law_1187 rfl ?_
  refine Ex_iconst d_law_1188 ic_4 ?_
  refine Ex_iaddN (7 * t) (4) d_law_1189 rfl rfl ?_
  refine Ex_sloadN (a := (7 * t) + 4) rfl d_law_1190 rfl (by omega) (by omega) ?_
  rw [show ((S.2 ((7 * t) + 4)) : Int32) = (J (z4)) from e4]
  refine Ex_cV4 d_law_1191 pk_law_113 (t_38 hs1) hR ?_
  rintro rv h2 ⟨rfl, hL⟩
  show Ex S law 1194 [some (.float 0), some (.ref 0), some (.ref 38), some (.int (nI (7 * t)))] [.long (x), .long (x)] h2 _
  refine Ex_lcmp d_law_1194 ?_
  refine Ex_if_eqL 1708 d_law_1195 rfl (fun hc1195 => ?_) (fun hc1195 => ?_)
  · exact kx h2 hL
  · exact absurd rfl hc1195
theorem law_21 {S : mj_S} (hS : S.1 ≤ 3584) {t : Nat} (ht : 7 * t + 7 ≤ S.1) {h : mj_H} (hX : LX t h) {Q : Option Value → mj_H → Prop} (kx : ∀ h2, LX (t + 1) h2 → Ex S law 1708 [some (.float 0), some (.ref 0), some (.ref 38), some (.int (nI (7 * t)))] [] h2 Q) : Ex S law 1200 [some (.float 0), some (.ref 0), some (.ref 38), some (.int (nI (7 * t)))] [] h Q := by
  obtain ⟨⟨K, P, G, R, F, Y, hs, hC, hM, hO⟩, hr⟩ := hX
  obtain ⟨z1, b1, e1⟩ := J_ex (S.2 (7 * t + 1))
  obtain ⟨z2, b2, e2⟩ := J_ex (S.2 (7 * t + 2))
  refine Ex_aload_n d_law_1200 rfl ?_
  refine Ex_aloads_n d_law_1201 rfl ?_
  refine Ex_iload_n d_law_1202 rfl ?_
  refine Ex_iconst d_law_1203 ic_1 ?_
  refine Ex_iaddN (7 * t) (1) d_law_1204 rfl rfl ?_
  refine Ex_sloadN (a := (7 * t) + 1) rfl d_law_1205 rfl (by omega) (by omega) ?_
  rw [show ((S.2 ((7 * t) + 1)) : Int32) = (J (z1)) from e1]
  refine Ex_aloads_n d_law_1206 rfl ?_
  refine Ex_iload_n d_law_1207 rfl ?_
  refine Ex_iconst d_law_1208 ic_2 ?_
  refine Ex_iaddN (7 * t) (2) d_law_1209 rfl rfl ?_
  refine Ex_sloadN (a := (7 * t) + 2) rfl d_law_1210 rfl (by omega) (by omega) ?_
  rw [show ((S.2 ((7 * t) + 2)) : Int32) = (J (z2)) from e2]
  refine Ex_cV2 d_law_1211 pk_law_114 (t_0 hs) (pr_count hs hC hM hO hr b1 b2) ?_
  rintro rv h1 ⟨x, rfl, hs1, hR⟩
  show Ex S law 1214 [some (.float 0), some (.ref 0), some (.ref 38), some (.int (nI (7 * t)))] [.int (x)] h1 _
  refine Ex_aload_n d_law_1214 rfl ?_
  refine Ex_aloads_n d_law_1215 rfl ?_
  refine Ex_iload_n d_law_1216 rfl ?_
  refine Ex_iconst d_law_1217 ic_1 ?_
  refine Ex_iaddN (7 * t) (1) d_law_1218 rfl rfl ?_
  refine Ex_sloadN (a := (7 * t) + 1) rfl d_law_1219 rfl (by omega) (by omega) ?_
  rw [show ((S.2 ((7 * t) + 1)) : Int32) = (J (z1)) from e1]
  refine Ex_aloads_n d_law_1220 rfl ?_
  refine Ex_iload_n d_law_1221 rfl ?_
  refine Ex_iconst d_law_1222 ic_2 ?_
  refine Ex_iaddN (7 * t) (2) d_law_1223 rfl rfl ?_
  refine Ex_sloadN (a := (7 * t) + 2) rfl d_law_1224 rfl (by omega) (by omega) ?_
  rw [show ((S.2 ((7 * t) + 2)) : Int32) = (J (z2)) from e2]
  refine Ex_cV2 d_law_1225 pk_law_117 (t_38 hs1) hR ?_
  rintro rv h2 ⟨rfl, hL⟩
  show Ex S law 1228 [some (.float 0), some (.ref 0), some (.ref 38), some (.int (nI (7 * t)))] [.int (x), .int (x)] h2 _
  refine Ex_icmp_eq 1708 d_law_1228 rfl (fun hc1228 => ?_) (fun hc1228 => ?_)
  · exact kx h2 hL
  · exact absurd rfl hc1228
theorem law_22 {S : mj_S} (hS : S.1 ≤ 3584) {t : Nat} (ht : 7 * t + 7 ≤ S.1) {h : mj_H} (hX : LX t h) {Q : Option Value → mj_H → Prop} (kx : ∀ h2, LX (t + 1) h2 → Ex S law 1708 [some (.float 0), some (.ref 0), some (.ref 38), some (.int (nI (7 * t)))] [] h2 Q) : Ex S law 1233 [some (.float 0), some (.ref 0), some (.ref 38), some (.int (nI (7 * t)))] [] h Q := by
  obtain ⟨⟨K, P, G, R, F, Y, hs, hC, hM, hO⟩, hr⟩ := hX
  obtain ⟨z1, b1, e1⟩ := J_ex (S.2 (7 * t + 1))
  refine Ex_aload_n d_law_1233 rfl ?_
  refine Ex_aloads_n d_law_1234 rfl ?_
  refine Ex_iload_n d_law_1235 rfl ?_
  refine Ex_iconst d_law_1236 ic_1 ?_
  refine Ex_iaddN (7 * t) (1) d_law_1237 rfl rfl ?_
  refine Ex_sloadN (a := (7 * t) + 1) rfl d_law_1238 rfl (by omega) (by omega) ?_
  rw [show ((S.2 ((7 * t) + 1)) : Int32) = (J (z1)) from e1]
  refine Ex_cV1 d_law_1239 pk_law_118 (t_0 hs) (pr_fits hs hC hM hO hr b1) ?_
  rintro rv h1 ⟨x, rfl, hs1, hR⟩
  show Ex S law 1242 [some (.float 0), some (.ref 0), some (.ref 38), some (.int (nI (7 * t)))] [.int (x)] h1 _
  refine Ex_aload_n d_law_1242 rfl ?_
  refine Ex_aloads_n d_law_1243 rfl ?_
  refine Ex_iload_n d_law_1244 rfl ?_
  refine Ex_iconst d_law_1245 ic_1 ?_
  refine Ex_iaddN (7 * t) (1) d_law_1246 rfl rfl ?_
  refine Ex_sloadN (a := (7 * t) + 1) rfl d_law_1247 rfl (by omega) (by omega) ?_
  rw [show ((S.2 ((7 * t) + 1)) : Int32) = (J (z1)) from e1]
  refine Ex_cV1 d_law_1248 pk_law_121 (t_38 hs1) hR ?_
  rintro rv h2 ⟨rfl, hL⟩
  show Ex S law 1251 [some (.float 0), some (.ref 0), some (.ref 38), some (.int (nI (7 * t)))] [.int (x), .int (x)] h2 _
  refine Ex_icmp_eq 1708 d_law_1251 rfl (fun hc1251 => ?_) (fun hc1251 => ?_)
  · exact kx h2 hL
  · exact absurd rfl hc1251
theorem law_23 {S : mj_S} (hS : S.1 ≤ 3584) {t : Nat} (ht : 7 * t + 7 ≤ S.1) {h : mj_H} (hX : LX t h) {Q : Option Value → mj_H → Prop} (kx : ∀ h2, LX (t + 1) h2 → Ex S law 1708 [some (.float 0), some (.ref 0), some (.ref 38), some (.int (nI (7 * t)))] [] h2 Q) : Ex S law 1256 [some (.float 0), some (.ref 0), some (.ref 38), some (.int (nI (7 * t)))] [] h Q := by
  obtain ⟨⟨K, P, G, R, F, Y, hs, hC, hM, hO⟩, hr⟩ := hX
  obtain ⟨z1, b1, e1⟩ := J_ex (S.2 (7 * t + 1))
  obtain ⟨z2, b2, e2⟩ := J_ex (S.2 (7 * t + 2))
  refine Ex_aload_n d_law_1256 rfl ?_
  refine Ex_aloads_n d_law_1257 rfl ?_
  refine Ex_iload_n d_law_1258 rfl ?_
  refine Ex_iconst d_law_1259 ic_1 ?_
  refine Ex_iaddN (7 * t) (1) d_law_1260 rfl rfl ?_
  refine Ex_sloadN (a := (7 * t) + 1) rfl d_law_1261 rfl (by omega) (by omega) ?_
  rw [show ((S.2 ((7 * t) + 1)) : Int32) = (J (z1)) from e1]
  refine Ex_aloads_n d_law_1262 rfl ?_
  refine Ex_iload_n d_law_1263 rfl ?_
  refine Ex_iconst d_law_1264 ic_2 ?_
  refine Ex_iaddN (7 * t) (2) d_law_1265 rfl rfl ?_
  refine Ex_sloadN (a := (7 * t) + 2) rfl d_law_1266 rfl (by omega) (by omega) ?_
  rw [show ((S.2 ((7 * t) + 2)) : Int32) = (J (z2)) from e2]
  refine Ex_cV2 d_law_1267 pk_law_122 (t_0 hs) (pr_period hs hC hM hO hr b1 b2) ?_
  rintro rv h1 ⟨x, rfl, hs1, hR⟩
  show Ex S law 1270 [some (.float 0), some (.ref 0), some (.ref 38), some (.int (nI (7 * t)))] [.int (x)] h1 _
  refine Ex_aload_n d_law_1270 rfl ?_
  refine Ex_aloads_n d_law_1271 rfl ?_
  refine Ex_iload_n d_law_1272 rfl ?_
  refine Ex_iconst d_law_1273 ic_1 ?_
  refine Ex_iaddN (7 * t) (1) d_law_1274 rfl rfl ?_
  refine Ex_sloadN (a := (7 * t) + 1) rfl d_law_1275 rfl (by omega) (by omega) ?_
  rw [show ((S.2 ((7 * t) + 1)) : Int32) = (J (z1)) from e1]
  refine Ex_aloads_n d_law_1276 rfl ?_
  refine Ex_iload_n d_law_1277 rfl ?_
  refine Ex_iconst d_law_1278 ic_2 ?_
  refine Ex_iaddN (7 * t) (2) d_law_1279 rfl rfl ?_
  refine Ex_sloadN (a := (7 * t) + 2) rfl d_law_1280 rfl (by omega) (by omega) ?_
  rw [show ((S.2 ((7 * t) + 2)) : Int32) = (J (z2)) from e2]
  refine Ex_cV2 d_law_1281 pk_law_125 (t_38 hs1) hR ?_
  rintro rv h2 ⟨rfl, hL⟩
  show Ex S law 1284 [some (.float 0), some (.ref 0), some (.ref 38), some (.int (nI (7 * t)))] [.int (x), .int (x)] h2 _
  refine Ex_icmp_eq 1708 d_law_1284 rfl (fun hc1284 => ?_) (fun hc1284 => ?_)
  · exact kx h2 hL
  · exact absurd rfl hc1284
theorem law_24 {S : mj_S} (hS : S.1 ≤ 3584) {t : Nat} (ht : 7 * t + 7 ≤ S.1) {h : mj_H} (hX : LX t h) {Q : Option Value → mj_H → Prop} (kx : ∀ h2, LX (t + 1) h2 → Ex S law 1708 [some (.float 0), some (.ref 0), some (.ref 38), some (.int (nI (7 * t)))] [] h2 Q) : Ex S law 1289 [some (.float 0), some (.ref 0), some (.ref 38), some (.int (nI (7 * t)))] [] h Q := by
  obtain ⟨⟨K, P, G, R, F, Y, hs, hC, hM, hO⟩, hr⟩ := hX
  obtain ⟨z1, b1, e1⟩ := J_ex (S.2 (7 * t + 1))
  refine Ex_aload_n d_law_1289 rfl ?_
  refine Ex_aloads_n d_law_1290 rfl ?_
  refine Ex_iload_n d_law_1291 rfl ?_
  refine Ex_iconst d_law_1292 ic_1 ?_
  refine Ex_iaddN (7 * t) (1) d_law_1293 rfl rfl ?_
  refine Ex_sloadN (a := (7 * t) + 1) rfl d_law_1294 rfl (by omega) (by omega) ?_
  rw [show ((S.2 ((7 * t) + 1)) : Int32) = (J (z1)) from e1]
  refine Ex_cV1 d_law_1295 pk_law_126 (t_0 hs) (pr_kept hs hC hM hO hr b1) ?_
  rintro rv h1 ⟨x, rfl, hs1, hR⟩
  show Ex S law 1298 [some (.float 0), some (.ref 0), some (.ref 38), some (.int (nI (7 * t)))] [.int (x)] h1 _
  refine Ex_aload_n d_law_1298 rfl ?_
  refine Ex_aloads_n d_law_1299 rfl ?_
  refine Ex_iload_n d_law_1300 rfl ?_
  refine Ex_iconst d_law_1301 ic_1 ?_
  refine Ex_iaddN (7 * t) (1) d_law_1302 rfl rfl ?_
  refine Ex_sloadN (a := (7 * t) + 1) rfl d_law_1303 rfl (by omega) (by omega) ?_
  rw [show ((S.2 ((7 * t) + 1)) : Int32) = (J (z1)) from e1]
  refine Ex_cV1 d_law_1304 pk_law_129 (t_38 hs1) hR ?_
  rintro rv h2 ⟨rfl, hL⟩
  show Ex S law 1307 [some (.float 0), some (.ref 0), some (.ref 38), some (.int (nI (7 * t)))] [.int (x), .int (x)] h2 _
  refine Ex_icmp_eq 1708 d_law_1307 rfl (fun hc1307 => ?_) (fun hc1307 => ?_)
  · exact kx h2 hL
  · exact absurd rfl hc1307
theorem law_25 {S : mj_S} (hS : S.1 ≤ 3584) {t : Nat} (ht : 7 * t + 7 ≤ S.1) {h : mj_H} (hX : LX t h) {Q : Option Value → mj_H → Prop} (kx : ∀ h2, LX (t + 1) h2 → Ex S law 1708 [some (.float 0), some (.ref 0), some (.ref 38), some (.int (nI (7 * t)))] [] h2 Q) : Ex S law 1312 [some (.float 0), some (.ref 0), some (.ref 38), some (.int (nI (7 * t)))] [] h Q := by
  obtain ⟨⟨K, P, G, R, F, Y, hs, hC, hM, hO⟩, hr⟩ := hX
  obtain ⟨z1, b1, e1⟩ := J_ex (S.2 (7 * t + 1))
  obtain ⟨z2, b2, e2⟩ := J_ex (S.2 (7 * t + 2))
  refine Ex_aload_n d_law_1312 rfl ?_
  refine Ex_aloads_n d_law_1313 rfl ?_
  refine Ex_iload_n d_law_1314 rfl ?_
  refine Ex_iconst d_law_1315 ic_1 ?_
  refine Ex_iaddN (7 * t) (1) d_law_1316 rfl rfl ?_
  refine Ex_sloadN (a := (7 * t) + 1) rfl d_law_1317 rfl (by omega) (by omega) ?_
  rw [show ((S.2 ((7 * t) + 1)) : Int32) = (J (z1)) from e1]
  refine Ex_aloads_n d_law_1318 rfl ?_
  refine Ex_iload_n d_law_1319 rfl ?_
  refine Ex_iconst d_law_1320 ic_2 ?_
  refine Ex_iaddN (7 * t) (2) d_law_1321 rfl rfl ?_
  refine Ex_sloadN (a := (7 * t) + 2) rfl d_law_1322 rfl (by omega) (by omega) ?_
  rw [show ((S.2 ((7 * t) + 2)) : Int32) = (J (z2)) from e2]
  refine Ex_cV2 d_law_1323 pk_law_130 (t_0 hs) (pr_congruent hs hC hM hO hr b1 b2) ?_
  rintro rv h1 ⟨x, rfl, hs1, hR⟩
  show Ex S law 1326 [some (.float 0), some (.ref 0), some (.ref 38), some (.int (nI (7 * t)))] [.int (x)] h1 _
  refine Ex_aload_n d_law_1326 rfl ?_
  refine Ex_aloads_n d_law_1327 rfl ?_
  refine Ex_iload_n d_law_1328 rfl ?_
  refine Ex_iconst d_law_1329 ic_1 ?_
  refine Ex_iaddN (7 * t) (1) d_law_1330 rfl rfl ?_
  refine Ex_sloadN (a := (7 * t) + 1) rfl d_law_1331 rfl (by omega) (by omega) ?_
  rw [show ((S.2 ((7 * t) + 1)) : Int32) = (J (z1)) from e1]
  refine Ex_aloads_n d_law_1332 rfl ?_
  refine Ex_iload_n d_law_1333 rfl ?_
  refine Ex_iconst d_law_1334 ic_2 ?_
  refine Ex_iaddN (7 * t) (2) d_law_1335 rfl rfl ?_
  refine Ex_sloadN (a := (7 * t) + 2) rfl d_law_1336 rfl (by omega) (by omega) ?_
  rw [show ((S.2 ((7 * t) + 2)) : Int32) = (J (z2)) from e2]
  refine Ex_cV2 d_law_1337 pk_law_133 (t_38 hs1) hR ?_
  rintro rv h2 ⟨rfl, hL⟩
  show Ex S law 1340 [some (.float 0), some (.ref 0), some (.ref 38), some (.int (nI (7 * t)))] [.int (x), .int (x)] h2 _
  refine Ex_icmp_eq 1708 d_law_1340 rfl (fun hc1340 => ?_) (fun hc1340 => ?_)
  · exact kx h2 hL
  · exact absurd rfl hc1340
theorem law_26 {S : mj_S} (hS : S.1 ≤ 3584) {t : Nat} (ht : 7 * t + 7 ≤ S.1) {h : mj_H} (hX : LX t h) {Q : Option Value → mj_H → Prop} (kx : ∀ h2, LX (t + 1) h2 → Ex S law 1708 [some (.float 0), some (.ref 0), some (.ref 38), some (.int (nI (7 * t)))] [] h2 Q) : Ex S law 1345 [some (.float 0), some (.ref 0), some (.ref 38), some (.int (nI (7 * t)))] [] h Q := by
  obtain ⟨⟨K, P, G, R, F, Y, hs, hC, hM, hO⟩, hr⟩ := hX
  obtain ⟨z1, b1, e1⟩ := J_ex (S.2 (7 * t + 1))
  obtain ⟨z2, b2, e2⟩ := J_ex (S.2 (7 * t + 2))
  obtain ⟨z3, b3, e3⟩ := J_ex (S.2 (7 * t + 3))
  refine Ex_aload_n d_law_1345 rfl ?_
  refine Ex_aloads_n d_law_1346 rfl ?_
  refine Ex_iload_n d_law_1347 rfl ?_
  refine Ex_iconst d_law_1348 ic_1 ?_
  refine Ex_iaddN (7 * t) (1) d_law_1349 rfl rfl ?_
  refine Ex_sloadN (a := (7 * t) + 1) rfl d_law_1350 rfl (by omega) (by omega) ?_
  rw [show ((S.2 ((7 * t) + 1)) : Int32) = (J (z1)) from e1]
  refine Ex_aloads_n d_law_1351 rfl ?_
  refine Ex_iload_n d_law_1352 rfl ?_
  refine Ex_iconst d_law_1353 ic_2 ?_
  refine Ex_iaddN (7 * t) (2) d_law_1354 rfl rfl ?_
  refine Ex_sloadN (a := (7 * t) + 2) rfl d_law_1355 rfl (by omega) (by omega) ?_
  rw [show ((S.2 ((7 * t) + 2)) : Int32) = (J (z2)) from e2]
  refine Ex_aloads_n d_law_1356 rfl ?_
  refine Ex_iload_n d_law_1357 rfl ?_
  refine Ex_iconst d_law_1358 ic_3 ?_
  refine Ex_iaddN (7 * t) (3) d_law_1359 rfl rfl ?_
  refine Ex_sloadN (a := (7 * t) + 3) rfl d_law_1360 rfl (by omega) (by omega) ?_
  rw [show ((S.2 ((7 * t) + 3)) : Int32) = (J (z3)) from e3]
  refine Ex_cV3 d_law_1361 pk_law_134 (t_0 hs) (pr_find hs hC hM hO hr b1 b2 b3) ?_
  rintro rv h1 ⟨x, rfl, hs1, hR⟩
  show Ex S law 1364 [some (.float 0), some (.ref 0), some (.ref 38), some (.int (nI (7 * t)))] [.int (x)] h1 _
  refine Ex_aload_n d_law_1364 rfl ?_
  refine Ex_aloads_n d_law_1365 rfl ?_
  refine Ex_iload_n d_law_1366 rfl ?_
  refine Ex_iconst d_law_1367 ic_1 ?_
  refine Ex_iaddN (7 * t) (1) d_law_1368 rfl rfl ?_
  refine Ex_sloadN (a := (7 * t) + 1) rfl d_law_1369 rfl (by omega) (by omega) ?_
  rw [show ((S.2 ((7 * t) + 1)) : Int32) = (J (z1)) from e1]
  refine Ex_aloads_n d_law_1370 rfl ?_
  refine Ex_iload_n d_law_1371 rfl ?_
  refine Ex_iconst d_law_1372 ic_2 ?_
  refine Ex_iaddN (7 * t) (2) d_law_1373 rfl rfl ?_
  refine Ex_sloadN (a := (7 * t) + 2) rfl d_law_1374 rfl (by omega) (by omega) ?_
  rw [show ((S.2 ((7 * t) + 2)) : Int32) = (J (z2)) from e2]
  refine Ex_aloads_n d_law_1375 rfl ?_
  refine Ex_iload_n d_law_1376 rfl ?_
  refine Ex_iconst d_law_1377 ic_3 ?_
  refine Ex_iaddN (7 * t) (3) d_law_1378 rfl rfl ?_
  refine Ex_sloadN (a := (7 * t) + 3) rfl d_law_1379 rfl (by omega) (by omega) ?_
  rw [show ((S.2 ((7 * t) + 3)) : Int32) = (J (z3)) from e3]
  refine Ex_cV3 d_law_1380 pk_law_137 (t_38 hs1) hR ?_
  rintro rv h2 ⟨rfl, hL⟩
  show Ex S law 1383 [some (.float 0), some (.ref 0), some (.ref 38), some (.int (nI (7 * t)))] [.int (x), .int (x)] h2 _
  refine Ex_icmp_eq 1708 d_law_1383 rfl (fun hc1383 => ?_) (fun hc1383 => ?_)
  · exact kx h2 hL
  · exact absurd rfl hc1383
theorem law_27 {S : mj_S} (hS : S.1 ≤ 3584) {t : Nat} (ht : 7 * t + 7 ≤ S.1) {h : mj_H} (hX : LX t h) {Q : Option Value → mj_H → Prop} (kx : ∀ h2, LX (t + 1) h2 → Ex S law 1708 [some (.float 0), some (.ref 0), some (.ref 38), some (.int (nI (7 * t)))] [] h2 Q) : Ex S law 1388 [some (.float 0), some (.ref 0), some (.ref 38), some (.int (nI (7 * t)))] [] h Q := by
  obtain ⟨⟨K, P, G, R, F, Y, hs, hC, hM, hO⟩, hr⟩ := hX
  obtain ⟨z1, b1, e1⟩ := J_ex (S.2 (7 * t + 1))
  obtain ⟨z2, b2, e2⟩ := J_ex (S.2 (7 * t + 2))
  refine Ex_aload_n d_law_1388 rfl ?_
  refine Ex_aloads_n d_law_1389 rfl ?_
  refine Ex_iload_n d_law_1390 rfl ?_
  refine Ex_iconst d_law_1391 ic_1 ?_
  refine Ex_iaddN (7 * t) (1) d_law_1392 rfl rfl ?_
  refine Ex_sloadN (a := (7 * t) + 1) rfl d_law_1393 rfl (by omega) (by omega) ?_
  rw [show ((S.2 ((7 * t) + 1)) : Int32) = (J (z1)) from e1]
  refine Ex_aloads_n d_law_1394 rfl ?_
  refine Ex_iload_n d_law_1395 rfl ?_
  refine Ex_iconst d_law_1396 ic_2 ?_
  refine Ex_iaddN (7 * t) (2) d_law_1397 rfl rfl ?_
  refine Ex_sloadN (a := (7 * t) + 2) rfl d_law_1398 rfl (by omega) (by omega) ?_
  rw [show ((S.2 ((7 * t) + 2)) : Int32) = (J (z2)) from e2]
  refine Ex_cV2 d_law_1399 pk_law_138 (t_0 hs) (pr_floor hs hC hM hO hr b1 b2) ?_
  rintro rv h1 ⟨x, rfl, hs1, hR⟩
  show Ex S law 1402 [some (.float 0), some (.ref 0), some (.ref 38), some (.int (nI (7 * t)))] [.int (x)] h1 _
  refine Ex_aload_n d_law_1402 rfl ?_
  refine Ex_aloads_n d_law_1403 rfl ?_
  refine Ex_iload_n d_law_1404 rfl ?_
  refine Ex_iconst d_law_1405 ic_1 ?_
  refine Ex_iaddN (7 * t) (1) d_law_1406 rfl rfl ?_
  refine Ex_sloadN (a := (7 * t) + 1) rfl d_law_1407 rfl (by omega) (by omega) ?_
  rw [show ((S.2 ((7 * t) + 1)) : Int32) = (J (z1)) from e1]
  refine Ex_aloads_n d_law_1408 rfl ?_
  refine Ex_iload_n d_law_1409 rfl ?_
  refine Ex_iconst d_law_1410 ic_2 ?_
  refine Ex_iaddN (7 * t) (2) d_law_1411 rfl rfl ?_
  refine Ex_sloadN (a := (7 * t) + 2) rfl d_law_1412 rfl (by omega) (by omega) ?_
  rw [show ((S.2 ((7 * t) + 2)) : Int32) = (J (z2)) from e2]
  refine Ex_cV2 d_law_1413 pk_law_141 (t_38 hs1) hR ?_
  rintro rv h2 ⟨rfl, hL⟩
  show Ex S law 1416 [some (.float 0), some (.ref 0), some (.ref 38), some (.int (nI (7 * t)))] [.int (x), .int (x)] h2 _
  refine Ex_icmp_eq 1708 d_law_1416 rfl (fun hc1416 => ?_) (fun hc1416 => ?_)
  · exact kx h2 hL
  · exact absurd rfl hc1416
theorem law_28 {S : mj_S} (hS : S.1 ≤ 3584) {t : Nat} (ht : 7 * t + 7 ≤ S.1) {h : mj_H} (hX : LX t h) {Q : Option Value → mj_H → Prop} (kx : ∀ h2, LX (t + 1) h2 → Ex S law 1708 [some (.float 0), some (.ref 0), some (.ref 38), some (.int (nI (7 * t)))] [] h2 Q) : Ex S law 1421 [some (.float 0), some (.ref 0), some (.ref 38), some (.int (nI (7 * t)))] [] h Q := by
  obtain ⟨⟨K, P, G, R, F, Y, hs, hC, hM, hO⟩, hr⟩ := hX
  obtain ⟨z1, b1, e1⟩ := J_ex (S.2 (7 * t + 1))
  obtain ⟨z2, b2, e2⟩ := J_ex (S.2 (7 * t + 2))
  obtain ⟨z3, b3, e3⟩ := J_ex (S.2 (7 * t + 3))
  obtain ⟨z4, b4, e4⟩ := J_ex (S.2 (7 * t + 4))
  obtain ⟨z5, b5, e5⟩ := J_ex (S.2 (7 * t + 5))
  refine Ex_aload_n d_law_1421 rfl ?_
  refine Ex_aloads_n d_law_1422 rfl ?_
  refine Ex_iload_n d_law_1423 rfl ?_
  refine Ex_iconst d_law_1424 ic_1 ?_
  refine Ex_iaddN (7 * t) (1) d_law_1425 rfl rfl ?_
  refine Ex_sloadN (a := (7 * t) + 1) rfl d_law_1426 rfl (by omega) (by omega) ?_
  rw [show ((S.2 ((7 * t) + 1)) : Int32) = (J (z1)) from e1]
  refine Ex_aloads_n d_law_1427 rfl ?_
  refine Ex_iload_n d_law_1428 rfl ?_
  refine Ex_iconst d_law_1429 ic_2 ?_
  refine Ex_iaddN (7 * t) (2) d_law_1430 rfl rfl ?_
  refine Ex_sloadN (a := (7 * t) + 2) rfl d_law_1431 rfl (by omega) (by omega) ?_
  rw [show ((S.2 ((7 * t) + 2)) : Int32) = (J (z2)) from e2]
  refine Ex_aloads_n d_law_1432 rfl ?_
  refine Ex_iload_n d_law_1433 rfl ?_
  refine Ex_iconst d_law_1434 ic_3 ?_
  refine Ex_iaddN (7 * t) (3) d_law_1435 rfl rfl ?_
  refine Ex_sloadN (a := (7 * t) + 3) rfl d_law_1436 rfl (by omega) (by omega) ?_
  rw [show ((S.2 ((7 * t) + 3)) : Int32) = (J (z3)) from e3]
  refine Ex_aloads_n d_law_1437 rfl ?_
  refine Ex_iload_n d_law_1438 rfl ?_
  refine Ex_iconst d_law_1439 ic_4 ?_
  refine Ex_iaddN (7 * t) (4) d_law_1440 rfl rfl ?_
  refine Ex_sloadN (a := (7 * t) + 4) rfl d_law_1441 rfl (by omega) (by omega) ?_
  rw [show ((S.2 ((7 * t) + 4)) : Int32) = (J (z4)) from e4]
  refine Ex_aloads_n d_law_1442 rfl ?_
  refine Ex_iload_n d_law_1443 rfl ?_
  refine Ex_iconst d_law_1444 ic_5 ?_
  refine Ex_iaddN (7 * t) (5) d_law_1445 rfl rfl ?_
  refine Ex_sloadN (a := (7 * t) + 5) rfl d_law_1446 rfl (by omega) (by omega) ?_
  rw [show ((S.2 ((7 * t) + 5)) : Int32) = (J (z5)) from e5]
  refine Ex_cV5 d_law_1447 pk_law_142 (t_0 hs) (pr_place hs hC hM hO hr b1 b2 b3 b4 b5) ?_
  rintro rv h1 ⟨x, rfl, hs1, hR⟩
  show Ex S law 1450 [some (.float 0), some (.ref 0), some (.ref 38), some (.int (nI (7 * t)))] [.int (x)] h1 _
  refine Ex_aload_n d_law_1450 rfl ?_
  refine Ex_aloads_n d_law_1451 rfl ?_
  refine Ex_iload_n d_law_1452 rfl ?_
  refine Ex_iconst d_law_1453 ic_1 ?_
  refine Ex_iaddN (7 * t) (1) d_law_1454 rfl rfl ?_
  refine Ex_sloadN (a := (7 * t) + 1) rfl d_law_1455 rfl (by omega) (by omega) ?_
  rw [show ((S.2 ((7 * t) + 1)) : Int32) = (J (z1)) from e1]
  refine Ex_aloads_n d_law_1456 rfl ?_
  refine Ex_iload_n d_law_1457 rfl ?_
  refine Ex_iconst d_law_1458 ic_2 ?_
  refine Ex_iaddN (7 * t) (2) d_law_1459 rfl rfl ?_
  refine Ex_sloadN (a := (7 * t) + 2) rfl d_law_1460 rfl (by omega) (by omega) ?_
  rw [show ((S.2 ((7 * t) + 2)) : Int32) = (J (z2)) from e2]
  refine Ex_aloads_n d_law_1461 rfl ?_
  refine Ex_iload_n d_law_1462 rfl ?_
  refine Ex_iconst d_law_1463 ic_3 ?_
  refine Ex_iaddN (7 * t) (3) d_law_1464 rfl rfl ?_
  refine Ex_sloadN (a := (7 * t) + 3) rfl d_law_1465 rfl (by omega) (by omega) ?_
  rw [show ((S.2 ((7 * t) + 3)) : Int32) = (J (z3)) from e3]
  refine Ex_aloads_n d_law_1466 rfl ?_
  refine Ex_iload_n d_law_1467 rfl ?_
  refine Ex_iconst d_law_1468 ic_4 ?_
  refine Ex_iaddN (7 * t) (4) d_law_1469 rfl rfl ?_
  refine Ex_sloadN (a := (7 * t) + 4) rfl d_law_1470 rfl (by omega) (by omega) ?_
  rw [show ((S.2 ((7 * t) + 4)) : Int32) = (J (z4)) from e4]
  refine Ex_aloads_n d_law_1471 rfl ?_
  refine Ex_iload_n d_law_1472 rfl ?_
  refine Ex_iconst d_law_1473 ic_5 ?_
  refine Ex_iaddN (7 * t) (5) d_law_1474 rfl rfl ?_
  refine Ex_sloadN (a := (7 * t) + 5) rfl d_law_1475 rfl (by omega) (by omega) ?_
  rw [show ((S.2 ((7 * t) + 5)) : Int32) = (J (z5)) from e5]
  refine Ex_cV5 d_law_1476 pk_law_145 (t_38 hs1) hR ?_
  rintro rv h2 ⟨rfl, hL⟩
  show Ex S law 1479 [some (.float 0), some (.ref 0), some (.ref 38), some (.int (nI (7 * t)))] [.int (x), .int (x)] h2 _
  refine Ex_icmp_eq 1708 d_law_1479 rfl (fun hc1479 => ?_) (fun hc1479 => ?_)
  · exact kx h2 hL
  · exact absurd rfl hc1479
theorem law_29 {S : mj_S} (hS : S.1 ≤ 3584) {t : Nat} (ht : 7 * t + 7 ≤ S.1) {h : mj_H} (hX : LX t h) {Q : Option Value → mj_H → Prop} (kx : ∀ h2, LX (t + 1) h2 → Ex S law 1708 [some (.float 0), some (.ref 0), some (.ref 38), some (.int (nI (7 * t)))] [] h2 Q) : Ex S law 1484 [some (.float 0), some (.ref 0), some (.ref 38), some (.int (nI (7 * t)))] [] h Q := by
  obtain ⟨⟨K, P, G, R, F, Y, hs, hC, hM, hO⟩, hr⟩ := hX
  obtain ⟨z1, b1, e1⟩ := J_ex (S.2 (7 * t + 1))
  obtain ⟨z2, b2, e2⟩ := J_ex (S.2 (7 * t + 2))
  obtain ⟨z3, b3, e3⟩ := J_ex (S.2 (7 * t + 3))
  refine Ex_aload_n d_law_1484 rfl ?_
  refine Ex_aloads_n d_law_1485 rfl ?_
  refine Ex_iload_n d_law_1486 rfl ?_
  refine Ex_iconst d_law_1487 ic_1 ?_
  refine Ex_iaddN (7 * t) (1) d_law_1488 rfl rfl ?_
  refine Ex_sloadN (a := (7 * t) + 1) rfl d_law_1489 rfl (by omega) (by omega) ?_
  rw [show ((S.2 ((7 * t) + 1)) : Int32) = (J (z1)) from e1]
  refine Ex_aloads_n d_law_1490 rfl ?_
  refine Ex_iload_n d_law_1491 rfl ?_
  refine Ex_iconst d_law_1492 ic_2 ?_
  refine Ex_iaddN (7 * t) (2) d_law_1493 rfl rfl ?_
  refine Ex_sloadN (a := (7 * t) + 2) rfl d_law_1494 rfl (by omega) (by omega) ?_
  rw [show ((S.2 ((7 * t) + 2)) : Int32) = (J (z2)) from e2]
  refine Ex_aloads_n d_law_1495 rfl ?_
  refine Ex_iload_n d_law_1496 rfl ?_
  refine Ex_iconst d_law_1497 ic_3 ?_
  refine Ex_iaddN (7 * t) (3) d_law_1498 rfl rfl ?_
  refine Ex_sloadN (a := (7 * t) + 3) rfl d_law_1499 rfl (by omega) (by omega) ?_
  rw [show ((S.2 ((7 * t) + 3)) : Int32) = (J (z3)) from e3]
  refine Ex_cV3 d_law_1500 pk_law_146 (t_0 hs) (pr_stock hs hC hM hO hr b1 b2 b3) ?_
  rintro rv h1 ⟨x, rfl, hs1, hR⟩
  show Ex S law 1503 [some (.float 0), some (.ref 0), some (.ref 38), some (.int (nI (7 * t)))] [.int (x)] h1 _
  refine Ex_aload_n d_law_1503 rfl ?_
  refine Ex_aloads_n d_law_1504 rfl ?_
  refine Ex_iload_n d_law_1505 rfl ?_
  refine Ex_iconst d_law_1506 ic_1 ?_
  refine Ex_iaddN (7 * t) (1) d_law_1507 rfl rfl ?_
  refine Ex_sloadN (a := (7 * t) + 1) rfl d_law_1508 rfl (by omega) (by omega) ?_
  rw [show ((S.2 ((7 * t) + 1)) : Int32) = (J (z1)) from e1]
  refine Ex_aloads_n d_law_1509 rfl ?_
  refine Ex_iload_n d_law_1510 rfl ?_
  refine Ex_iconst d_law_1511 ic_2 ?_
  refine Ex_iaddN (7 * t) (2) d_law_1512 rfl rfl ?_
  refine Ex_sloadN (a := (7 * t) + 2) rfl d_law_1513 rfl (by omega) (by omega) ?_
  rw [show ((S.2 ((7 * t) + 2)) : Int32) = (J (z2)) from e2]
  refine Ex_aloads_n d_law_1514 rfl ?_
  refine Ex_iload_n d_law_1515 rfl ?_
  refine Ex_iconst d_law_1516 ic_3 ?_
  refine Ex_iaddN (7 * t) (3) d_law_1517 rfl rfl ?_
  refine Ex_sloadN (a := (7 * t) + 3) rfl d_law_1518 rfl (by omega) (by omega) ?_
  rw [show ((S.2 ((7 * t) + 3)) : Int32) = (J (z3)) from e3]
  refine Ex_cV3 d_law_1519 pk_law_149 (t_38 hs1) hR ?_
  rintro rv h2 ⟨rfl, hL⟩
  show Ex S law 1522 [some (.float 0), some (.ref 0), some (.ref 38), some (.int (nI (7 * t)))] [.int (x), .int (x)] h2 _
  refine Ex_icmp_eq 1708 d_law_1522 rfl (fun hc1522 => ?_) (fun hc1522 => ?_)
  · exact kx h2 hL
  · exact absurd rfl hc1522
theorem law_30 {S : mj_S} (hS : S.1 ≤ 3584) {t : Nat} (ht : 7 * t + 7 ≤ S.1) {h : mj_H} (hX : LX t h) {Q : Option Value → mj_H → Prop} (kx : ∀ h2, LX (t + 1) h2 → Ex S law 1708 [some (.float 0), some (.ref 0), some (.ref 38), some (.int (nI (7 * t)))] [] h2 Q) : Ex S law 1527 [some (.float 0), some (.ref 0), some (.ref 38), some (.int (nI (7 * t)))] [] h Q := by
  obtain ⟨⟨K, P, G, R, F, Y, hs, hC, hM, hO⟩, hr⟩ := hX
  obtain ⟨z1, b1, e1⟩ := J_ex (S.2 (7 * t + 1))
  refine Ex_aload_n d_law_1527 rfl ?_
  refine Ex_aloads_n d_law_1528 rfl ?_
  refine Ex_iload_n d_law_1529 rfl ?_
  refine Ex_iconst d_law_1530 ic_1 ?_
  refine Ex_iaddN (7 * t) (1) d_law_1531 rfl rfl ?_
  refine Ex_sloadN (a := (7 * t) + 1) rfl d_law_1532 rfl (by omega) (by omega) ?_
  rw [show ((S.2 ((7 * t) + 1)) : Int32) = (J (z1)) from e1]
  refine Ex_cV1 d_law_1533 pk_law_150 (t_0 hs) (pr_fill hs hC hM hO hr b1) ?_
  rintro rv h1 ⟨x, rfl, hs1, hR⟩
  show Ex S law 1536 [some (.float 0), some (.ref 0), some (.ref 38), some (.int (nI (7 * t)))] [.int (x)] h1 _
  refine Ex_aload_n d_law_1536 rfl ?_
  refine Ex_aloads_n d_law_1537 rfl ?_
  refine Ex_iload_n d_law_1538 rfl ?_
  refine Ex_iconst d_law_1539 ic_1 ?_
  refine Ex_iaddN (7 * t) (1) d_law_1540 rfl rfl ?_
  refine Ex_sloadN (a := (7 * t) + 1) rfl d_law_1541 rfl (by omega) (by omega) ?_
  rw [show ((S.2 ((7 * t) + 1)) : Int32) = (J (z1)) from e1]
  refine Ex_cV1 d_law_1542 pk_law_153 (t_38 hs1) hR ?_
  rintro rv h2 ⟨rfl, hL⟩
  show Ex S law 1545 [some (.float 0), some (.ref 0), some (.ref 38), some (.int (nI (7 * t)))] [.int (x), .int (x)] h2 _
  refine Ex_icmp_eq 1708 d_law_1545 rfl (fun hc1545 => ?_) (fun hc1545 => ?_)
  · exact kx h2 hL
  · exact absurd rfl hc1545
theorem law_31 {S : mj_S} (hS : S.1 ≤ 3584) {t : Nat} (ht : 7 * t + 7 ≤ S.1) {h : mj_H} (hX : LX t h) {Q : Option Value → mj_H → Prop} (kx : ∀ h2, LX (t + 1) h2 → Ex S law 1708 [some (.float 0), some (.ref 0), some (.ref 38), some (.int (nI (7 * t)))] [] h2 Q) : Ex S law 1550 [some (.float 0), some (.ref 0), some (.ref 38), some (.int (nI (7 * t)))] [] h Q := by
  obtain ⟨⟨K, P, G, R, F, Y, hs, hC, hM, hO⟩, hr⟩ := hX
  obtain ⟨z1, b1, e1⟩ := J_ex (S.2 (7 * t + 1))
  obtain ⟨z2, b2, e2⟩ := J_ex (S.2 (7 * t + 2))
  refine Ex_aload_n d_law_1550 rfl ?_
  refine Ex_aloads_n d_law_1551 rfl ?_
  refine Ex_iload_n d_law_1552 rfl ?_
  refine Ex_iconst d_law_1553 ic_1 ?_
  refine Ex_iaddN (7 * t) (1) d_law_1554 rfl rfl ?_
  refine Ex_sloadN (a := (7 * t) + 1) rfl d_law_1555 rfl (by omega) (by omega) ?_
  rw [show ((S.2 ((7 * t) + 1)) : Int32) = (J (z1)) from e1]
  refine Ex_aloads_n d_law_1556 rfl ?_
  refine Ex_iload_n d_law_1557 rfl ?_
  refine Ex_iconst d_law_1558 ic_2 ?_
  refine Ex_iaddN (7 * t) (2) d_law_1559 rfl rfl ?_
  refine Ex_sloadN (a := (7 * t) + 2) rfl d_law_1560 rfl (by omega) (by omega) ?_
  rw [show ((S.2 ((7 * t) + 2)) : Int32) = (J (z2)) from e2]
  refine Ex_cV2 d_law_1561 pk_law_154 (t_0 hs) (pr_fills hs hC hM hO hr b1 b2) ?_
  rintro rv h1 ⟨x, rfl, hs1, hR⟩
  show Ex S law 1564 [some (.float 0), some (.ref 0), some (.ref 38), some (.int (nI (7 * t)))] [.int (x)] h1 _
  refine Ex_aload_n d_law_1564 rfl ?_
  refine Ex_aloads_n d_law_1565 rfl ?_
  refine Ex_iload_n d_law_1566 rfl ?_
  refine Ex_iconst d_law_1567 ic_1 ?_
  refine Ex_iaddN (7 * t) (1) d_law_1568 rfl rfl ?_
  refine Ex_sloadN (a := (7 * t) + 1) rfl d_law_1569 rfl (by omega) (by omega) ?_
  rw [show ((S.2 ((7 * t) + 1)) : Int32) = (J (z1)) from e1]
  refine Ex_aloads_n d_law_1570 rfl ?_
  refine Ex_iload_n d_law_1571 rfl ?_
  refine Ex_iconst d_law_1572 ic_2 ?_
  refine Ex_iaddN (7 * t) (2) d_law_1573 rfl rfl ?_
  refine Ex_sloadN (a := (7 * t) + 2) rfl d_law_1574 rfl (by omega) (by omega) ?_
  rw [show ((S.2 ((7 * t) + 2)) : Int32) = (J (z2)) from e2]
  refine Ex_cV2 d_law_1575 pk_law_157 (t_38 hs1) hR ?_
  rintro rv h2 ⟨rfl, hL⟩
  show Ex S law 1578 [some (.float 0), some (.ref 0), some (.ref 38), some (.int (nI (7 * t)))] [.int (x), .int (x)] h2 _
  refine Ex_icmp_eq 1708 d_law_1578 rfl (fun hc1578 => ?_) (fun hc1578 => ?_)
  · exact kx h2 hL
  · exact absurd rfl hc1578
theorem law_32 {S : mj_S} (hS : S.1 ≤ 3584) {t : Nat} (ht : 7 * t + 7 ≤ S.1) {h : mj_H} (hX : LX t h) {Q : Option Value → mj_H → Prop} (kx : ∀ h2, LX (t + 1) h2 → Ex S law 1708 [some (.float 0), some (.ref 0), some (.ref 38), some (.int (nI (7 * t)))] [] h2 Q) : Ex S law 1583 [some (.float 0), some (.ref 0), some (.ref 38), some (.int (nI (7 * t)))] [] h Q := by
  obtain ⟨⟨K, P, G, R, F, Y, hs, hC, hM, hO⟩, hr⟩ := hX
  obtain ⟨z1, b1, e1⟩ := J_ex (S.2 (7 * t + 1))
  refine Ex_aload_n d_law_1583 rfl ?_
  refine Ex_aloads_n d_law_1584 rfl ?_
  refine Ex_iload_n d_law_1585 rfl ?_
  refine Ex_iconst d_law_1586 ic_1 ?_
  refine Ex_iaddN (7 * t) (1) d_law_1587 rfl rfl ?_
  refine Ex_sloadN (a := (7 * t) + 1) rfl d_law_1588 rfl (by omega) (by omega) ?_
  rw [show ((S.2 ((7 * t) + 1)) : Int32) = (J (z1)) from e1]
  refine Ex_cV1 d_law_1589 pk_law_158 (t_0 hs) (pr_cheapest hs hC hM hO hr b1) ?_
  rintro rv h1 ⟨x, rfl, hs1, hR⟩
  show Ex S law 1592 [some (.float 0), some (.ref 0), some (.ref 38), some (.int (nI (7 * t)))] [.int (x)] h1 _
  refine Ex_aload_n d_law_1592 rfl ?_
  refine Ex_aloads_n d_law_1593 rfl ?_
  refine Ex_iload_n d_law_1594 rfl ?_
  refine Ex_iconst d_law_1595 ic_1 ?_
  refine Ex_iaddN (7 * t) (1) d_law_1596 rfl rfl ?_
  refine Ex_sloadN (a := (7 * t) + 1) rfl d_law_1597 rfl (by omega) (by omega) ?_
  rw [show ((S.2 ((7 * t) + 1)) : Int32) = (J (z1)) from e1]
  refine Ex_cV1 d_law_1598 pk_law_161 (t_38 hs1) hR ?_
  rintro rv h2 ⟨rfl, hL⟩
  show Ex S law 1601 [some (.float 0), some (.ref 0), some (.ref 38), some (.int (nI (7 * t)))] [.int (x), .int (x)] h2 _
  refine Ex_icmp_eq 1708 d_law_1601 rfl (fun hc1601 => ?_) (fun hc1601 => ?_)
  · exact kx h2 hL
  · exact absurd rfl hc1601
theorem law_33 {S : mj_S} (hS : S.1 ≤ 3584) {t : Nat} (ht : 7 * t + 7 ≤ S.1) {h : mj_H} (hX : LX t h) {Q : Option Value → mj_H → Prop} (kx : ∀ h2, LX (t + 1) h2 → Ex S law 1708 [some (.float 0), some (.ref 0), some (.ref 38), some (.int (nI (7 * t)))] [] h2 Q) : Ex S law 1606 [some (.float 0), some (.ref 0), some (.ref 38), some (.int (nI (7 * t)))] [] h Q := by
  obtain ⟨⟨K, P, G, R, F, Y, hs, hC, hM, hO⟩, hr⟩ := hX
  obtain ⟨z1, b1, e1⟩ := J_ex (S.2 (7 * t + 1))
  refine Ex_aload_n d_law_1606 rfl ?_
  refine Ex_aloads_n d_law_1607 rfl ?_
  refine Ex_iload_n d_law_1608 rfl ?_
  refine Ex_iconst d_law_1609 ic_1 ?_
  refine Ex_iaddN (7 * t) (1) d_law_1610 rfl rfl ?_
  refine Ex_sloadN (a := (7 * t) + 1) rfl d_law_1611 rfl (by omega) (by omega) ?_
  rw [show ((S.2 ((7 * t) + 1)) : Int32) = (J (z1)) from e1]
  refine Ex_cV1 d_law_1612 pk_law_162 (t_0 hs) (pr_forced hs hC hM hO hr b1) ?_
  rintro rv h1 ⟨x, rfl, hs1, hR⟩
  show Ex S law 1615 [some (.float 0), some (.ref 0), some (.ref 38), some (.int (nI (7 * t)))] [.int (x)] h1 _
  refine Ex_aload_n d_law_1615 rfl ?_
  refine Ex_aloads_n d_law_1616 rfl ?_
  refine Ex_iload_n d_law_1617 rfl ?_
  refine Ex_iconst d_law_1618 ic_1 ?_
  refine Ex_iaddN (7 * t) (1) d_law_1619 rfl rfl ?_
  refine Ex_sloadN (a := (7 * t) + 1) rfl d_law_1620 rfl (by omega) (by omega) ?_
  rw [show ((S.2 ((7 * t) + 1)) : Int32) = (J (z1)) from e1]
  refine Ex_cV1 d_law_1621 pk_law_165 (t_38 hs1) hR ?_
  rintro rv h2 ⟨rfl, hL⟩
  show Ex S law 1624 [some (.float 0), some (.ref 0), some (.ref 38), some (.int (nI (7 * t)))] [.int (x), .int (x)] h2 _
  refine Ex_icmp_eq 1708 d_law_1624 rfl (fun hc1624 => ?_) (fun hc1624 => ?_)
  · exact kx h2 hL
  · exact absurd rfl hc1624
theorem law_34 {S : mj_S} (hS : S.1 ≤ 3584) {t : Nat} (ht : 7 * t + 7 ≤ S.1) {h : mj_H} (hX : LX t h) {Q : Option Value → mj_H → Prop} (kx : ∀ h2, LX (t + 1) h2 → Ex S law 1708 [some (.float 0), some (.ref 0), some (.ref 38), some (.int (nI (7 * t)))] [] h2 Q) : Ex S law 1629 [some (.float 0), some (.ref 0), some (.ref 38), some (.int (nI (7 * t)))] [] h Q := by
  obtain ⟨⟨K, P, G, R, F, Y, hs, hC, hM, hO⟩, hr⟩ := hX
  obtain ⟨z1, b1, e1⟩ := J_ex (S.2 (7 * t + 1))
  obtain ⟨z2, b2, e2⟩ := J_ex (S.2 (7 * t + 2))
  obtain ⟨z3, b3, e3⟩ := J_ex (S.2 (7 * t + 3))
  refine Ex_aload_n d_law_1629 rfl ?_
  refine Ex_aloads_n d_law_1630 rfl ?_
  refine Ex_iload_n d_law_1631 rfl ?_
  refine Ex_iconst d_law_1632 ic_1 ?_
  refine Ex_iaddN (7 * t) (1) d_law_1633 rfl rfl ?_
  refine Ex_sloadN (a := (7 * t) + 1) rfl d_law_1634 rfl (by omega) (by omega) ?_
  rw [show ((S.2 ((7 * t) + 1)) : Int32) = (J (z1)) from e1]
  refine Ex_aloads_n d_law_1635 rfl ?_
  refine Ex_iload_n d_law_1636 rfl ?_
  refine Ex_iconst d_law_1637 ic_2 ?_
  refine Ex_iaddN (7 * t) (2) d_law_1638 rfl rfl ?_
  refine Ex_sloadN (a := (7 * t) + 2) rfl d_law_1639 rfl (by omega) (by omega) ?_
  rw [show ((S.2 ((7 * t) + 2)) : Int32) = (J (z2)) from e2]
  refine Ex_aloads_n d_law_1640 rfl ?_
  refine Ex_iload_n d_law_1641 rfl ?_
  refine Ex_iconst d_law_1642 ic_3 ?_
  refine Ex_iaddN (7 * t) (3) d_law_1643 rfl rfl ?_
  refine Ex_sloadN (a := (7 * t) + 3) rfl d_law_1644 rfl (by omega) (by omega) ?_
  rw [show ((S.2 ((7 * t) + 3)) : Int32) = (J (z3)) from e3]
  refine Ex_cV3 d_law_1645 pk_law_166 (t_0 hs) (pr_shown hs hC hM hO hr b1 b2 b3) ?_
  rintro rv h1 ⟨x, rfl, hs1, hR⟩
  show Ex S law 1648 [some (.float 0), some (.ref 0), some (.ref 38), some (.int (nI (7 * t)))] [.int (x)] h1 _
  refine Ex_aload_n d_law_1648 rfl ?_
  refine Ex_aloads_n d_law_1649 rfl ?_
  refine Ex_iload_n d_law_1650 rfl ?_
  refine Ex_iconst d_law_1651 ic_1 ?_
  refine Ex_iaddN (7 * t) (1) d_law_1652 rfl rfl ?_
  refine Ex_sloadN (a := (7 * t) + 1) rfl d_law_1653 rfl (by omega) (by omega) ?_
  rw [show ((S.2 ((7 * t) + 1)) : Int32) = (J (z1)) from e1]
  refine Ex_aloads_n d_law_1654 rfl ?_
  refine Ex_iload_n d_law_1655 rfl ?_
  refine Ex_iconst d_law_1656 ic_2 ?_
  refine Ex_iaddN (7 * t) (2) d_law_1657 rfl rfl ?_
  refine Ex_sloadN (a := (7 * t) + 2) rfl d_law_1658 rfl (by omega) (by omega) ?_
  rw [show ((S.2 ((7 * t) + 2)) : Int32) = (J (z2)) from e2]
  refine Ex_aloads_n d_law_1659 rfl ?_
  refine Ex_iload_n d_law_1660 rfl ?_
  refine Ex_iconst d_law_1661 ic_3 ?_
  refine Ex_iaddN (7 * t) (3) d_law_1662 rfl rfl ?_
  refine Ex_sloadN (a := (7 * t) + 3) rfl d_law_1663 rfl (by omega) (by omega) ?_
  rw [show ((S.2 ((7 * t) + 3)) : Int32) = (J (z3)) from e3]
  refine Ex_cV3 d_law_1664 pk_law_169 (t_38 hs1) hR ?_
  rintro rv h2 ⟨rfl, hL⟩
  show Ex S law 1667 [some (.float 0), some (.ref 0), some (.ref 38), some (.int (nI (7 * t)))] [.int (x), .int (x)] h2 _
  refine Ex_icmp_eq 1708 d_law_1667 rfl (fun hc1667 => ?_) (fun hc1667 => ?_)
  · exact kx h2 hL
  · exact absurd rfl hc1667
theorem law_35 {S : mj_S} (hS : S.1 ≤ 3584) {t : Nat} (ht : 7 * t + 7 ≤ S.1) {h : mj_H} (hX : LX t h) {Q : Option Value → mj_H → Prop} (kx : ∀ h2, LX (t + 1) h2 → Ex S law 1708 [some (.float 0), some (.ref 0), some (.ref 38), some (.int (nI (7 * t)))] [] h2 Q) : Ex S law 1672 [some (.float 0), some (.ref 0), some (.ref 38), some (.int (nI (7 * t)))] [] h Q := by
  obtain ⟨⟨K, P, G, R, F, Y, hs, hC, hM, hO⟩, hr⟩ := hX
  refine Ex_aload_n d_law_1672 rfl ?_
  refine Ex_cV0 d_law_1673 pk_law_170 (t_0 hs) (pr_undo hs hC hM hO hr ) ?_
  rintro rv h1 ⟨x, rfl, hs1, hR⟩
  show Ex S law 1676 [some (.float 0), some (.ref 0), some (.ref 38), some (.int (nI (7 * t)))] [.int (x)] h1 _
  refine Ex_aload_n d_law_1676 rfl ?_
  refine Ex_cV0 d_law_1677 pk_law_173 (t_38 hs1) hR ?_
  rintro rv h2 ⟨rfl, hL⟩
  show Ex S law 1680 [some (.float 0), some (.ref 0), some (.ref 38), some (.int (nI (7 * t)))] [.int (x), .int (x)] h2 _
  refine Ex_icmp_eq 1708 d_law_1680 rfl (fun hc1680 => ?_) (fun hc1680 => ?_)
  · exact kx h2 hL
  · exact absurd rfl hc1680
theorem law_36 {S : mj_S} (hS : S.1 ≤ 3584) {t : Nat} (ht : 7 * t + 7 ≤ S.1) {h : mj_H} (hX : LX t h) {Q : Option Value → mj_H → Prop} (kx : ∀ h2, LX (t + 1) h2 → Ex S law 1708 [some (.float 0), some (.ref 0), some (.ref 38), some (.int (nI (7 * t)))] [] h2 Q) : Ex S law 1685 [some (.float 0), some (.ref 0), some (.ref 38), some (.int (nI (7 * t)))] [] h Q := by
  obtain ⟨⟨K, P, G, R, F, Y, hs, hC, hM, hO⟩, hr⟩ := hX
  obtain ⟨z1, b1, e1⟩ := J_ex (S.2 (7 * t + 1))
  refine Ex_aload_n d_law_1685 rfl ?_
  refine Ex_aloads_n d_law_1686 rfl ?_
  refine Ex_iload_n d_law_1687 rfl ?_
  refine Ex_iconst d_law_1688 ic_1 ?_
  refine Ex_iaddN (7 * t) (1) d_law_1689 rfl rfl ?_
  refine Ex_sloadN (a := (7 * t) + 1) rfl d_law_1690 rfl (by omega) (by omega) ?_
  rw [show ((S.2 ((7 * t) + 1)) : Int32) = (J (z1)) from e1]
  refine Ex_cV1 d_law_1691 pk_law_174 (t_0 hs) (pr_about hs hC hM hO hr b1) ?_
  rintro rv h1 ⟨x, rfl, hs1, hR⟩
  show Ex S law 1694 [some (.float 0), some (.ref 0), some (.ref 38), some (.int (nI (7 * t)))] [.int (x)] h1 _
  refine Ex_aload_n d_law_1694 rfl ?_
  refine Ex_aloads_n d_law_1695 rfl ?_
  refine Ex_iload_n d_law_1696 rfl ?_
  refine Ex_iconst d_law_1697 ic_1 ?_
  refine Ex_iaddN (7 * t) (1) d_law_1698 rfl rfl ?_
  refine Ex_sloadN (a := (7 * t) + 1) rfl d_law_1699 rfl (by omega) (by omega) ?_
  rw [show ((S.2 ((7 * t) + 1)) : Int32) = (J (z1)) from e1]
  refine Ex_cV1 d_law_1700 pk_law_177 (t_38 hs1) hR ?_
  rintro rv h2 ⟨rfl, hL⟩
  show Ex S law 1703 [some (.float 0), some (.ref 0), some (.ref 38), some (.int (nI (7 * t)))] [.int (x), .int (x)] h2 _
  refine Ex_icmp_eq 1708 d_law_1703 rfl (fun hc1703 => ?_) (fun hc1703 => ?_)
  · exact kx h2 hL
  · exact absurd rfl hc1703
