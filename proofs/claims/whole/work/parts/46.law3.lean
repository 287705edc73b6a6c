set_option maxHeartbeats 16000000 in
set_option maxRecDepth 100000 in
theorem law_loop {b L : Nat} {xs : Nat → Int32} {k n : Nat} (hL : L ≤ 2560) (hkn : k ≤ (am_r YL).cells ∧ n ≤ (am_r YL).slots) : ∀ (nn i : Nat) (z : Int) (μ : am_M), z = (i : Int) → JJ μ → i ≤ L + 5 → L + 6 - i < nn → am_V b L xs k n 18 [(1, .ref 0), (2, .ref 120), (3, am_i z)] [] 141 μ := by
  intro nn
  induction nn with
  | zero => intro i z μ _ _ _ h; omega
  | succ nn ih =>
    intro i z μ hz hJ hi5 hm
    obtain ⟨bb, C, rem, hs, hB, hM⟩ := hJ
    refine vp_iload_n dL_law_18 rfl rfl ?_
    refine vp_slen dL_law_19 dL_law_20 hL ?_
    refine vp_iconst dL_law_21 ?_
    refine vp_isub dL_law_22 ?_
    refine vp_icmp_gt (tgt := 991) dL_law_23 (by decide) (by omega) (fun c23 => ?_) (fun c23 => ?_)
    · refine vp_iconst dL_law_991 ?_
      exact vp_end dL_law_992 hkn.1 hkn.2
    · have hiL : i + 4 < L := by omega
      refine vp_arg0 (i := i) dL_law_26 dL_law_27 dL_law_28 hz (by omega) hL ?_
      refine vp_bipush dL_law_29 (by decide) ?_
      refine vp_iand (r := ((xs i) &&& 31).toInt) dL_law_31 (by rw [Int32.ofInt_toInt, Int32.ofInt_toInt]; rfl) ?_
      have hr : -2147483648 ≤ ((xs i) &&& 31).toInt ∧ ((xs i) &&& 31).toInt ≤ 2147483647 := sx_r (fun _ => (xs i) &&& 31) 0
      generalize ((xs i) &&& 31).toInt = a at hr ⊢
      by_cases c0 : a = 0
      · refine vp_tableIn (off := 124) (tgt := 156) dL_law_32 hr (by omega) (by rw [c0]; rfl) (by decide) ?_
        obtain ⟨v, K, hA, hK⟩ := lc_type hB hM (N := 141) (Nat.le_refl _) (sx_r xs (i + 1))
        refine vp_aload_n dL_law_156 rfl rfl ?_
        refine vp_arg (i := i) (j := 1) dL_law_157 dL_law_158 dL_law_159 dL_law_160 dL_law_161 hz rfl (by omega) hL ?_
        refine vp_cV (As := [am_i (sx xs (i + 1))]) (rest := []) hA dL_law_162 lk_L_13 hy_X9_type rfl (by omega) hB.1 ⟨_, _, rfl⟩ (Nat.le_of_ble_eq_true rfl) ⟨Nat.le_of_ble_eq_true rfl, Nat.le_of_ble_eq_true rfl⟩ ⟨rfl, rfl⟩ hkn (fun r1 N1 μ1 hq1 => ?_)
        obtain ⟨rfl, rfl, hq1⟩ := hq1
        obtain ⟨⟨fs1, h120⟩, K2, hA2, hK2⟩ := hK μ1 hq1
        refine vp_aload_n dL_law_165 rfl rfl ?_
        refine vp_arg (i := i) (j := 1) dL_law_166 dL_law_167 dL_law_168 dL_law_169 dL_law_170 hz rfl (by omega) hL ?_
        refine vp_cV (As := [am_i (sx xs (i + 1))]) (rest := [am_i v]) hA2 dL_law_171 lk_L_17 hy_X10_type rfl (by omega) h120 ⟨_, _, rfl⟩ (Nat.le_of_ble_eq_true rfl) ⟨Nat.le_of_ble_eq_true rfl, Nat.le_of_ble_eq_true rfl⟩ ⟨rfl, rfl⟩ hkn (fun r2 N2 μ2 hq2 => ?_)
        obtain ⟨rfl, rfl, hq2⟩ := hq2
        refine vp_same (tgt := 985) dL_law_174 (by decide) ?_
        exact vp_iinc3 dL_law_985 (vp_goto (tgt := 18) dL_law_988 (by decide) (ih (i + 5) _ μ2 (by omega) (hK2 _ hq2) (by omega) (by omega)))
      by_cases c1 : a = 1
      · refine vp_tableIn (off := 147) (tgt := 179) dL_law_32 hr (by omega) (by rw [c1]; rfl) (by decide) ?_
        obtain ⟨v, K, hA, hK⟩ := lc_clear hB hM (N := 141) (Nat.le_refl _)
        refine vp_aload_n dL_law_179 rfl rfl ?_
        refine vp_cV (As := []) (rest := []) hA dL_law_180 lk_L_18 hy_X9_clear rfl (by omega) hB.1 ⟨_, _, rfl⟩ (Nat.le_of_ble_eq_true rfl) ⟨Nat.le_of_ble_eq_true rfl, Nat.le_of_ble_eq_true rfl⟩ ⟨rfl, rfl⟩ hkn (fun r1 N1 μ1 hq1 => ?_)
        obtain ⟨rfl, rfl, hq1⟩ := hq1
        obtain ⟨⟨fs1, h120⟩, K2, hA2, hK2⟩ := hK μ1 hq1
        refine vp_aload_n dL_law_183 rfl rfl ?_
        refine vp_cV (As := []) (rest := [am_i v]) hA2 dL_law_184 lk_L_22 hy_X10_clear rfl (by omega) h120 ⟨_, _, rfl⟩ (Nat.le_of_ble_eq_true rfl) ⟨Nat.le_of_ble_eq_true rfl, Nat.le_of_ble_eq_true rfl⟩ ⟨rfl, rfl⟩ hkn (fun r2 N2 μ2 hq2 => ?_)
        obtain ⟨rfl, rfl, hq2⟩ := hq2
        refine vp_same (tgt := 985) dL_law_187 (by decide) ?_
        exact vp_iinc3 dL_law_985 (vp_goto (tgt := 18) dL_law_988 (by decide) (ih (i + 5) _ μ2 (by omega) (hK2 _ hq2) (by omega) (by omega)))
      by_cases c2 : a = 2
      · refine vp_tableIn (off := 160) (tgt := 192) dL_law_32 hr (by omega) (by rw [c2]; rfl) (by decide) ?_
        obtain ⟨v, K, hA, hK⟩ := lc_read hB hM (N := 141) (Nat.le_refl _) (sx_r xs (i + 1))
        refine vp_aload_n dL_law_192 rfl rfl ?_
        refine vp_arg (i := i) (j := 1) dL_law_193 dL_law_194 dL_law_195 dL_law_196 dL_law_197 hz rfl (by omega) hL ?_
        refine vp_cV (As := [am_i (sx xs (i + 1))]) (rest := []) hA dL_law_198 lk_L_23 hy_X9_read rfl (by omega) hB.1 ⟨_, _, rfl⟩ (Nat.le_of_ble_eq_true rfl) ⟨Nat.le_of_ble_eq_true rfl, Nat.le_of_ble_eq_true rfl⟩ ⟨rfl, rfl⟩ hkn (fun r1 N1 μ1 hq1 => ?_)
        obtain ⟨rfl, rfl, hq1⟩ := hq1
        obtain ⟨⟨fs1, h120⟩, K2, hA2, hK2⟩ := hK μ1 hq1
        refine vp_aload_n dL_law_201 rfl rfl ?_
        refine vp_arg (i := i) (j := 1) dL_law_202 dL_law_203 dL_law_204 dL_law_205 dL_law_206 hz rfl (by omega) hL ?_
        refine vp_cV (As := [am_i (sx xs (i + 1))]) (rest := [am_i v]) hA2 dL_law_207 lk_L_26 hy_X10_read rfl (by omega) h120 ⟨_, _, rfl⟩ (Nat.le_of_ble_eq_true rfl) ⟨Nat.le_of_ble_eq_true rfl, Nat.le_of_ble_eq_true rfl⟩ ⟨rfl, rfl⟩ hkn (fun r2 N2 μ2 hq2 => ?_)
        obtain ⟨rfl, rfl, hq2⟩ := hq2
        refine vp_same (tgt := 985) dL_law_210 (by decide) ?_
        exact vp_iinc3 dL_law_985 (vp_goto (tgt := 18) dL_law_988 (by decide) (ih (i + 5) _ μ2 (by omega) (hK2 _ hq2) (by omega) (by omega)))
      by_cases c3 : a = 3
      · refine vp_tableIn (off := 183) (tgt := 215) dL_law_32 hr (by omega) (by rw [c3]; rfl) (by decide) ?_
        obtain ⟨v, K, hA, hK⟩ := lc_copy hB hM (N := 141) (Nat.le_refl _) (sx_r xs (i + 1)) (sx_r xs (i + 2))
        refine vp_aload_n dL_law_215 rfl rfl ?_
        refine vp_arg (i := i) (j := 1) dL_law_216 dL_law_217 dL_law_218 dL_law_219 dL_law_220 hz rfl (by omega) hL ?_
        refine vp_arg (i := i) (j := 2) dL_law_221 dL_law_222 dL_law_223 dL_law_224 dL_law_225 hz rfl (by omega) hL ?_
        refine vp_cV (As := [am_i (sx xs (i + 1)), am_i (sx xs (i + 2))]) (rest := []) hA dL_law_226 lk_L_27 hy_X9_copy rfl (by omega) hB.1 ⟨_, _, rfl⟩ (Nat.le_of_ble_eq_true rfl) ⟨Nat.le_of_ble_eq_true rfl, Nat.le_of_ble_eq_true rfl⟩ ⟨rfl, rfl⟩ hkn (fun r1 N1 μ1 hq1 => ?_)
        obtain ⟨rfl, rfl, hq1⟩ := hq1
        obtain ⟨⟨fs1, h120⟩, K2, hA2, hK2⟩ := hK μ1 hq1
        refine vp_aload_n dL_law_229 rfl rfl ?_
        refine vp_arg (i := i) (j := 1) dL_law_230 dL_law_231 dL_law_232 dL_law_233 dL_law_234 hz rfl (by omega) hL ?_
        refine vp_arg (i := i) (j := 2) dL_law_235 dL_law_236 dL_law_237 dL_law_238 dL_law_239 hz rfl (by omega) hL ?_
        refine vp_cV (As := [am_i (sx xs (i + 1)), am_i (sx xs (i + 2))]) (rest := [am_i v]) hA2 dL_law_240 lk_L_31 hy_X10_copy rfl (by omega) h120 ⟨_, _, rfl⟩ (Nat.le_of_ble_eq_true rfl) ⟨Nat.le_of_ble_eq_true rfl, Nat.le_of_ble_eq_true rfl⟩ ⟨rfl, rfl⟩ hkn (fun r2 N2 μ2 hq2 => ?_)
        obtain ⟨rfl, rfl, hq2⟩ := hq2
        refine vp_same (tgt := 985) dL_law_243 (by decide) ?_
        exact vp_iinc3 dL_law_985 (vp_goto (tgt := 18) dL_law_988 (by decide) (ih (i + 5) _ μ2 (by omega) (hK2 _ hq2) (by omega) (by omega)))
      by_cases c4 : a = 4
      · refine vp_tableIn (off := 216) (tgt := 248) dL_law_32 hr (by omega) (by rw [c4]; rfl) (by decide) ?_
        obtain ⟨v, K, hA, hK⟩ := lc_spread hB hM (N := 141) (Nat.le_refl _) (sx_r xs (i + 1)) (sx_r xs (i + 2)) (sx_r xs (i + 3)) (sx_r xs (i + 4))
        refine vp_aload_n dL_law_248 rfl rfl ?_
        refine vp_arg (i := i) (j := 1) dL_law_249 dL_law_250 dL_law_251 dL_law_252 dL_law_253 hz rfl (by omega) hL ?_
        refine vp_arg (i := i) (j := 2) dL_law_254 dL_law_255 dL_law_256 dL_law_257 dL_law_258 hz rfl (by omega) hL ?_
        refine vp_arg (i := i) (j := 3) dL_law_259 dL_law_260 dL_law_261 dL_law_262 dL_law_263 hz rfl (by omega) hL ?_
        refine vp_arg (i := i) (j := 4) dL_law_264 dL_law_265 dL_law_266 dL_law_267 dL_law_268 hz rfl (by omega) hL ?_
        refine vp_cV (As := [am_i (sx xs (i + 1)), am_i (sx xs (i + 2)), am_i (sx xs (i + 3)), am_i (sx xs (i + 4))]) (rest := []) hA dL_law_269 lk_L_32 hy_X9_spread rfl (by omega) hB.1 ⟨_, _, rfl⟩ (Nat.le_of_ble_eq_true rfl) ⟨Nat.le_of_ble_eq_true rfl, Nat.le_of_ble_eq_true rfl⟩ ⟨rfl, rfl⟩ hkn (fun r1 N1 μ1 hq1 => ?_)
        obtain ⟨rfl, rfl, hq1⟩ := hq1
        obtain ⟨⟨fs1, h120⟩, K2, hA2, hK2⟩ := hK μ1 hq1
        refine vp_aload_n dL_law_272 rfl rfl ?_
        refine vp_arg (i := i) (j := 1) dL_law_273 dL_law_274 dL_law_275 dL_law_276 dL_law_277 hz rfl (by omega) hL ?_
        refine vp_arg (i := i) (j := 2) dL_law_278 dL_law_279 dL_law_280 dL_law_281 dL_law_282 hz rfl (by omega) hL ?_
        refine vp_arg (i := i) (j := 3) dL_law_283 dL_law_284 dL_law_285 dL_law_286 dL_law_287 hz rfl (by omega) hL ?_
        refine vp_arg (i := i) (j := 4) dL_law_288 dL_law_289 dL_law_290 dL_law_291 dL_law_292 hz rfl (by omega) hL ?_
        refine vp_cV (As := [am_i (sx xs (i + 1)), am_i (sx xs (i + 2)), am_i (sx xs (i + 3)), am_i (sx xs (i + 4))]) (rest := [am_i v]) hA2 dL_law_293 lk_L_36 hy_X10_spread rfl (by omega) h120 ⟨_, _, rfl⟩ (Nat.le_of_ble_eq_true rfl) ⟨Nat.le_of_ble_eq_true rfl, Nat.le_of_ble_eq_true rfl⟩ ⟨rfl, rfl⟩ hkn (fun r2 N2 μ2 hq2 => ?_)
        obtain ⟨rfl, rfl, hq2⟩ := hq2
        refine vp_same (tgt := 985) dL_law_296 (by decide) ?_
        exact vp_iinc3 dL_law_985 (vp_goto (tgt := 18) dL_law_988 (by decide) (ih (i + 5) _ μ2 (by omega) (hK2 _ hq2) (by omega) (by omega)))
      by_cases c5 : a = 5
      · refine vp_tableIn (off := 269) (tgt := 301) dL_law_32 hr (by omega) (by rw [c5]; rfl) (by decide) ?_
        obtain ⟨v, K, hA, hK⟩ := lc_textOf hB hM (N := 141) (Nat.le_refl _) (sx_r xs (i + 1)) (sx_r xs (i + 2))
        refine vp_aload_n dL_law_301 rfl rfl ?_
        refine vp_arg (i := i) (j := 1) dL_law_302 dL_law_303 dL_law_304 dL_law_305 dL_law_306 hz rfl (by omega) hL ?_
        refine vp_arg (i := i) (j := 2) dL_law_307 dL_law_308 dL_law_309 dL_law_310 dL_law_311 hz rfl (by omega) hL ?_
        refine vp_cV (As := [am_i (sx xs (i + 1)), am_i (sx xs (i + 2))]) (rest := []) hA dL_law_312 lk_L_37 hy_X9_textOf rfl (by omega) hB.1 ⟨_, _, rfl⟩ (Nat.le_of_ble_eq_true rfl) ⟨Nat.le_of_ble_eq_true rfl, Nat.le_of_ble_eq_true rfl⟩ ⟨rfl, rfl⟩ hkn (fun r1 N1 μ1 hq1 => ?_)
        obtain ⟨rfl, rfl, hq1⟩ := hq1
        obtain ⟨⟨fs1, h120⟩, K2, hA2, hK2⟩ := hK μ1 hq1
        refine vp_aload_n dL_law_315 rfl rfl ?_
        refine vp_arg (i := i) (j := 1) dL_law_316 dL_law_317 dL_law_318 dL_law_319 dL_law_320 hz rfl (by omega) hL ?_
        refine vp_arg (i := i) (j := 2) dL_law_321 dL_law_322 dL_law_323 dL_law_324 dL_law_325 hz rfl (by omega) hL ?_
        refine vp_cV (As := [am_i (sx xs (i + 1)), am_i (sx xs (i + 2))]) (rest := [am_i v]) hA2 dL_law_326 lk_L_40 hy_X10_textOf rfl (by omega) h120 ⟨_, _, rfl⟩ (Nat.le_of_ble_eq_true rfl) ⟨Nat.le_of_ble_eq_true rfl, Nat.le_of_ble_eq_true rfl⟩ ⟨rfl, rfl⟩ hkn (fun r2 N2 μ2 hq2 => ?_)
        obtain ⟨rfl, rfl, hq2⟩ := hq2
        refine vp_same (tgt := 985) dL_law_329 (by decide) ?_
        exact vp_iinc3 dL_law_985 (vp_goto (tgt := 18) dL_law_988 (by decide) (ih (i + 5) _ μ2 (by omega) (hK2 _ hq2) (by omega) (by omega)))
      by_cases c6 : a = 6
      · refine vp_tableIn (off := 302) (tgt := 334) dL_law_32 hr (by omega) (by rw [c6]; rfl) (by decide) ?_
        obtain ⟨v, K, hA, hK⟩ := lc_unfolded hB hM (N := 141) (Nat.le_refl _) (sx_r xs (i + 1)) (sx_r xs (i + 2))
        refine vp_aload_n dL_law_334 rfl rfl ?_
        refine vp_arg (i := i) (j := 1) dL_law_335 dL_law_336 dL_law_337 dL_law_338 dL_law_339 hz rfl (by omega) hL ?_
        refine vp_arg (i := i) (j := 2) dL_law_340 dL_law_341 dL_law_342 dL_law_343 dL_law_344 hz rfl (by omega) hL ?_
        refine vp_cV (As := [am_i (sx xs (i + 1)), am_i (sx xs (i + 2))]) (rest := []) hA dL_law_345 lk_L_41 hy_X9_unfolded rfl (by omega) hB.1 ⟨_, _, rfl⟩ (Nat.le_of_ble_eq_true rfl) ⟨Nat.le_of_ble_eq_true rfl, Nat.le_of_ble_eq_true rfl⟩ ⟨rfl, rfl⟩ hkn (fun r1 N1 μ1 hq1 => ?_)
        obtain ⟨rfl, rfl, hq1⟩ := hq1
        obtain ⟨⟨fs1, h120⟩, K2, hA2, hK2⟩ := hK μ1 hq1
        refine vp_aload_n dL_law_348 rfl rfl ?_
        refine vp_arg (i := i) (j := 1) dL_law_349 dL_law_350 dL_law_351 dL_law_352 dL_law_353 hz rfl (by omega) hL ?_
        refine vp_arg (i := i) (j := 2) dL_law_354 dL_law_355 dL_law_356 dL_law_357 dL_law_358 hz rfl (by omega) hL ?_
        refine vp_cV (As := [am_i (sx xs (i + 1)), am_i (sx xs (i + 2))]) (rest := [am_i v]) hA2 dL_law_359 lk_L_44 hy_X10_unfolded rfl (by omega) h120 ⟨_, _, rfl⟩ (Nat.le_of_ble_eq_true rfl) ⟨Nat.le_of_ble_eq_true rfl, Nat.le_of_ble_eq_true rfl⟩ ⟨rfl, rfl⟩ hkn (fun r2 N2 μ2 hq2 => ?_)
        obtain ⟨rfl, rfl, hq2⟩ := hq2
        refine vp_same (tgt := 985) dL_law_362 (by decide) ?_
        exact vp_iinc3 dL_law_985 (vp_goto (tgt := 18) dL_law_988 (by decide) (ih (i + 5) _ μ2 (by omega) (hK2 _ hq2) (by omega) (by omega)))
      by_cases c7 : a = 7
      · refine vp_tableIn (off := 335) (tgt := 367) dL_law_32 hr (by omega) (by rw [c7]; rfl) (by decide) ?_
        obtain ⟨v, K, hA, hK⟩ := lc_setMeter hB hM (N := 141) (Nat.le_refl _) (sx_r xs (i + 1)) (sx_r xs (i + 2))
        refine vp_aload_n dL_law_367 rfl rfl ?_
        refine vp_arg (i := i) (j := 1) dL_law_368 dL_law_369 dL_law_370 dL_law_371 dL_law_372 hz rfl (by omega) hL ?_
        refine vp_arg (i := i) (j := 2) dL_law_373 dL_law_374 dL_law_375 dL_law_376 dL_law_377 hz rfl (by omega) hL ?_
        refine vp_cV (As := [am_i (sx xs (i + 1)), am_i (sx xs (i + 2))]) (rest := []) hA dL_law_378 lk_L_45 hy_X9_setMeter rfl (by omega) hB.1 ⟨_, _, rfl⟩ (Nat.le_of_ble_eq_true rfl) ⟨Nat.le_of_ble_eq_true rfl, Nat.le_of_ble_eq_true rfl⟩ ⟨rfl, rfl⟩ hkn (fun r1 N1 μ1 hq1 => ?_)
        obtain ⟨rfl, rfl, hq1⟩ := hq1
        obtain ⟨⟨fs1, h120⟩, K2, hA2, hK2⟩ := hK μ1 hq1
        refine vp_aload_n dL_law_381 rfl rfl ?_
        refine vp_arg (i := i) (j := 1) dL_law_382 dL_law_383 dL_law_384 dL_law_385 dL_law_386 hz rfl (by omega) hL ?_
        refine vp_arg (i := i) (j := 2) dL_law_387 dL_law_388 dL_law_389 dL_law_390 dL_law_391 hz rfl (by omega) hL ?_
        refine vp_cV (As := [am_i (sx xs (i + 1)), am_i (sx xs (i + 2))]) (rest := [am_i v]) hA2 dL_law_392 lk_L_48 hy_X10_setMeter rfl (by omega) h120 ⟨_, _, rfl⟩ (Nat.le_of_ble_eq_true rfl) ⟨Nat.le_of_ble_eq_true rfl, Nat.le_of_ble_eq_true rfl⟩ ⟨rfl, rfl⟩ hkn (fun r2 N2 μ2 hq2 => ?_)
        obtain ⟨rfl, rfl, hq2⟩ := hq2
        refine vp_same (tgt := 985) dL_law_395 (by decide) ?_
        exact vp_iinc3 dL_law_985 (vp_goto (tgt := 18) dL_law_988 (by decide) (ih (i + 5) _ μ2 (by omega) (hK2 _ hq2) (by omega) (by omega)))
      by_cases c8 : a = 8
      · refine vp_tableIn (off := 368) (tgt := 400) dL_law_32 hr (by omega) (by rw [c8]; rfl) (by decide) ?_
        obtain ⟨v, K, hA, hK⟩ := lc_setSwing hB hM (N := 141) (Nat.le_refl _) (sx_r xs (i + 1)) (sx_r xs (i + 2))
        refine vp_aload_n dL_law_400 rfl rfl ?_
        refine vp_arg (i := i) (j := 1) dL_law_401 dL_law_402 dL_law_403 dL_law_404 dL_law_405 hz rfl (by omega) hL ?_
        refine vp_arg (i := i) (j := 2) dL_law_406 dL_law_407 dL_law_408 dL_law_409 dL_law_410 hz rfl (by omega) hL ?_
        refine vp_cV (As := [am_i (sx xs (i + 1)), am_i (sx xs (i + 2))]) (rest := []) hA dL_law_411 lk_L_49 hy_X9_setSwing rfl (by omega) hB.1 ⟨_, _, rfl⟩ (Nat.le_of_ble_eq_true rfl) ⟨Nat.le_of_ble_eq_true rfl, Nat.le_of_ble_eq_true rfl⟩ ⟨rfl, rfl⟩ hkn (fun r1 N1 μ1 hq1 => ?_)
        obtain ⟨rfl, rfl, hq1⟩ := hq1
        obtain ⟨⟨fs1, h120⟩, K2, hA2, hK2⟩ := hK μ1 hq1
        refine vp_aload_n dL_law_414 rfl rfl ?_
        refine vp_arg (i := i) (j := 1) dL_law_415 dL_law_416 dL_law_417 dL_law_418 dL_law_419 hz rfl (by omega) hL ?_
        refine vp_arg (i := i) (j := 2) dL_law_420 dL_law_421 dL_law_422 dL_law_423 dL_law_424 hz rfl (by omega) hL ?_
        refine vp_cV (As := [am_i (sx xs (i + 1)), am_i (sx xs (i + 2))]) (rest := [am_i v]) hA2 dL_law_425 lk_L_52 hy_X10_setSwing rfl (by omega) h120 ⟨_, _, rfl⟩ (Nat.le_of_ble_eq_true rfl) ⟨Nat.le_of_ble_eq_true rfl, Nat.le_of_ble_eq_true rfl⟩ ⟨rfl, rfl⟩ hkn (fun r2 N2 μ2 hq2 => ?_)
        obtain ⟨rfl, rfl, hq2⟩ := hq2
        refine vp_same (tgt := 985) dL_law_428 (by decide) ?_
        exact vp_iinc3 dL_law_985 (vp_goto (tgt := 18) dL_law_988 (by decide) (ih (i + 5) _ μ2 (by omega) (hK2 _ hq2) (by omega) (by omega)))
      by_cases c9 : a = 9
      · refine vp_tableIn (off := 401) (tgt := 433) dL_law_32 hr (by omega) (by rw [c9]; rfl) (by decide) ?_
        obtain ⟨v, K, hA, hK⟩ := lc_events hB hM (N := 141) (Nat.le_refl _) (sx_r xs (i + 1))
        refine vp_aload_n dL_law_433 rfl rfl ?_
        refine vp_arg (i := i) (j := 1) dL_law_434 dL_law_435 dL_law_436 dL_law_437 dL_law_438 hz rfl (by omega) hL ?_
        refine vp_cV (As := [am_i (sx xs (i + 1))]) (rest := []) hA dL_law_439 lk_L_53 hy_X9_events rfl (by omega) hB.1 ⟨_, _, rfl⟩ (Nat.le_of_ble_eq_true rfl) ⟨Nat.le_of_ble_eq_true rfl, Nat.le_of_ble_eq_true rfl⟩ ⟨rfl, rfl⟩ hkn (fun r1 N1 μ1 hq1 => ?_)
        obtain ⟨rfl, rfl, hq1⟩ := hq1
        obtain ⟨⟨fs1, h120⟩, K2, hA2, hK2⟩ := hK μ1 hq1
        refine vp_aload_n dL_law_442 rfl rfl ?_
        refine vp_arg (i := i) (j := 1) dL_law_443 dL_law_444 dL_law_445 dL_law_446 dL_law_447 hz rfl (by omega) hL ?_
        refine vp_cV (As := [am_i (sx xs (i + 1))]) (rest := [am_i v]) hA2 dL_law_448 lk_L_56 hy_X10_events rfl (by omega) h120 ⟨_, _, rfl⟩ (Nat.le_of_ble_eq_true rfl) ⟨Nat.le_of_ble_eq_true rfl, Nat.le_of_ble_eq_true rfl⟩ ⟨rfl, rfl⟩ hkn (fun r2 N2 μ2 hq2 => ?_)
        obtain ⟨rfl, rfl, hq2⟩ := hq2
        refine vp_same (tgt := 985) dL_law_451 (by decide) ?_
        exact vp_iinc3 dL_law_985 (vp_goto (tgt := 18) dL_law_988 (by decide) (ih (i + 5) _ μ2 (by omega) (hK2 _ hq2) (by omega) (by omega)))
      by_cases c10 : a = 10
      · refine vp_tableIn (off := 424) (tgt := 456) dL_law_32 hr (by omega) (by rw [c10]; rfl) (by decide) ?_
        obtain ⟨v, K, hA, hK⟩ := lc_length hB hM (N := 141) (Nat.le_refl _) (sx_r xs (i + 1)) (sx_r xs (i + 2))
        refine vp_aload_n dL_law_456 rfl rfl ?_
        refine vp_arg (i := i) (j := 1) dL_law_457 dL_law_458 dL_law_459 dL_law_460 dL_law_461 hz rfl (by omega) hL ?_
        refine vp_arg (i := i) (j := 2) dL_law_462 dL_law_463 dL_law_464 dL_law_465 dL_law_466 hz rfl (by omega) hL ?_
        refine vp_cV (As := [am_i (sx xs (i + 1)), am_i (sx xs (i + 2))]) (rest := []) hA dL_law_467 lk_L_57 hy_X9_length rfl (by omega) hB.1 ⟨_, _, rfl⟩ (Nat.le_of_ble_eq_true rfl) ⟨Nat.le_of_ble_eq_true rfl, Nat.le_of_ble_eq_true rfl⟩ ⟨rfl, rfl⟩ hkn (fun r1 N1 μ1 hq1 => ?_)
        obtain ⟨rfl, rfl, hq1⟩ := hq1
        obtain ⟨⟨fs1, h120⟩, K2, hA2, hK2⟩ := hK μ1 hq1
        refine vp_aload_n dL_law_470 rfl rfl ?_
        refine vp_arg (i := i) (j := 1) dL_law_471 dL_law_472 dL_law_473 dL_law_474 dL_law_475 hz rfl (by omega) hL ?_
        refine vp_arg (i := i) (j := 2) dL_law_476 dL_law_477 dL_law_478 dL_law_479 dL_law_480 hz rfl (by omega) hL ?_
        refine vp_cV (As := [am_i (sx xs (i + 1)), am_i (sx xs (i + 2))]) (rest := [am_l v]) hA2 dL_law_481 lk_L_61 hy_X10_length rfl (by omega) h120 ⟨_, _, rfl⟩ (Nat.le_of_ble_eq_true rfl) ⟨Nat.le_of_ble_eq_true rfl, Nat.le_of_ble_eq_true rfl⟩ ⟨rfl, rfl⟩ hkn (fun r2 N2 μ2 hq2 => ?_)
        obtain ⟨rfl, rfl, hq2⟩ := hq2
        refine vp_sameL (tgt := 985) dL_law_484 dL_law_485 (by decide) ?_
        exact vp_iinc3 dL_law_985 (vp_goto (tgt := 18) dL_law_988 (by decide) (ih (i + 5) _ μ2 (by omega) (hK2 _ hq2) (by omega) (by omega)))
      by_cases c11 : a = 11
      · refine vp_tableIn (off := 458) (tgt := 490) dL_law_32 hr (by omega) (by rw [c11]; rfl) (by decide) ?_
        obtain ⟨v, K, hA, hK⟩ := lc_onset hB hM (N := 141) (Nat.le_refl _) (sx_r xs (i + 1)) (sx_r xs (i + 2)) (sx_r xs (i + 3))
        refine vp_aload_n dL_law_490 rfl rfl ?_
        refine vp_arg (i := i) (j := 1) dL_law_491 dL_law_492 dL_law_493 dL_law_494 dL_law_495 hz rfl (by omega) hL ?_
        refine vp_arg (i := i) (j := 2) dL_law_496 dL_law_497 dL_law_498 dL_law_499 dL_law_500 hz rfl (by omega) hL ?_
        refine vp_arg (i := i) (j := 3) dL_law_501 dL_law_502 dL_law_503 dL_law_504 dL_law_505 hz rfl (by omega) hL ?_
        refine vp_cV (As := [am_i (sx xs (i + 1)), am_i (sx xs (i + 2)), am_i (sx xs (i + 3))]) (rest := []) hA dL_law_506 lk_L_62 hy_X9_onset rfl (by omega) hB.1 ⟨_, _, rfl⟩ (Nat.le_of_ble_eq_true rfl) ⟨Nat.le_of_ble_eq_true rfl, Nat.le_of_ble_eq_true rfl⟩ ⟨rfl, rfl⟩ hkn (fun r1 N1 μ1 hq1 => ?_)
        obtain ⟨rfl, rfl, hq1⟩ := hq1
        obtain ⟨⟨fs1, h120⟩, K2, hA2, hK2⟩ := hK μ1 hq1
        refine vp_aload_n dL_law_509 rfl rfl ?_
        refine vp_arg (i := i) (j := 1) dL_law_510 dL_law_511 dL_law_512 dL_law_513 dL_law_514 hz rfl (by omega) hL ?_
        refine vp_arg (i := i) (j := 2) dL_law_515 dL_law_516 dL_law_517 dL_law_518 dL_law_519 hz rfl (by omega) hL ?_
        refine vp_arg (i := i) (j := 3) dL_law_520 dL_law_521 dL_law_522 dL_law_523 dL_law_524 hz rfl (by omega) hL ?_
        refine vp_cV (As := [am_i (sx xs (i + 1)), am_i (sx xs (i + 2)), am_i (sx xs (i + 3))]) (rest := [am_l v]) hA2 dL_law_525 lk_L_66 hy_X10_onset rfl (by omega) h120 ⟨_, _, rfl⟩ (Nat.le_of_ble_eq_true rfl) ⟨Nat.le_of_ble_eq_true rfl, Nat.le_of_ble_eq_true rfl⟩ ⟨rfl, rfl⟩ hkn (fun r2 N2 μ2 hq2 => ?_)
        obtain ⟨rfl, rfl, hq2⟩ := hq2
        refine vp_sameL (tgt := 985) dL_law_528 dL_law_529 (by decide) ?_
        exact vp_iinc3 dL_law_985 (vp_goto (tgt := 18) dL_law_988 (by decide) (ih (i + 5) _ μ2 (by omega) (hK2 _ hq2) (by omega) (by omega)))
      by_cases c12 : a = 12
      · refine vp_tableIn (off := 502) (tgt := 534) dL_law_32 hr (by omega) (by rw [c12]; rfl) (by decide) ?_
        obtain ⟨v, K, hA, hK⟩ := lc_lasts hB hM (N := 141) (Nat.le_refl _) (sx_r xs (i + 1)) (sx_r xs (i + 2)) (sx_r xs (i + 3))
        refine vp_aload_n dL_law_534 rfl rfl ?_
        refine vp_arg (i := i) (j := 1) dL_law_535 dL_law_536 dL_law_537 dL_law_538 dL_law_539 hz rfl (by omega) hL ?_
        refine vp_arg (i := i) (j := 2) dL_law_540 dL_law_541 dL_law_542 dL_law_543 dL_law_544 hz rfl (by omega) hL ?_
        refine vp_arg (i := i) (j := 3) dL_law_545 dL_law_546 dL_law_547 dL_law_548 dL_law_549 hz rfl (by omega) hL ?_
        refine vp_cV (As := [am_i (sx xs (i + 1)), am_i (sx xs (i + 2)), am_i (sx xs (i + 3))]) (rest := []) hA dL_law_550 lk_L_67 hy_X9_lasts rfl (by omega) hB.1 ⟨_, _, rfl⟩ (Nat.le_of_ble_eq_true rfl) ⟨Nat.le_of_ble_eq_true rfl, Nat.le_of_ble_eq_true rfl⟩ ⟨rfl, rfl⟩ hkn (fun r1 N1 μ1 hq1 => ?_)
        obtain ⟨rfl, rfl, hq1⟩ := hq1
        obtain ⟨⟨fs1, h120⟩, K2, hA2, hK2⟩ := hK μ1 hq1
        refine vp_aload_n dL_law_553 rfl rfl ?_
        refine vp_arg (i := i) (j := 1) dL_law_554 dL_law_555 dL_law_556 dL_law_557 dL_law_558 hz rfl (by omega) hL ?_
        refine vp_arg (i := i) (j := 2) dL_law_559 dL_law_560 dL_law_561 dL_law_562 dL_law_563 hz rfl (by omega) hL ?_
        refine vp_arg (i := i) (j := 3) dL_law_564 dL_law_565 dL_law_566 dL_law_567 dL_law_568 hz rfl (by omega) hL ?_
        refine vp_cV (As := [am_i (sx xs (i + 1)), am_i (sx xs (i + 2)), am_i (sx xs (i + 3))]) (rest := [am_l v]) hA2 dL_law_569 lk_L_70 hy_X10_lasts rfl (by omega) h120 ⟨_, _, rfl⟩ (Nat.le_of_ble_eq_true rfl) ⟨Nat.le_of_ble_eq_true rfl, Nat.le_of_ble_eq_true rfl⟩ ⟨rfl, rfl⟩ hkn (fun r2 N2 μ2 hq2 => ?_)
        obtain ⟨rfl, rfl, hq2⟩ := hq2
        refine vp_sameL (tgt := 985) dL_law_572 dL_law_573 (by decide) ?_
        exact vp_iinc3 dL_law_985 (vp_goto (tgt := 18) dL_law_988 (by decide) (ih (i + 5) _ μ2 (by omega) (hK2 _ hq2) (by omega) (by omega)))
      by_cases c13 : a = 13
      · refine vp_tableIn (off := 546) (tgt := 578) dL_law_32 hr (by omega) (by rw [c13]; rfl) (by decide) ?_
        obtain ⟨v, K, hA, hK⟩ := lc_swung hB hM (N := 141) (Nat.le_refl _) (sx_r xs (i + 1)) (sx_r xs (i + 2)) (sx_r xs (i + 3))
        refine vp_aload_n dL_law_578 rfl rfl ?_
        refine vp_arg (i := i) (j := 1) dL_law_579 dL_law_580 dL_law_581 dL_law_582 dL_law_583 hz rfl (by omega) hL ?_
        refine vp_arg (i := i) (j := 2) dL_law_584 dL_law_585 dL_law_586 dL_law_587 dL_law_588 hz rfl (by omega) hL ?_
        refine vp_arg (i := i) (j := 3) dL_law_589 dL_law_590 dL_law_591 dL_law_592 dL_law_593 hz rfl (by omega) hL ?_
        refine vp_cV (As := [am_i (sx xs (i + 1)), am_i (sx xs (i + 2)), am_i (sx xs (i + 3))]) (rest := []) hA dL_law_594 lk_L_71 hy_X9_swung rfl (by omega) hB.1 ⟨_, _, rfl⟩ (Nat.le_of_ble_eq_true rfl) ⟨Nat.le_of_ble_eq_true rfl, Nat.le_of_ble_eq_true rfl⟩ ⟨rfl, rfl⟩ hkn (fun r1 N1 μ1 hq1 => ?_)
        obtain ⟨rfl, rfl, hq1⟩ := hq1
        obtain ⟨⟨fs1, h120⟩, K2, hA2, hK2⟩ := hK μ1 hq1
        refine vp_aload_n dL_law_597 rfl rfl ?_
        refine vp_arg (i := i) (j := 1) dL_law_598 dL_law_599 dL_law_600 dL_law_601 dL_law_602 hz rfl (by omega) hL ?_
        refine vp_arg (i := i) (j := 2) dL_law_603 dL_law_604 dL_law_605 dL_law_606 dL_law_607 hz rfl (by omega) hL ?_
        refine vp_arg (i := i) (j := 3) dL_law_608 dL_law_609 dL_law_610 dL_law_611 dL_law_612 hz rfl (by omega) hL ?_
        refine vp_cV (As := [am_i (sx xs (i + 1)), am_i (sx xs (i + 2)), am_i (sx xs (i + 3))]) (rest := [am_l v]) hA2 dL_law_613 lk_L_74 hy_X10_swung rfl (by omega) h120 ⟨_, _, rfl⟩ (Nat.le_of_ble_eq_true rfl) ⟨Nat.le_of_ble_eq_true rfl, Nat.le_of_ble_eq_true rfl⟩ ⟨rfl, rfl⟩ hkn (fun r2 N2 μ2 hq2 => ?_)
        obtain ⟨rfl, rfl, hq2⟩ := hq2
        refine vp_sameL (tgt := 985) dL_law_616 dL_law_617 (by decide) ?_
        exact vp_iinc3 dL_law_985 (vp_goto (tgt := 18) dL_law_988 (by decide) (ih (i + 5) _ μ2 (by omega) (hK2 _ hq2) (by omega) (by omega)))
      by_cases c14 : a = 14
      · refine vp_tableIn (off := 590) (tgt := 622) dL_law_32 hr (by omega) (by rw [c14]; rfl) (by decide) ?_
        obtain ⟨v, K, hA, hK⟩ := lc_event hB hM (N := 141) (Nat.le_refl _) (sx_r xs (i + 1)) (sx_r xs (i + 2)) (sx_r xs (i + 3))
        refine vp_aload_n dL_law_622 rfl rfl ?_
        refine vp_arg (i := i) (j := 1) dL_law_623 dL_law_624 dL_law_625 dL_law_626 dL_law_627 hz rfl (by omega) hL ?_
        refine vp_arg (i := i) (j := 2) dL_law_628 dL_law_629 dL_law_630 dL_law_631 dL_law_632 hz rfl (by omega) hL ?_
        refine vp_arg (i := i) (j := 3) dL_law_633 dL_law_634 dL_law_635 dL_law_636 dL_law_637 hz rfl (by omega) hL ?_
        refine vp_cV (As := [am_i (sx xs (i + 1)), am_i (sx xs (i + 2)), am_i (sx xs (i + 3))]) (rest := []) hA dL_law_638 lk_L_75 hy_X9_event rfl (by omega) hB.1 ⟨_, _, rfl⟩ (Nat.le_of_ble_eq_true rfl) ⟨Nat.le_of_ble_eq_true rfl, Nat.le_of_ble_eq_true rfl⟩ ⟨rfl, rfl⟩ hkn (fun r1 N1 μ1 hq1 => ?_)
        obtain ⟨rfl, rfl, hq1⟩ := hq1
        obtain ⟨⟨fs1, h120⟩, K2, hA2, hK2⟩ := hK μ1 hq1
        refine vp_aload_n dL_law_641 rfl rfl ?_
        refine vp_arg (i := i) (j := 1) dL_law_642 dL_law_643 dL_law_644 dL_law_645 dL_law_646 hz rfl (by omega) hL ?_
        refine vp_arg (i := i) (j := 2) dL_law_647 dL_law_648 dL_law_649 dL_law_650 dL_law_651 hz rfl (by omega) hL ?_
        refine vp_arg (i := i) (j := 3) dL_law_652 dL_law_653 dL_law_654 dL_law_655 dL_law_656 hz rfl (by omega) hL ?_
        refine vp_cV (As := [am_i (sx xs (i + 1)), am_i (sx xs (i + 2)), am_i (sx xs (i + 3))]) (rest := [am_i v]) hA2 dL_law_657 lk_L_79 hy_X10_event rfl (by omega) h120 ⟨_, _, rfl⟩ (Nat.le_of_ble_eq_true rfl) ⟨Nat.le_of_ble_eq_true rfl, Nat.le_of_ble_eq_true rfl⟩ ⟨rfl, rfl⟩ hkn (fun r2 N2 μ2 hq2 => ?_)
        obtain ⟨rfl, rfl, hq2⟩ := hq2
        refine vp_same (tgt := 985) dL_law_660 (by decide) ?_
        exact vp_iinc3 dL_law_985 (vp_goto (tgt := 18) dL_law_988 (by decide) (ih (i + 5) _ μ2 (by omega) (hK2 _ hq2) (by omega) (by omega)))
      by_cases c15 : a = 15
      · refine vp_tableIn (off := 633) (tgt := 665) dL_law_32 hr (by omega) (by rw [c15]; rfl) (by decide) ?_
        obtain ⟨v, K, hA, hK⟩ := lc_bars hB hM (N := 141) (Nat.le_refl _) (sx_r xs (i + 1))
        refine vp_aload_n dL_law_665 rfl rfl ?_
        refine vp_arg (i := i) (j := 1) dL_law_666 dL_law_667 dL_law_668 dL_law_669 dL_law_670 hz rfl (by omega) hL ?_
        refine vp_cV (As := [am_i (sx xs (i + 1))]) (rest := []) hA dL_law_671 lk_L_80 hy_X9_bars rfl (by omega) hB.1 ⟨_, _, rfl⟩ (Nat.le_of_ble_eq_true rfl) ⟨Nat.le_of_ble_eq_true rfl, Nat.le_of_ble_eq_true rfl⟩ ⟨rfl, rfl⟩ hkn (fun r1 N1 μ1 hq1 => ?_)
        obtain ⟨rfl, rfl, hq1⟩ := hq1
        obtain ⟨⟨fs1, h120⟩, K2, hA2, hK2⟩ := hK μ1 hq1
        refine vp_aload_n dL_law_674 rfl rfl ?_
        refine vp_arg (i := i) (j := 1) dL_law_675 dL_law_676 dL_law_677 dL_law_678 dL_law_679 hz rfl (by omega) hL ?_
        refine vp_cV (As := [am_i (sx xs (i + 1))]) (rest := [am_i v]) hA2 dL_law_680 lk_L_83 hy_X10_bars rfl (by omega) h120 ⟨_, _, rfl⟩ (Nat.le_of_ble_eq_true rfl) ⟨Nat.le_of_ble_eq_true rfl, Nat.le_of_ble_eq_true rfl⟩ ⟨rfl, rfl⟩ hkn (fun r2 N2 μ2 hq2 => ?_)
        obtain ⟨rfl, rfl, hq2⟩ := hq2
        refine vp_same (tgt := 985) dL_law_683 (by decide) ?_
        exact vp_iinc3 dL_law_985 (vp_goto (tgt := 18) dL_law_988 (by decide) (ih (i + 5) _ μ2 (by omega) (hK2 _ hq2) (by omega) (by omega)))
      by_cases c16 : a = 16
      · refine vp_tableIn (off := 656) (tgt := 688) dL_law_32 hr (by omega) (by rw [c16]; rfl) (by decide) ?_
        obtain ⟨v, K, hA, hK⟩ := lc_bar hB hM (N := 141) (Nat.le_refl _) (sx_r xs (i + 1)) (sx_r xs (i + 2)) (sx_r xs (i + 3))
        refine vp_aload_n dL_law_688 rfl rfl ?_
        refine vp_arg (i := i) (j := 1) dL_law_689 dL_law_690 dL_law_691 dL_law_692 dL_law_693 hz rfl (by omega) hL ?_
        refine vp_arg (i := i) (j := 2) dL_law_694 dL_law_695 dL_law_696 dL_law_697 dL_law_698 hz rfl (by omega) hL ?_
        refine vp_arg (i := i) (j := 3) dL_law_699 dL_law_700 dL_law_701 dL_law_702 dL_law_703 hz rfl (by omega) hL ?_
        refine vp_cV (As := [am_i (sx xs (i + 1)), am_i (sx xs (i + 2)), am_i (sx xs (i + 3))]) (rest := []) hA dL_law_704 lk_L_84 hy_X9_bar rfl (by omega) hB.1 ⟨_, _, rfl⟩ (Nat.le_of_ble_eq_true rfl) ⟨Nat.le_of_ble_eq_true rfl, Nat.le_of_ble_eq_true rfl⟩ ⟨rfl, rfl⟩ hkn (fun r1 N1 μ1 hq1 => ?_)
        obtain ⟨rfl, rfl, hq1⟩ := hq1
        obtain ⟨⟨fs1, h120⟩, K2, hA2, hK2⟩ := hK μ1 hq1
        refine vp_aload_n dL_law_707 rfl rfl ?_
        refine vp_arg (i := i) (j := 1) dL_law_708 dL_law_709 dL_law_710 dL_law_711 dL_law_712 hz rfl (by omega) hL ?_
        refine vp_arg (i := i) (j := 2) dL_law_713 dL_law_714 dL_law_715 dL_law_716 dL_law_717 hz rfl (by omega) hL ?_
        refine vp_arg (i := i) (j := 3) dL_law_718 dL_law_719 dL_law_720 dL_law_721 dL_law_722 hz rfl (by omega) hL ?_
        refine vp_cV (As := [am_i (sx xs (i + 1)), am_i (sx xs (i + 2)), am_i (sx xs (i + 3))]) (rest := [am_l v]) hA2 dL_law_723 lk_L_87 hy_X10_bar rfl (by omega) h120 ⟨_, _, rfl⟩ (Nat.le_of_ble_eq_true rfl) ⟨Nat.le_of_ble_eq_true rfl, Nat.le_of_ble_eq_true rfl⟩ ⟨rfl, rfl⟩ hkn (fun r2 N2 μ2 hq2 => ?_)
        obtain ⟨rfl, rfl, hq2⟩ := hq2
        refine vp_sameL (tgt := 985) dL_law_726 dL_law_727 (by decide) ?_
        exact vp_iinc3 dL_law_985 (vp_goto (tgt := 18) dL_law_988 (by decide) (ih (i + 5) _ μ2 (by omega) (hK2 _ hq2) (by omega) (by omega)))
      by_cases c17 : a = 17
      · refine vp_tableIn (off := 700) (tgt := 732) dL_law_32 hr (by omega) (by rw [c17]; rfl) (by decide) ?_
        obtain ⟨v, K, hA, hK⟩ := lc_wrongBar hB hM (N := 141) (Nat.le_refl _) (sx_r xs (i + 1))
        refine vp_aload_n dL_law_732 rfl rfl ?_
        refine vp_arg (i := i) (j := 1) dL_law_733 dL_law_734 dL_law_735 dL_law_736 dL_law_737 hz rfl (by omega) hL ?_
        refine vp_cV (As := [am_i (sx xs (i + 1))]) (rest := []) hA dL_law_738 lk_L_88 hy_X9_wrongBar rfl (by omega) hB.1 ⟨_, _, rfl⟩ (Nat.le_of_ble_eq_true rfl) ⟨Nat.le_of_ble_eq_true rfl, Nat.le_of_ble_eq_true rfl⟩ ⟨rfl, rfl⟩ hkn (fun r1 N1 μ1 hq1 => ?_)
        obtain ⟨rfl, rfl, hq1⟩ := hq1
        obtain ⟨⟨fs1, h120⟩, K2, hA2, hK2⟩ := hK μ1 hq1
        refine vp_aload_n dL_law_741 rfl rfl ?_
        refine vp_arg (i := i) (j := 1) dL_law_742 dL_law_743 dL_law_744 dL_law_745 dL_law_746 hz rfl (by omega) hL ?_
        refine vp_cV (As := [am_i (sx xs (i + 1))]) (rest := [am_i v]) hA2 dL_law_747 lk_L_91 hy_X10_wrongBar rfl (by omega) h120 ⟨_, _, rfl⟩ (Nat.le_of_ble_eq_true rfl) ⟨Nat.le_of_ble_eq_true rfl, Nat.le_of_ble_eq_true rfl⟩ ⟨rfl, rfl⟩ hkn (fun r2 N2 μ2 hq2 => ?_)
        obtain ⟨rfl, rfl, hq2⟩ := hq2
        refine vp_same (tgt := 985) dL_law_750 (by decide) ?_
        exact vp_iinc3 dL_law_985 (vp_goto (tgt := 18) dL_law_988 (by decide) (ih (i + 5) _ μ2 (by omega) (hK2 _ hq2) (by omega) (by omega)))
      by_cases c18 : a = 18
      · refine vp_tableIn (off := 723) (tgt := 755) dL_law_32 hr (by omega) (by rw [c18]; rfl) (by decide) ?_
        obtain ⟨v, K, hA, hK⟩ := lc_syncopation hB hM (N := 141) (Nat.le_refl _) (sx_r xs (i + 1))
        refine vp_aload_n dL_law_755 rfl rfl ?_
        refine vp_arg (i := i) (j := 1) dL_law_756 dL_law_757 dL_law_758 dL_law_759 dL_law_760 hz rfl (by omega) hL ?_
        refine vp_cV (As := [am_i (sx xs (i + 1))]) (rest := []) hA dL_law_761 lk_L_92 hy_X9_syncopation rfl (by omega) hB.1 ⟨_, _, rfl⟩ (Nat.le_of_ble_eq_true rfl) ⟨Nat.le_of_ble_eq_true rfl, Nat.le_of_ble_eq_true rfl⟩ ⟨rfl, rfl⟩ hkn (fun r1 N1 μ1 hq1 => ?_)
        obtain ⟨rfl, rfl, hq1⟩ := hq1
        obtain ⟨⟨fs1, h120⟩, K2, hA2, hK2⟩ := hK μ1 hq1
        refine vp_aload_n dL_law_764 rfl rfl ?_
        refine vp_arg (i := i) (j := 1) dL_law_765 dL_law_766 dL_law_767 dL_law_768 dL_law_769 hz rfl (by omega) hL ?_
        refine vp_cV (As := [am_i (sx xs (i + 1))]) (rest := [am_i v]) hA2 dL_law_770 lk_L_95 hy_X10_syncopation rfl (by omega) h120 ⟨_, _, rfl⟩ (Nat.le_of_ble_eq_true rfl) ⟨Nat.le_of_ble_eq_true rfl, Nat.le_of_ble_eq_true rfl⟩ ⟨rfl, rfl⟩ hkn (fun r2 N2 μ2 hq2 => ?_)
        obtain ⟨rfl, rfl, hq2⟩ := hq2
        refine vp_same (tgt := 985) dL_law_773 (by decide) ?_
        exact vp_iinc3 dL_law_985 (vp_goto (tgt := 18) dL_law_988 (by decide) (ih (i + 5) _ μ2 (by omega) (hK2 _ hq2) (by omega) (by omega)))
      by_cases c19 : a = 19
      · refine vp_tableIn (off := 746) (tgt := 778) dL_law_32 hr (by omega) (by rw [c19]; rfl) (by decide) ?_
        obtain ⟨v, K, hA, hK⟩ := lc_offGrid hB hM (N := 141) (Nat.le_refl _) (sx_r xs (i + 1)) (sx_r xs (i + 2))
        refine vp_aload_n dL_law_778 rfl rfl ?_
        refine vp_arg (i := i) (j := 1) dL_law_779 dL_law_780 dL_law_781 dL_law_782 dL_law_783 hz rfl (by omega) hL ?_
        refine vp_arg (i := i) (j := 2) dL_law_784 dL_law_785 dL_law_786 dL_law_787 dL_law_788 hz rfl (by omega) hL ?_
        refine vp_cV (As := [am_i (sx xs (i + 1)), am_i (sx xs (i + 2))]) (rest := []) hA dL_law_789 lk_L_96 hy_X9_offGrid rfl (by omega) hB.1 ⟨_, _, rfl⟩ (Nat.le_of_ble_eq_true rfl) ⟨Nat.le_of_ble_eq_true rfl, Nat.le_of_ble_eq_true rfl⟩ ⟨rfl, rfl⟩ hkn (fun r1 N1 μ1 hq1 => ?_)
        obtain ⟨rfl, rfl, hq1⟩ := hq1
        obtain ⟨⟨fs1, h120⟩, K2, hA2, hK2⟩ := hK μ1 hq1
        refine vp_aload_n dL_law_792 rfl rfl ?_
        refine vp_arg (i := i) (j := 1) dL_law_793 dL_law_794 dL_law_795 dL_law_796 dL_law_797 hz rfl (by omega) hL ?_
        refine vp_arg (i := i) (j := 2) dL_law_798 dL_law_799 dL_law_800 dL_law_801 dL_law_802 hz rfl (by omega) hL ?_
        refine vp_cV (As := [am_i (sx xs (i + 1)), am_i (sx xs (i + 2))]) (rest := [am_i v]) hA2 dL_law_803 lk_L_99 hy_X10_offGrid rfl (by omega) h120 ⟨_, _, rfl⟩ (Nat.le_of_ble_eq_true rfl) ⟨Nat.le_of_ble_eq_true rfl, Nat.le_of_ble_eq_true rfl⟩ ⟨rfl, rfl⟩ hkn (fun r2 N2 μ2 hq2 => ?_)
        obtain ⟨rfl, rfl, hq2⟩ := hq2
        refine vp_same (tgt := 985) dL_law_806 (by decide) ?_
        exact vp_iinc3 dL_law_985 (vp_goto (tgt := 18) dL_law_988 (by decide) (ih (i + 5) _ μ2 (by omega) (hK2 _ hq2) (by omega) (by omega)))
      by_cases c20 : a = 20
      · refine vp_tableIn (off := 779) (tgt := 811) dL_law_32 hr (by omega) (by rw [c20]; rfl) (by decide) ?_
        obtain ⟨v, K, hA, hK⟩ := lc_leastGrid hB hM (N := 141) (Nat.le_refl _) (sx_r xs (i + 1))
        refine vp_aload_n dL_law_811 rfl rfl ?_
        refine vp_arg (i := i) (j := 1) dL_law_812 dL_law_813 dL_law_814 dL_law_815 dL_law_816 hz rfl (by omega) hL ?_
        refine vp_cV (As := [am_i (sx xs (i + 1))]) (rest := []) hA dL_law_817 lk_L_100 hy_X9_leastGrid rfl (by omega) hB.1 ⟨_, _, rfl⟩ (Nat.le_of_ble_eq_true rfl) ⟨Nat.le_of_ble_eq_true rfl, Nat.le_of_ble_eq_true rfl⟩ ⟨rfl, rfl⟩ hkn (fun r1 N1 μ1 hq1 => ?_)
        obtain ⟨rfl, rfl, hq1⟩ := hq1
        obtain ⟨⟨fs1, h120⟩, K2, hA2, hK2⟩ := hK μ1 hq1
        refine vp_aload_n dL_law_820 rfl rfl ?_
        refine vp_arg (i := i) (j := 1) dL_law_821 dL_law_822 dL_law_823 dL_law_824 dL_law_825 hz rfl (by omega) hL ?_
        refine vp_cV (As := [am_i (sx xs (i + 1))]) (rest := [am_i v]) hA2 dL_law_826 lk_L_103 hy_X10_leastGrid rfl (by omega) h120 ⟨_, _, rfl⟩ (Nat.le_of_ble_eq_true rfl) ⟨Nat.le_of_ble_eq_true rfl, Nat.le_of_ble_eq_true rfl⟩ ⟨rfl, rfl⟩ hkn (fun r2 N2 μ2 hq2 => ?_)
        obtain ⟨rfl, rfl, hq2⟩ := hq2
        refine vp_same (tgt := 985) dL_law_829 (by decide) ?_
        exact vp_iinc3 dL_law_985 (vp_goto (tgt := 18) dL_law_988 (by decide) (ih (i + 5) _ μ2 (by omega) (hK2 _ hq2) (by omega) (by omega)))
      by_cases c21 : a = 21
      · refine vp_tableIn (off := 802) (tgt := 834) dL_law_32 hr (by omega) (by rw [c21]; rfl) (by decide) ?_
        obtain ⟨v, K, hA, hK⟩ := lc_times hB hM (N := 141) (Nat.le_refl _)
        refine vp_aload_n dL_law_834 rfl rfl ?_
        refine vp_cV (As := []) (rest := []) hA dL_law_835 lk_L_104 hy_X9_times rfl (by omega) hB.1 ⟨_, _, rfl⟩ (Nat.le_of_ble_eq_true rfl) ⟨Nat.le_of_ble_eq_true rfl, Nat.le_of_ble_eq_true rfl⟩ ⟨rfl, rfl⟩ hkn (fun r1 N1 μ1 hq1 => ?_)
        obtain ⟨rfl, rfl, hq1⟩ := hq1
        obtain ⟨⟨fs1, h120⟩, K2, hA2, hK2⟩ := hK μ1 hq1
        refine vp_aload_n dL_law_838 rfl rfl ?_
        refine vp_cV (As := []) (rest := [am_i v]) hA2 dL_law_839 lk_L_107 hy_X10_times rfl (by omega) h120 ⟨_, _, rfl⟩ (Nat.le_of_ble_eq_true rfl) ⟨Nat.le_of_ble_eq_true rfl, Nat.le_of_ble_eq_true rfl⟩ ⟨rfl, rfl⟩ hkn (fun r2 N2 μ2 hq2 => ?_)
        obtain ⟨rfl, rfl, hq2⟩ := hq2
        refine vp_same (tgt := 985) dL_law_842 (by decide) ?_
        exact vp_iinc3 dL_law_985 (vp_goto (tgt := 18) dL_law_988 (by decide) (ih (i + 5) _ μ2 (by omega) (hK2 _ hq2) (by omega) (by omega)))
      by_cases c22 : a = 22
      · refine vp_tableIn (off := 815) (tgt := 847) dL_law_32 hr (by omega) (by rw [c22]; rfl) (by decide) ?_
        obtain ⟨v, K, hA, hK⟩ := lc_time hB hM (N := 141) (Nat.le_refl _) (sx_r xs (i + 1)) (sx_r xs (i + 2))
        refine vp_aload_n dL_law_847 rfl rfl ?_
        refine vp_arg (i := i) (j := 1) dL_law_848 dL_law_849 dL_law_850 dL_law_851 dL_law_852 hz rfl (by omega) hL ?_
        refine vp_arg (i := i) (j := 2) dL_law_853 dL_law_854 dL_law_855 dL_law_856 dL_law_857 hz rfl (by omega) hL ?_
        refine vp_cV (As := [am_i (sx xs (i + 1)), am_i (sx xs (i + 2))]) (rest := []) hA dL_law_858 lk_L_108 hy_X9_time rfl (by omega) hB.1 ⟨_, _, rfl⟩ (Nat.le_of_ble_eq_true rfl) ⟨Nat.le_of_ble_eq_true rfl, Nat.le_of_ble_eq_true rfl⟩ ⟨rfl, rfl⟩ hkn (fun r1 N1 μ1 hq1 => ?_)
        obtain ⟨rfl, rfl, hq1⟩ := hq1
        obtain ⟨⟨fs1, h120⟩, K2, hA2, hK2⟩ := hK μ1 hq1
        refine vp_aload_n dL_law_861 rfl rfl ?_
        refine vp_arg (i := i) (j := 1) dL_law_862 dL_law_863 dL_law_864 dL_law_865 dL_law_866 hz rfl (by omega) hL ?_
        refine vp_arg (i := i) (j := 2) dL_law_867 dL_law_868 dL_law_869 dL_law_870 dL_law_871 hz rfl (by omega) hL ?_
        refine vp_cV (As := [am_i (sx xs (i + 1)), am_i (sx xs (i + 2))]) (rest := [am_l v]) hA2 dL_law_872 lk_L_111 hy_X10_time rfl (by omega) h120 ⟨_, _, rfl⟩ (Nat.le_of_ble_eq_true rfl) ⟨Nat.le_of_ble_eq_true rfl, Nat.le_of_ble_eq_true rfl⟩ ⟨rfl, rfl⟩ hkn (fun r2 N2 μ2 hq2 => ?_)
        obtain ⟨rfl, rfl, hq2⟩ := hq2
        refine vp_sameL (tgt := 985) dL_law_875 dL_law_876 (by decide) ?_
        exact vp_iinc3 dL_law_985 (vp_goto (tgt := 18) dL_law_988 (by decide) (ih (i + 5) _ μ2 (by omega) (hK2 _ hq2) (by omega) (by omega)))
      by_cases c23 : a = 23
      · refine vp_tableIn (off := 849) (tgt := 881) dL_law_32 hr (by omega) (by rw [c23]; rfl) (by decide) ?_
        obtain ⟨v, K, hA, hK⟩ := lc_cycle hB hM (N := 141) (Nat.le_refl _) (sx_r xs (i + 1)) (sx_r xs (i + 2)) (sx_r xs (i + 3))
        refine vp_aload_n dL_law_881 rfl rfl ?_
        refine vp_arg (i := i) (j := 1) dL_law_882 dL_law_883 dL_law_884 dL_law_885 dL_law_886 hz rfl (by omega) hL ?_
        refine vp_arg (i := i) (j := 2) dL_law_887 dL_law_888 dL_law_889 dL_law_890 dL_law_891 hz rfl (by omega) hL ?_
        refine vp_arg (i := i) (j := 3) dL_law_892 dL_law_893 dL_law_894 dL_law_895 dL_law_896 hz rfl (by omega) hL ?_
        refine vp_cV (As := [am_i (sx xs (i + 1)), am_i (sx xs (i + 2)), am_i (sx xs (i + 3))]) (rest := []) hA dL_law_897 lk_L_112 hy_X9_cycle rfl (by omega) hB.1 ⟨_, _, rfl⟩ (Nat.le_of_ble_eq_true rfl) ⟨Nat.le_of_ble_eq_true rfl, Nat.le_of_ble_eq_true rfl⟩ ⟨rfl, rfl⟩ hkn (fun r1 N1 μ1 hq1 => ?_)
        obtain ⟨rfl, rfl, hq1⟩ := hq1
        obtain ⟨⟨fs1, h120⟩, K2, hA2, hK2⟩ := hK μ1 hq1
        refine vp_aload_n dL_law_900 rfl rfl ?_
        refine vp_arg (i := i) (j := 1) dL_law_901 dL_law_902 dL_law_903 dL_law_904 dL_law_905 hz rfl (by omega) hL ?_
        refine vp_arg (i := i) (j := 2) dL_law_906 dL_law_907 dL_law_908 dL_law_909 dL_law_910 hz rfl (by omega) hL ?_
        refine vp_arg (i := i) (j := 3) dL_law_911 dL_law_912 dL_law_913 dL_law_914 dL_law_915 hz rfl (by omega) hL ?_
        refine vp_cV (As := [am_i (sx xs (i + 1)), am_i (sx xs (i + 2)), am_i (sx xs (i + 3))]) (rest := [am_l v]) hA2 dL_law_916 lk_L_115 hy_X10_cycle rfl (by omega) h120 ⟨_, _, rfl⟩ (Nat.le_of_ble_eq_true rfl) ⟨Nat.le_of_ble_eq_true rfl, Nat.le_of_ble_eq_true rfl⟩ ⟨rfl, rfl⟩ hkn (fun r2 N2 μ2 hq2 => ?_)
        obtain ⟨rfl, rfl, hq2⟩ := hq2
        refine vp_sameL (tgt := 985) dL_law_919 dL_law_920 (by decide) ?_
        exact vp_iinc3 dL_law_985 (vp_goto (tgt := 18) dL_law_988 (by decide) (ih (i + 5) _ μ2 (by omega) (hK2 _ hq2) (by omega) (by omega)))
      by_cases c24 : a = 24
      · refine vp_tableIn (off := 893) (tgt := 925) dL_law_32 hr (by omega) (by rw [c24]; rfl) (by decide) ?_
        obtain ⟨v, K, hA, hK⟩ := lc_meets hB hM (N := 141) (Nat.le_refl _) (sx_r xs (i + 1)) (sx_r xs (i + 2))
        refine vp_aload_n dL_law_925 rfl rfl ?_
        refine vp_arg (i := i) (j := 1) dL_law_926 dL_law_927 dL_law_928 dL_law_929 dL_law_930 hz rfl (by omega) hL ?_
        refine vp_arg (i := i) (j := 2) dL_law_931 dL_law_932 dL_law_933 dL_law_934 dL_law_935 hz rfl (by omega) hL ?_
        refine vp_cV (As := [am_i (sx xs (i + 1)), am_i (sx xs (i + 2))]) (rest := []) hA dL_law_936 lk_L_116 hy_X9_meets rfl (by omega) hB.1 ⟨_, _, rfl⟩ (Nat.le_of_ble_eq_true rfl) ⟨Nat.le_of_ble_eq_true rfl, Nat.le_of_ble_eq_true rfl⟩ ⟨rfl, rfl⟩ hkn (fun r1 N1 μ1 hq1 => ?_)
        obtain ⟨rfl, rfl, hq1⟩ := hq1
        obtain ⟨⟨fs1, h120⟩, K2, hA2, hK2⟩ := hK μ1 hq1
        refine vp_aload_n dL_law_939 rfl rfl ?_
        refine vp_arg (i := i) (j := 1) dL_law_940 dL_law_941 dL_law_942 dL_law_943 dL_law_944 hz rfl (by omega) hL ?_
        refine vp_arg (i := i) (j := 2) dL_law_945 dL_law_946 dL_law_947 dL_law_948 dL_law_949 hz rfl (by omega) hL ?_
        refine vp_cV (As := [am_i (sx xs (i + 1)), am_i (sx xs (i + 2))]) (rest := [am_i v]) hA2 dL_law_950 lk_L_119 hy_X10_meets rfl (by omega) h120 ⟨_, _, rfl⟩ (Nat.le_of_ble_eq_true rfl) ⟨Nat.le_of_ble_eq_true rfl, Nat.le_of_ble_eq_true rfl⟩ ⟨rfl, rfl⟩ hkn (fun r2 N2 μ2 hq2 => ?_)
        obtain ⟨rfl, rfl, hq2⟩ := hq2
        refine vp_same (tgt := 985) dL_law_953 (by decide) ?_
        exact vp_iinc3 dL_law_985 (vp_goto (tgt := 18) dL_law_988 (by decide) (ih (i + 5) _ μ2 (by omega) (hK2 _ hq2) (by omega) (by omega)))
      by_cases c25 : a = 25
      · refine vp_tableIn (off := 926) (tgt := 958) dL_law_32 hr (by omega) (by rw [c25]; rfl) (by decide) ?_
        obtain ⟨v, K, hA, hK⟩ := lc_undo hB hM (N := 141) (Nat.le_refl _)
        refine vp_aload_n dL_law_958 rfl rfl ?_
        refine vp_cV (As := []) (rest := []) hA dL_law_959 lk_L_120 hy_X9_undo rfl (by omega) hB.1 ⟨_, _, rfl⟩ (Nat.le_of_ble_eq_true rfl) ⟨Nat.le_of_ble_eq_true rfl, Nat.le_of_ble_eq_true rfl⟩ ⟨rfl, rfl⟩ hkn (fun r1 N1 μ1 hq1 => ?_)
        obtain ⟨rfl, rfl, hq1⟩ := hq1
        obtain ⟨⟨fs1, h120⟩, K2, hA2, hK2⟩ := hK μ1 hq1
        refine vp_aload_n dL_law_962 rfl rfl ?_
        refine vp_cV (As := []) (rest := [am_i v]) hA2 dL_law_963 lk_L_123 hy_X10_undo rfl (by omega) h120 ⟨_, _, rfl⟩ (Nat.le_of_ble_eq_true rfl) ⟨Nat.le_of_ble_eq_true rfl, Nat.le_of_ble_eq_true rfl⟩ ⟨rfl, rfl⟩ hkn (fun r2 N2 μ2 hq2 => ?_)
        obtain ⟨rfl, rfl, hq2⟩ := hq2
        refine vp_same (tgt := 985) dL_law_966 (by decide) ?_
        exact vp_iinc3 dL_law_985 (vp_goto (tgt := 18) dL_law_988 (by decide) (ih (i + 5) _ μ2 (by omega) (hK2 _ hq2) (by omega) (by omega)))
      by_cases c26 : a = 26
      · refine vp_tableIn (off := 939) (tgt := 971) dL_law_32 hr (by omega) (by rw [c26]; rfl) (by decide) ?_
        obtain ⟨v, K, hA, hK⟩ := lc_fingerprint hB hM (N := 141) (Nat.le_refl _)
        refine vp_aload_n dL_law_971 rfl rfl ?_
        refine vp_cV (As := []) (rest := []) hA dL_law_972 lk_L_124 hy_X9_fingerprint rfl (by omega) hB.1 ⟨_, _, rfl⟩ (Nat.le_of_ble_eq_true rfl) ⟨Nat.le_of_ble_eq_true rfl, Nat.le_of_ble_eq_true rfl⟩ ⟨rfl, rfl⟩ hkn (fun r1 N1 μ1 hq1 => ?_)
        obtain ⟨rfl, rfl, hq1⟩ := hq1
        obtain ⟨⟨fs1, h120⟩, K2, hA2, hK2⟩ := hK μ1 hq1
        refine vp_aload_n dL_law_975 rfl rfl ?_
        refine vp_cV (As := []) (rest := [am_l v]) hA2 dL_law_976 lk_L_128 hy_X10_fingerprint rfl (by omega) h120 ⟨_, _, rfl⟩ (Nat.le_of_ble_eq_true rfl) ⟨Nat.le_of_ble_eq_true rfl, Nat.le_of_ble_eq_true rfl⟩ ⟨rfl, rfl⟩ hkn (fun r2 N2 μ2 hq2 => ?_)
        obtain ⟨rfl, rfl, hq2⟩ := hq2
        refine vp_sameL (tgt := 985) dL_law_979 dL_law_980 (by decide) ?_
        exact vp_iinc3 dL_law_985 (vp_goto (tgt := 18) dL_law_988 (by decide) (ih (i + 5) _ μ2 (by omega) (hK2 _ hq2) (by omega) (by omega)))
      refine vp_tableOut (tgt := 985) dL_law_32 hr (by omega) (by decide) ?_
      exact vp_iinc3 dL_law_985 (vp_goto (tgt := 18) dL_law_988 (by decide) (ih (i + 5) _ μ (by omega) (⟨bb, C, rem, hs, hB, hM⟩) (by omega) (by omega)))
set_option maxHeartbeats 16000000 in
set_option maxRecDepth 100000 in
theorem law_begin {b L : Nat} {xs : Nat → Int32} (hL : L ≤ 2560) (μ : am_M) : am_V b L xs 0 0 0 [] [] 0 μ := by
  refine vp_new nc_L_7 dL_law_0 (Nat.le_of_ble_eq_true rfl) (Nat.le_of_ble_eq_true rfl) (fun μ1 h1 f1 => ?_)
  refine vp_dup dL_law_3 rfl ?_
  refine vp_callI (As := []) (rest := [.ref 0]) (cx_init h1) dL_law_4 lk_L_9 rfl rfl hy_X9_init rfl (Nat.le_of_ble_eq_true rfl) ⟨Nat.le_of_ble_eq_true rfl, Nat.le_of_ble_eq_true rfl⟩ ⟨Nat.le_of_ble_eq_true rfl, Nat.le_of_ble_eq_true rfl⟩ (fun r N2 μ2 hq => ?_)
  obtain ⟨rfl, rfl, hB⟩ := hq
  refine vp_astore1 dL_law_7 ?_
  refine vp_new nc_L_10 dL_law_8 (Nat.le_of_ble_eq_true rfl) (Nat.le_of_ble_eq_true rfl) (fun μ3 h3 f3 => ?_)
  refine vp_dup dL_law_11 rfl ?_
  refine vp_callI (As := []) (rest := [.ref 120]) (cy_init h3) dL_law_12 lk_L_12 rfl rfl hy_X10_init rfl (Nat.le_of_ble_eq_true rfl) ⟨Nat.le_of_ble_eq_true rfl, Nat.le_of_ble_eq_true rfl⟩ ⟨Nat.le_of_ble_eq_true rfl, Nat.le_of_ble_eq_true rfl⟩ (fun r N2 μ4 hq => ?_)
  obtain ⟨rfl, rfl, hM, f4⟩ := hq
  refine vp_astore2 dL_law_15 ?_
  refine vp_iconst dL_law_16 ?_
  refine vp_istore3 dL_law_17 ?_
  exact law_loop hL ⟨Nat.le_of_ble_eq_true rfl, Nat.le_of_ble_eq_true rfl⟩ (L + 7) 0 0 μ4 rfl ⟨[], C0, 0, hs0, hB.keptA (fun x hx => (f4 x hx).trans (f3 x (by omega))), hM⟩ (by omega) (by omega)
