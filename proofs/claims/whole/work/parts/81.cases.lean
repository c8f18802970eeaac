/-! the law's 29 calls -/
section LC
variable {bS L : Nat} {xs : Nat → Int32} {b : Nat} {i B : Int} {M : Mem}
theorem lc_write (hL : L ≤ 384) (hi : 0 ≤ i ∧ i + 6 ≤ (L : Int)) (hI : IC M B) (hA : absC M = absM M) (hB : 0 ≤ B ∧ B ≤ 80000) (hgo : Go bS L xs b i B) : LW bS L xs b i 164 [] M := by
  refine R_aload_n (pc := 164) dL_law_164 rfl ?_
  refine L_aload (pc := 165) dL_law_165 rfl ?_
  refine R_iload_n (pc := 166) dL_law_166 rfl ?_
  refine R_iconst (pc := 167) dL_law_167 ?_
  refine R_iadd (pc := 168) dL_law_168 ?_
  refine L_iald (pc := 169) dL_law_169 (by omega) ?_
  refine R_V1 (pc := 170) dL_law_170 sv_RL_13 (k_write b SH M Hc_a hI (scr xs (i + 1)) scr_R) (rfl : SH[0]? = some _) (Nat.le_of_ble_eq_true rfl) (rmL (by omega)) (fun v1 M1 hq => ?_)
  obtain ⟨rfl, q1, q2, q3⟩ := hq
  have eM : absM M1 = absM M := absM_hi q3
  have hIM : IS (absM M1) B := by rw [eM, ← hA]; exact IC_IS hI
  refine R_aload_n (pc := 173) dL_law_173 rfl ?_
  refine L_aload (pc := 174) dL_law_174 rfl ?_
  refine R_iload_n (pc := 175) dL_law_175 rfl ?_
  refine R_iconst (pc := 176) dL_law_176 ?_
  refine R_iadd (pc := 177) dL_law_177 ?_
  refine L_iald (pc := 178) dL_law_178 (by omega) ?_
  refine R_V1 (pc := 179) dL_law_179 sv_RL_17 (j_write b SH M1 Hm_a hIM (scr xs (i + 1)) scr_R) (rfl : SH[72]? = some _) (Nat.le_of_ble_eq_true rfl) (rmL (by omega)) (fun v2 M2 hq2 => ?_)
  obtain ⟨rfl, p1, p2⟩ := hq2
  obtain ⟨i1, i2⟩ := IC_lo q2 (by omega) p2
  rw [eM, ← hA] at p1 ⊢
  refine R_same (pc := 182) (tgt := 937) dL_law_182 (by decide) ?_
  exact hgo M2 _ i1 (by rw [i2, q1, p1]) (by omega) (by omega)
theorem lc_wipe (hL : L ≤ 384) (hi : 0 ≤ i ∧ i + 6 ≤ (L : Int)) (hI : IC M B) (hA : absC M = absM M) (hB : 0 ≤ B ∧ B ≤ 80000) (hgo : Go bS L xs b i B) : LW bS L xs b i 187 [] M := by
  refine R_aload_n (pc := 187) dL_law_187 rfl ?_
  refine R_V0 (pc := 188) dL_law_188 sv_RL_18 (k_wipe b SH M Hc_a hI ) (rfl : SH[0]? = some _) (Nat.le_of_ble_eq_true rfl) (rmL (by omega)) (fun v1 M1 hq => ?_)
  obtain ⟨rfl, q1, q2, q3⟩ := hq
  have eM : absM M1 = absM M := absM_hi q3
  have hIM : IS (absM M1) B := by rw [eM, ← hA]; exact IC_IS hI
  refine R_aload_n (pc := 191) dL_law_191 rfl ?_
  refine R_V0 (pc := 192) dL_law_192 sv_RL_22 (j_wipe b SH M1 Hm_a hIM ) (rfl : SH[72]? = some _) (Nat.le_of_ble_eq_true rfl) (rmL (by omega)) (fun v2 M2 hq2 => ?_)
  obtain ⟨rfl, p1, p2⟩ := hq2
  obtain ⟨i1, i2⟩ := IC_lo q2 (by omega) p2
  rw [eM, ← hA] at p1 ⊢
  refine R_same (pc := 195) (tgt := 937) dL_law_195 (by decide) ?_
  exact hgo M2 _ i1 (by rw [i2, q1, p1]) (by omega) (by omega)
theorem lc_fault (hL : L ≤ 384) (hi : 0 ≤ i ∧ i + 6 ≤ (L : Int)) (hI : IC M B) (hA : absC M = absM M) (hB : 0 ≤ B ∧ B ≤ 80000) (hgo : Go bS L xs b i B) : LW bS L xs b i 200 [] M := by
  refine R_aload_n (pc := 200) dL_law_200 rfl ?_
  refine R_V0 (pc := 201) dL_law_201 sv_RL_23 (k_fault b SH M Hc_a hI ) (rfl : SH[0]? = some _) (Nat.le_of_ble_eq_true rfl) (rmL (by omega)) (fun v1 M1 hq => ?_)
  obtain ⟨rfl, q1, q2, q3⟩ := hq
  have eM : absM M1 = absM M := absM_hi q3
  have hIM : IS (absM M1) B := by rw [eM, ← hA]; exact IC_IS hI
  refine R_aload_n (pc := 204) dL_law_204 rfl ?_
  refine R_V0 (pc := 205) dL_law_205 sv_RL_26 (j_fault b SH M1 Hm_a hIM ) (rfl : SH[72]? = some _) (Nat.le_of_ble_eq_true rfl) (rmL (by omega)) (fun v2 M2 hq2 => ?_)
  obtain ⟨rfl, p1, p2⟩ := hq2
  obtain ⟨i1, i2⟩ := IC_lo q2 (by omega) p2
  rw [eM, ← hA] at p1 ⊢
  refine R_same (pc := 208) (tgt := 937) dL_law_208 (by decide) ?_
  exact hgo M2 _ i1 (by rw [i2, q1, p1]) (by omega) (by omega)
theorem lc_lay (hL : L ≤ 384) (hi : 0 ≤ i ∧ i + 6 ≤ (L : Int)) (hI : IC M B) (hA : absC M = absM M) (hB : 0 ≤ B ∧ B ≤ 80000) (hgo : Go bS L xs b i B) : LW bS L xs b i 213 [] M := by
  refine R_aload_n (pc := 213) dL_law_213 rfl ?_
  refine R_V0 (pc := 214) dL_law_214 sv_RL_27 (k_lay b SH M Hc_a hI (by omega)) (rfl : SH[0]? = some _) (Nat.le_of_ble_eq_true rfl) (rmL (by omega)) (fun v1 M1 hq => ?_)
  obtain ⟨rfl, q1, q2, q3⟩ := hq
  have eM : absM M1 = absM M := absM_hi q3
  have hIM : IS (absM M1) B := by rw [eM, ← hA]; exact IC_IS hI
  refine R_aload_n (pc := 217) dL_law_217 rfl ?_
  refine R_V0 (pc := 218) dL_law_218 sv_RL_30 (j_lay b SH M1 Hm_a hIM ) (rfl : SH[72]? = some _) (Nat.le_of_ble_eq_true rfl) (rmL (by omega)) (fun v2 M2 hq2 => ?_)
  obtain ⟨rfl, p1, p2⟩ := hq2
  obtain ⟨i1, i2⟩ := IC_lo q2 (by omega) p2
  rw [eM, ← hA] at p1 ⊢
  refine R_same (pc := 221) (tgt := 937) dL_law_221 (by decide) ?_
  exact hgo M2 _ i1 (by rw [i2, q1, p1]) (by omega) (by omega)
theorem lc_post (hL : L ≤ 384) (hi : 0 ≤ i ∧ i + 6 ≤ (L : Int)) (hI : IC M B) (hA : absC M = absM M) (hB : 0 ≤ B ∧ B ≤ 80000) (hgo : Go bS L xs b i B) : LW bS L xs b i 226 [] M := by
  refine R_aload_n (pc := 226) dL_law_226 rfl ?_
  refine L_aload (pc := 227) dL_law_227 rfl ?_
  refine R_iload_n (pc := 228) dL_law_228 rfl ?_
  refine R_iconst (pc := 229) dL_law_229 ?_
  refine R_iadd (pc := 230) dL_law_230 ?_
  refine L_iald (pc := 231) dL_law_231 (by omega) ?_
  refine R_V1 (pc := 232) dL_law_232 sv_RL_31 (k_post b SH M Hc_a hI (scr xs (i + 1)) scr_R) (rfl : SH[0]? = some _) (Nat.le_of_ble_eq_true rfl) (rmL (by omega)) (fun v1 M1 hq => ?_)
  obtain ⟨rfl, q1, q2, q3⟩ := hq
  have eM : absM M1 = absM M := absM_hi q3
  have hIM : IS (absM M1) B := by rw [eM, ← hA]; exact IC_IS hI
  refine R_aload_n (pc := 235) dL_law_235 rfl ?_
  refine L_aload (pc := 236) dL_law_236 rfl ?_
  refine R_iload_n (pc := 237) dL_law_237 rfl ?_
  refine R_iconst (pc := 238) dL_law_238 ?_
  refine R_iadd (pc := 239) dL_law_239 ?_
  refine L_iald (pc := 240) dL_law_240 (by omega) ?_
  refine R_V1 (pc := 241) dL_law_241 sv_RL_34 (j_post b SH M1 Hm_a hIM (scr xs (i + 1)) scr_R) (rfl : SH[72]? = some _) (Nat.le_of_ble_eq_true rfl) (rmL (by omega)) (fun v2 M2 hq2 => ?_)
  obtain ⟨rfl, p1, p2⟩ := hq2
  obtain ⟨i1, i2⟩ := IC_lo q2 (by omega) p2
  rw [eM, ← hA] at p1 ⊢
  refine R_same (pc := 244) (tgt := 937) dL_law_244 (by decide) ?_
  exact hgo M2 _ i1 (by rw [i2, q1, p1]) (by omega) (by omega)
theorem lc_walker (hL : L ≤ 384) (hi : 0 ≤ i ∧ i + 6 ≤ (L : Int)) (hI : IC M B) (hA : absC M = absM M) (hB : 0 ≤ B ∧ B ≤ 80000) (hgo : Go bS L xs b i B) : LW bS L xs b i 249 [] M := by
  refine R_aload_n (pc := 249) dL_law_249 rfl ?_
  refine L_aload (pc := 250) dL_law_250 rfl ?_
  refine R_iload_n (pc := 251) dL_law_251 rfl ?_
  refine R_iconst (pc := 252) dL_law_252 ?_
  refine R_iadd (pc := 253) dL_law_253 ?_
  refine L_iald (pc := 254) dL_law_254 (by omega) ?_
  refine L_aload (pc := 255) dL_law_255 rfl ?_
  refine R_iload_n (pc := 256) dL_law_256 rfl ?_
  refine R_iconst (pc := 257) dL_law_257 ?_
  refine R_iadd (pc := 258) dL_law_258 ?_
  refine L_iald (pc := 259) dL_law_259 (by omega) ?_
  refine R_V2 (pc := 260) dL_law_260 sv_RL_35 (k_walker b SH M Hc_a hI (scr xs (i + 1)) (scr xs (i + 2)) scr_R scr_R) (rfl : SH[0]? = some _) (Nat.le_of_ble_eq_true rfl) (rmL (by omega)) (fun v1 M1 hq => ?_)
  obtain ⟨rfl, q1, q2, q3⟩ := hq
  have eM : absM M1 = absM M := absM_hi q3
  have hIM : IS (absM M1) B := by rw [eM, ← hA]; exact IC_IS hI
  refine R_aload_n (pc := 263) dL_law_263 rfl ?_
  refine L_aload (pc := 264) dL_law_264 rfl ?_
  refine R_iload_n (pc := 265) dL_law_265 rfl ?_
  refine R_iconst (pc := 266) dL_law_266 ?_
  refine R_iadd (pc := 267) dL_law_267 ?_
  refine L_iald (pc := 268) dL_law_268 (by omega) ?_
  refine L_aload (pc := 269) dL_law_269 rfl ?_
  refine R_iload_n (pc := 270) dL_law_270 rfl ?_
  refine R_iconst (pc := 271) dL_law_271 ?_
  refine R_iadd (pc := 272) dL_law_272 ?_
  refine L_iald (pc := 273) dL_law_273 (by omega) ?_
  refine R_V2 (pc := 274) dL_law_274 sv_RL_39 (j_walker b SH M1 Hm_a hIM (scr xs (i + 1)) (scr xs (i + 2)) scr_R scr_R) (rfl : SH[72]? = some _) (Nat.le_of_ble_eq_true rfl) (rmL (by omega)) (fun v2 M2 hq2 => ?_)
  obtain ⟨rfl, p1, p2⟩ := hq2
  obtain ⟨i1, i2⟩ := IC_lo q2 (by omega) p2
  rw [eM, ← hA] at p1 ⊢
  refine R_same (pc := 277) (tgt := 937) dL_law_277 (by decide) ?_
  exact hgo M2 _ i1 (by rw [i2, q1, p1]) (by omega) (by omega)
theorem lc_thing (hL : L ≤ 384) (hi : 0 ≤ i ∧ i + 6 ≤ (L : Int)) (hI : IC M B) (hA : absC M = absM M) (hB : 0 ≤ B ∧ B ≤ 80000) (hgo : Go bS L xs b i B) : LW bS L xs b i 282 [] M := by
  refine R_aload_n (pc := 282) dL_law_282 rfl ?_
  refine L_aload (pc := 283) dL_law_283 rfl ?_
  refine R_iload_n (pc := 284) dL_law_284 rfl ?_
  refine R_iconst (pc := 285) dL_law_285 ?_
  refine R_iadd (pc := 286) dL_law_286 ?_
  refine L_iald (pc := 287) dL_law_287 (by omega) ?_
  refine L_aload (pc := 288) dL_law_288 rfl ?_
  refine R_iload_n (pc := 289) dL_law_289 rfl ?_
  refine R_iconst (pc := 290) dL_law_290 ?_
  refine R_iadd (pc := 291) dL_law_291 ?_
  refine L_iald (pc := 292) dL_law_292 (by omega) ?_
  refine R_V2 (pc := 293) dL_law_293 sv_RL_40 (k_thing b SH M Hc_a hI (scr xs (i + 1)) (scr xs (i + 2)) scr_R scr_R) (rfl : SH[0]? = some _) (Nat.le_of_ble_eq_true rfl) (rmL (by omega)) (fun v1 M1 hq => ?_)
  obtain ⟨rfl, q1, q2, q3⟩ := hq
  have eM : absM M1 = absM M := absM_hi q3
  have hIM : IS (absM M1) B := by rw [eM, ← hA]; exact IC_IS hI
  refine R_aload_n (pc := 296) dL_law_296 rfl ?_
  refine L_aload (pc := 297) dL_law_297 rfl ?_
  refine R_iload_n (pc := 298) dL_law_298 rfl ?_
  refine R_iconst (pc := 299) dL_law_299 ?_
  refine R_iadd (pc := 300) dL_law_300 ?_
  refine L_iald (pc := 301) dL_law_301 (by omega) ?_
  refine L_aload (pc := 302) dL_law_302 rfl ?_
  refine R_iload_n (pc := 303) dL_law_303 rfl ?_
  refine R_iconst (pc := 304) dL_law_304 ?_
  refine R_iadd (pc := 305) dL_law_305 ?_
  refine L_iald (pc := 306) dL_law_306 (by omega) ?_
  refine R_V2 (pc := 307) dL_law_307 sv_RL_43 (j_thing b SH M1 Hm_a hIM (scr xs (i + 1)) (scr xs (i + 2)) scr_R scr_R) (rfl : SH[72]? = some _) (Nat.le_of_ble_eq_true rfl) (rmL (by omega)) (fun v2 M2 hq2 => ?_)
  obtain ⟨rfl, p1, p2⟩ := hq2
  obtain ⟨i1, i2⟩ := IC_lo q2 (by omega) p2
  rw [eM, ← hA] at p1 ⊢
  refine R_same (pc := 310) (tgt := 937) dL_law_310 (by decide) ?_
  exact hgo M2 _ i1 (by rw [i2, q1, p1]) (by omega) (by omega)
theorem lc_day (hL : L ≤ 384) (hi : 0 ≤ i ∧ i + 6 ≤ (L : Int)) (hI : IC M B) (hA : absC M = absM M) (hB : 0 ≤ B ∧ B ≤ 80000) (hgo : Go bS L xs b i B) : LW bS L xs b i 315 [] M := by
  refine R_aload_n (pc := 315) dL_law_315 rfl ?_
  refine L_aload (pc := 316) dL_law_316 rfl ?_
  refine R_iload_n (pc := 317) dL_law_317 rfl ?_
  refine R_iconst (pc := 318) dL_law_318 ?_
  refine R_iadd (pc := 319) dL_law_319 ?_
  refine L_iald (pc := 320) dL_law_320 (by omega) ?_
  refine L_aload (pc := 321) dL_law_321 rfl ?_
  refine R_iload_n (pc := 322) dL_law_322 rfl ?_
  refine R_iconst (pc := 323) dL_law_323 ?_
  refine R_iadd (pc := 324) dL_law_324 ?_
  refine L_iald (pc := 325) dL_law_325 (by omega) ?_
  refine R_V2 (pc := 326) dL_law_326 sv_RL_44 (k_day b SH M Hc_a hI (scr xs (i + 1)) (scr xs (i + 2)) scr_R scr_R) (rfl : SH[0]? = some _) (Nat.le_of_ble_eq_true rfl) (rmL (by omega)) (fun v1 M1 hq => ?_)
  obtain ⟨rfl, q1, q2, q3⟩ := hq
  have eM : absM M1 = absM M := absM_hi q3
  have hIM : IS (absM M1) B := by rw [eM, ← hA]; exact IC_IS hI
  refine R_aload_n (pc := 329) dL_law_329 rfl ?_
  refine L_aload (pc := 330) dL_law_330 rfl ?_
  refine R_iload_n (pc := 331) dL_law_331 rfl ?_
  refine R_iconst (pc := 332) dL_law_332 ?_
  refine R_iadd (pc := 333) dL_law_333 ?_
  refine L_iald (pc := 334) dL_law_334 (by omega) ?_
  refine L_aload (pc := 335) dL_law_335 rfl ?_
  refine R_iload_n (pc := 336) dL_law_336 rfl ?_
  refine R_iconst (pc := 337) dL_law_337 ?_
  refine R_iadd (pc := 338) dL_law_338 ?_
  refine L_iald (pc := 339) dL_law_339 (by omega) ?_
  refine R_V2 (pc := 340) dL_law_340 sv_RL_47 (j_day b SH M1 Hm_a hIM (scr xs (i + 1)) (scr xs (i + 2)) scr_R scr_R) (rfl : SH[72]? = some _) (Nat.le_of_ble_eq_true rfl) (rmL (by omega)) (fun v2 M2 hq2 => ?_)
  obtain ⟨rfl, p1, p2⟩ := hq2
  obtain ⟨i1, i2⟩ := IC_lo q2 (by omega) p2
  rw [eM, ← hA] at p1 ⊢
  refine R_same (pc := 343) (tgt := 937) dL_law_343 (by decide) ?_
  exact hgo M2 _ i1 (by rw [i2, q1, p1]) (by omega) (by omega)
theorem lc_pass (hL : L ≤ 384) (hi : 0 ≤ i ∧ i + 6 ≤ (L : Int)) (hI : IC M B) (hA : absC M = absM M) (hB : 0 ≤ B ∧ B ≤ 80000) (hgo : Go bS L xs b i B) : LW bS L xs b i 348 [] M := by
  refine R_aload_n (pc := 348) dL_law_348 rfl ?_
  refine L_aload (pc := 349) dL_law_349 rfl ?_
  refine R_iload_n (pc := 350) dL_law_350 rfl ?_
  refine R_iconst (pc := 351) dL_law_351 ?_
  refine R_iadd (pc := 352) dL_law_352 ?_
  refine L_iald (pc := 353) dL_law_353 (by omega) ?_
  refine R_V1 (pc := 354) dL_law_354 sv_RL_48 (k_pass b SH M Hc_a hI (by omega) (scr xs (i + 1)) scr_R) (rfl : SH[0]? = some _) (Nat.le_of_ble_eq_true rfl) (rmL (by omega)) (fun v1 M1 hq => ?_)
  obtain ⟨rfl, q1, q2, q3⟩ := hq
  have eM : absM M1 = absM M := absM_hi q3
  have hIM : IS (absM M1) B := by rw [eM, ← hA]; exact IC_IS hI
  refine R_aload_n (pc := 357) dL_law_357 rfl ?_
  refine L_aload (pc := 358) dL_law_358 rfl ?_
  refine R_iload_n (pc := 359) dL_law_359 rfl ?_
  refine R_iconst (pc := 360) dL_law_360 ?_
  refine R_iadd (pc := 361) dL_law_361 ?_
  refine L_iald (pc := 362) dL_law_362 (by omega) ?_
  refine R_V1 (pc := 363) dL_law_363 sv_RL_51 (j_pass b SH M1 Hm_a hIM (by omega) (scr xs (i + 1)) scr_R) (rfl : SH[72]? = some _) (Nat.le_of_ble_eq_true rfl) (rmL (by omega)) (fun v2 M2 hq2 => ?_)
  obtain ⟨rfl, p1, p2⟩ := hq2
  obtain ⟨i1, i2⟩ := IC_lo q2 (by omega) p2
  rw [eM, ← hA] at p1 ⊢
  refine R_same (pc := 366) (tgt := 937) dL_law_366 (by decide) ?_
  exact hgo M2 _ i1 (by rw [i2, q1, p1]) (by omega) (by omega)
theorem lc_walk (hL : L ≤ 384) (hi : 0 ≤ i ∧ i + 6 ≤ (L : Int)) (hI : IC M B) (hA : absC M = absM M) (hB : 0 ≤ B ∧ B ≤ 80000) (hgo : Go bS L xs b i B) : LW bS L xs b i 371 [] M := by
  refine R_aload_n (pc := 371) dL_law_371 rfl ?_
  refine L_aload (pc := 372) dL_law_372 rfl ?_
  refine R_iload_n (pc := 373) dL_law_373 rfl ?_
  refine R_iconst (pc := 374) dL_law_374 ?_
  refine R_iadd (pc := 375) dL_law_375 ?_
  refine L_iald (pc := 376) dL_law_376 (by omega) ?_
  refine L_aload (pc := 377) dL_law_377 rfl ?_
  refine R_iload_n (pc := 378) dL_law_378 rfl ?_
  refine R_iconst (pc := 379) dL_law_379 ?_
  refine R_iadd (pc := 380) dL_law_380 ?_
  refine L_iald (pc := 381) dL_law_381 (by omega) ?_
  refine R_V2 (pc := 382) dL_law_382 sv_RL_52 (k_walk b SH M Hc_a hI (by omega) (scr xs (i + 1)) (scr xs (i + 2)) scr_R scr_R) (rfl : SH[0]? = some _) (Nat.le_of_ble_eq_true rfl) (rmL (by omega)) (fun v1 M1 hq => ?_)
  obtain ⟨rfl, q1, q2, q3⟩ := hq
  have eM : absM M1 = absM M := absM_hi q3
  have hIM : IS (absM M1) B := by rw [eM, ← hA]; exact IC_IS hI
  refine R_aload_n (pc := 385) dL_law_385 rfl ?_
  refine L_aload (pc := 386) dL_law_386 rfl ?_
  refine R_iload_n (pc := 387) dL_law_387 rfl ?_
  refine R_iconst (pc := 388) dL_law_388 ?_
  refine R_iadd (pc := 389) dL_law_389 ?_
  refine L_iald (pc := 390) dL_law_390 (by omega) ?_
  refine L_aload (pc := 391) dL_law_391 rfl ?_
  refine R_iload_n (pc := 392) dL_law_392 rfl ?_
  refine R_iconst (pc := 393) dL_law_393 ?_
  refine R_iadd (pc := 394) dL_law_394 ?_
  refine L_iald (pc := 395) dL_law_395 (by omega) ?_
  refine R_V2 (pc := 396) dL_law_396 sv_RL_55 (j_walk b SH M1 Hm_a hIM (by omega) (scr xs (i + 1)) (scr xs (i + 2)) scr_R scr_R) (rfl : SH[72]? = some _) (Nat.le_of_ble_eq_true rfl) (rmL (by omega)) (fun v2 M2 hq2 => ?_)
  obtain ⟨rfl, p1, p2⟩ := hq2
  obtain ⟨i1, i2⟩ := IC_lo q2 (by omega) p2
  rw [eM, ← hA] at p1 ⊢
  refine R_same (pc := 399) (tgt := 937) dL_law_399 (by decide) ?_
  exact hgo M2 _ i1 (by rw [i2, q1, p1]) (by omega) (by omega)
theorem lc_shut (hL : L ≤ 384) (hi : 0 ≤ i ∧ i + 6 ≤ (L : Int)) (hI : IC M B) (hA : absC M = absM M) (hB : 0 ≤ B ∧ B ≤ 80000) (hgo : Go bS L xs b i B) : LW bS L xs b i 404 [] M := by
  have hr := scr_R (xs := xs) (j := i + 2)
  have D : ∀ (z : Int), (z = 0 ∨ z = 1) → ((scr xs (i + 2) = 0 → z = 0) ∧ (¬ scr xs (i + 2) = 0 → z = 1)) → LW bS L xs b i 423 [vi z, vi (scr xs (i + 1)), vr b 0] M := by
    intro z hz hzc
    refine R_V2 (pc := 423) dL_law_423 sv_RL_56 (k_shut b SH M Hc_a hI (by omega) (scr xs (i + 1)) z scr_R hz) (rfl : SH[0]? = some _) (Nat.le_of_ble_eq_true rfl) (rmL (by omega)) (fun v1 M1 hq => ?_)
    obtain ⟨rfl, q1, q2, q3⟩ := hq
    have eM : absM M1 = absM M := absM_hi q3
    have hIM : IS (absM M1) B := by rw [eM, ← hA]; exact IC_IS hI
    have E : LW bS L xs b i 445 [vi z, vi (scr xs (i + 1)), vr b 72, vi (a_shut (absC M) (scr xs (i + 1)) z)] M1 := by
      refine R_V2 (pc := 445) dL_law_445 sv_RL_60 (j_shut b SH M1 Hm_a hIM (scr xs (i + 1)) z scr_R hz) (rfl : SH[72]? = some _) (Nat.le_of_ble_eq_true rfl) (rmL (by omega)) (fun v2 M2 hq2 => ?_)
      obtain ⟨rfl, p1, p2⟩ := hq2
      obtain ⟨i1, i2⟩ := IC_lo q2 (by omega) p2
      rw [eM, ← hA] at p1 ⊢
      refine R_same (pc := 448) (tgt := 937) dL_law_448 (by decide) ?_
      exact hgo M2 _ i1 (by rw [i2, q1, p1]) (by omega) (by omega)
    refine R_aload_n (pc := 426) dL_law_426 rfl ?_
    refine L_aload (pc := 427) dL_law_427 rfl ?_
    refine R_iload_n (pc := 428) dL_law_428 rfl ?_
    refine R_iconst (pc := 429) dL_law_429 ?_
    refine R_iadd (pc := 430) dL_law_430 ?_
    refine L_iald (pc := 431) dL_law_431 (by omega) ?_
    refine L_aload (pc := 432) dL_law_432 rfl ?_
    refine R_iload_n (pc := 433) dL_law_433 rfl ?_
    refine R_iconst (pc := 434) dL_law_434 ?_
    refine R_iadd (pc := 435) dL_law_435 ?_
    refine L_iald (pc := 436) dL_law_436 (by omega) ?_
    refine R_if_eq (pc := 437) (tgt := 444) dL_law_437 (by decide) hr (fun h0 => ?_) (fun h0 => ?_)
    · refine R_iconst (pc := 444) dL_law_444 ?_
      have e := hzc.1 h0
      rw [e] at E ⊢
      exact E
    · refine R_iconst (pc := 440) dL_law_440 ?_
      refine R_goto (pc := 441) (tgt := 445) dL_law_441 (by decide) ?_
      have e := hzc.2 h0
      rw [e] at E ⊢
      exact E
  refine R_aload_n (pc := 404) dL_law_404 rfl ?_
  refine L_aload (pc := 405) dL_law_405 rfl ?_
  refine R_iload_n (pc := 406) dL_law_406 rfl ?_
  refine R_iconst (pc := 407) dL_law_407 ?_
  refine R_iadd (pc := 408) dL_law_408 ?_
  refine L_iald (pc := 409) dL_law_409 (by omega) ?_
  refine L_aload (pc := 410) dL_law_410 rfl ?_
  refine R_iload_n (pc := 411) dL_law_411 rfl ?_
  refine R_iconst (pc := 412) dL_law_412 ?_
  refine R_iadd (pc := 413) dL_law_413 ?_
  refine L_iald (pc := 414) dL_law_414 (by omega) ?_
  refine R_if_eq (pc := 415) (tgt := 422) dL_law_415 (by decide) hr (fun h0 => ?_) (fun h0 => ?_)
  · refine R_iconst (pc := 422) dL_law_422 ?_
    exact D 0 (Or.inl rfl) ⟨fun _ => rfl, fun h => absurd h0 h⟩
  · refine R_iconst (pc := 418) dL_law_418 ?_
    refine R_goto (pc := 419) (tgt := 423) dL_law_419 (by decide) ?_
    exact D 1 (Or.inr rfl) ⟨fun h => absurd h h0, fun _ => rfl⟩
theorem lc_undo (hL : L ≤ 384) (hi : 0 ≤ i ∧ i + 6 ≤ (L : Int)) (hI : IC M B) (hA : absC M = absM M) (hB : 0 ≤ B ∧ B ≤ 80000) (hgo : Go bS L xs b i B) : LW bS L xs b i 453 [] M := by
  refine R_aload_n (pc := 453) dL_law_453 rfl ?_
  refine R_V0 (pc := 454) dL_law_454 sv_RL_61 (k_undo b SH M Hc_a hI ) (rfl : SH[0]? = some _) (Nat.le_of_ble_eq_true rfl) (rmL (by omega)) (fun v1 M1 hq => ?_)
  obtain ⟨rfl, q1, q2, q3⟩ := hq
  have eM : absM M1 = absM M := absM_hi q3
  have hIM : IS (absM M1) B := by rw [eM, ← hA]; exact IC_IS hI
  refine R_aload_n (pc := 457) dL_law_457 rfl ?_
  refine R_V0 (pc := 458) dL_law_458 sv_RL_64 (j_undo b SH M1 Hm_a hIM ) (rfl : SH[72]? = some _) (Nat.le_of_ble_eq_true rfl) (rmL (by omega)) (fun v2 M2 hq2 => ?_)
  obtain ⟨rfl, p1, p2⟩ := hq2
  obtain ⟨i1, i2⟩ := IC_lo q2 (by omega) p2
  rw [eM, ← hA] at p1 ⊢
  refine R_same (pc := 461) (tgt := 937) dL_law_461 (by decide) ?_
  exact hgo M2 _ i1 (by rw [i2, q1, p1]) (by omega) (by omega)
theorem lc_length (hL : L ≤ 384) (hi : 0 ≤ i ∧ i + 6 ≤ (L : Int)) (hI : IC M B) (hA : absC M = absM M) (hB : 0 ≤ B ∧ B ≤ 80000) (hgo : Go bS L xs b i B) : LW bS L xs b i 466 [] M := by
  refine R_aload_n (pc := 466) dL_law_466 rfl ?_
  refine R_V0 (pc := 467) dL_law_467 sv_RL_65 (k_length b SH M Hc_a hI ) (rfl : SH[0]? = some _) (Nat.le_of_ble_eq_true rfl) (rmL (by omega)) (fun v1 M1 hq => ?_)
  obtain ⟨rfl, q1, q2, q3⟩ := hq
  have eM : absM M1 = absM M := absM_hi q3
  have hIM : IS (absM M1) B := by rw [eM, ← hA]; exact IC_IS hI
  refine R_aload_n (pc := 470) dL_law_470 rfl ?_
  refine R_V0 (pc := 471) dL_law_471 sv_RL_68 (j_length b SH M1 Hm_a hIM ) (rfl : SH[72]? = some _) (Nat.le_of_ble_eq_true rfl) (rmL (by omega)) (fun v2 M2 hq2 => ?_)
  obtain ⟨rfl, p1, p2⟩ := hq2
  obtain ⟨i1, i2⟩ := IC_lo q2 (by omega) p2
  rw [eM, ← hA] at p1 ⊢
  refine R_same (pc := 474) (tgt := 937) dL_law_474 (by decide) ?_
  exact hgo M2 _ i1 (by rw [i2, q1, p1]) (by omega) (by omega)
theorem lc_crooks (hL : L ≤ 384) (hi : 0 ≤ i ∧ i + 6 ≤ (L : Int)) (hI : IC M B) (hA : absC M = absM M) (hB : 0 ≤ B ∧ B ≤ 80000) (hgo : Go bS L xs b i B) : LW bS L xs b i 479 [] M := by
  refine R_aload_n (pc := 479) dL_law_479 rfl ?_
  refine L_aload (pc := 480) dL_law_480 rfl ?_
  refine R_iload_n (pc := 481) dL_law_481 rfl ?_
  refine R_iconst (pc := 482) dL_law_482 ?_
  refine R_iadd (pc := 483) dL_law_483 ?_
  refine L_iald (pc := 484) dL_law_484 (by omega) ?_
  refine R_V1 (pc := 485) dL_law_485 sv_RL_69 (k_crooks b SH M Hc_a hI (scr xs (i + 1)) scr_R) (rfl : SH[0]? = some _) (Nat.le_of_ble_eq_true rfl) (rmL (by omega)) (fun v1 M1 hq => ?_)
  obtain ⟨rfl, q1, q2, q3⟩ := hq
  have eM : absM M1 = absM M := absM_hi q3
  have hIM : IS (absM M1) B := by rw [eM, ← hA]; exact IC_IS hI
  refine R_aload_n (pc := 488) dL_law_488 rfl ?_
  refine L_aload (pc := 489) dL_law_489 rfl ?_
  refine R_iload_n (pc := 490) dL_law_490 rfl ?_
  refine R_iconst (pc := 491) dL_law_491 ?_
  refine R_iadd (pc := 492) dL_law_492 ?_
  refine L_iald (pc := 493) dL_law_493 (by omega) ?_
  refine R_V1 (pc := 494) dL_law_494 sv_RL_72 (j_crooks b SH M1 Hm_a hIM (scr xs (i + 1)) scr_R) (rfl : SH[72]? = some _) (Nat.le_of_ble_eq_true rfl) (rmL (by omega)) (fun v2 M2 hq2 => ?_)
  obtain ⟨rfl, p1, p2⟩ := hq2
  obtain ⟨i1, i2⟩ := IC_lo q2 (by omega) p2
  rw [eM, ← hA] at p1 ⊢
  refine R_same (pc := 497) (tgt := 937) dL_law_497 (by decide) ?_
  exact hgo M2 _ i1 (by rw [i2, q1, p1]) (by omega) (by omega)
theorem lc_milestone (hL : L ≤ 384) (hi : 0 ≤ i ∧ i + 6 ≤ (L : Int)) (hI : IC M B) (hA : absC M = absM M) (hB : 0 ≤ B ∧ B ≤ 80000) (hgo : Go bS L xs b i B) : LW bS L xs b i 502 [] M := by
  refine R_aload_n (pc := 502) dL_law_502 rfl ?_
  refine L_aload (pc := 503) dL_law_503 rfl ?_
  refine R_iload_n (pc := 504) dL_law_504 rfl ?_
  refine R_iconst (pc := 505) dL_law_505 ?_
  refine R_iadd (pc := 506) dL_law_506 ?_
  refine L_iald (pc := 507) dL_law_507 (by omega) ?_
  refine R_V1 (pc := 508) dL_law_508 sv_RL_73 (k_milestone b SH M Hc_a hI (scr xs (i + 1)) scr_R) (rfl : SH[0]? = some _) (Nat.le_of_ble_eq_true rfl) (rmL (by omega)) (fun v1 M1 hq => ?_)
  obtain ⟨rfl, q1, q2, q3⟩ := hq
  have eM : absM M1 = absM M := absM_hi q3
  have hIM : IS (absM M1) B := by rw [eM, ← hA]; exact IC_IS hI
  refine R_aload_n (pc := 511) dL_law_511 rfl ?_
  refine L_aload (pc := 512) dL_law_512 rfl ?_
  refine R_iload_n (pc := 513) dL_law_513 rfl ?_
  refine R_iconst (pc := 514) dL_law_514 ?_
  refine R_iadd (pc := 515) dL_law_515 ?_
  refine L_iald (pc := 516) dL_law_516 (by omega) ?_
  refine R_V1 (pc := 517) dL_law_517 sv_RL_76 (j_milestone b SH M1 Hm_a hIM (scr xs (i + 1)) scr_R) (rfl : SH[72]? = some _) (Nat.le_of_ble_eq_true rfl) (rmL (by omega)) (fun v2 M2 hq2 => ?_)
  obtain ⟨rfl, p1, p2⟩ := hq2
  obtain ⟨i1, i2⟩ := IC_lo q2 (by omega) p2
  rw [eM, ← hA] at p1 ⊢
  refine R_same (pc := 520) (tgt := 937) dL_law_520 (by decide) ?_
  exact hgo M2 _ i1 (by rw [i2, q1, p1]) (by omega) (by omega)
theorem lc_behind (hL : L ≤ 384) (hi : 0 ≤ i ∧ i + 6 ≤ (L : Int)) (hI : IC M B) (hA : absC M = absM M) (hB : 0 ≤ B ∧ B ≤ 80000) (hgo : Go bS L xs b i B) : LW bS L xs b i 525 [] M := by
  refine R_aload_n (pc := 525) dL_law_525 rfl ?_
  refine L_aload (pc := 526) dL_law_526 rfl ?_
  refine R_iload_n (pc := 527) dL_law_527 rfl ?_
  refine R_iconst (pc := 528) dL_law_528 ?_
  refine R_iadd (pc := 529) dL_law_529 ?_
  refine L_iald (pc := 530) dL_law_530 (by omega) ?_
  refine L_aload (pc := 531) dL_law_531 rfl ?_
  refine R_iload_n (pc := 532) dL_law_532 rfl ?_
  refine R_iconst (pc := 533) dL_law_533 ?_
  refine R_iadd (pc := 534) dL_law_534 ?_
  refine L_iald (pc := 535) dL_law_535 (by omega) ?_
  refine R_V2 (pc := 536) dL_law_536 sv_RL_77 (k_behind b SH M Hc_a hI (by omega) (scr xs (i + 1)) (scr xs (i + 2)) scr_R scr_R) (rfl : SH[0]? = some _) (Nat.le_of_ble_eq_true rfl) (rmL (by omega)) (fun v1 M1 hq => ?_)
  obtain ⟨rfl, q1, q2, q3⟩ := hq
  have eM : absM M1 = absM M := absM_hi q3
  have hIM : IS (absM M1) B := by rw [eM, ← hA]; exact IC_IS hI
  refine R_aload_n (pc := 539) dL_law_539 rfl ?_
  refine L_aload (pc := 540) dL_law_540 rfl ?_
  refine R_iload_n (pc := 541) dL_law_541 rfl ?_
  refine R_iconst (pc := 542) dL_law_542 ?_
  refine R_iadd (pc := 543) dL_law_543 ?_
  refine L_iald (pc := 544) dL_law_544 (by omega) ?_
  refine L_aload (pc := 545) dL_law_545 rfl ?_
  refine R_iload_n (pc := 546) dL_law_546 rfl ?_
  refine R_iconst (pc := 547) dL_law_547 ?_
  refine R_iadd (pc := 548) dL_law_548 ?_
  refine L_iald (pc := 549) dL_law_549 (by omega) ?_
  refine R_V2 (pc := 550) dL_law_550 sv_RL_80 (j_behind b SH M1 Hm_a hIM (by omega) (scr xs (i + 1)) (scr xs (i + 2)) scr_R scr_R) (rfl : SH[72]? = some _) (Nat.le_of_ble_eq_true rfl) (rmL (by omega)) (fun v2 M2 hq2 => ?_)
  obtain ⟨rfl, p1, p2⟩ := hq2
  obtain ⟨i1, i2⟩ := IC_lo q2 (by omega) p2
  rw [eM, ← hA] at p1 ⊢
  refine R_same (pc := 553) (tgt := 937) dL_law_553 (by decide) ?_
  exact hgo M2 _ i1 (by rw [i2, q1, p1]) (by omega) (by omega)
theorem lc_door (hL : L ≤ 384) (hi : 0 ≤ i ∧ i + 6 ≤ (L : Int)) (hI : IC M B) (hA : absC M = absM M) (hB : 0 ≤ B ∧ B ≤ 80000) (hgo : Go bS L xs b i B) : LW bS L xs b i 558 [] M := by
  refine R_aload_n (pc := 558) dL_law_558 rfl ?_
  refine L_aload (pc := 559) dL_law_559 rfl ?_
  refine R_iload_n (pc := 560) dL_law_560 rfl ?_
  refine R_iconst (pc := 561) dL_law_561 ?_
  refine R_iadd (pc := 562) dL_law_562 ?_
  refine L_iald (pc := 563) dL_law_563 (by omega) ?_
  refine L_aload (pc := 564) dL_law_564 rfl ?_
  refine R_iload_n (pc := 565) dL_law_565 rfl ?_
  refine R_iconst (pc := 566) dL_law_566 ?_
  refine R_iadd (pc := 567) dL_law_567 ?_
  refine L_iald (pc := 568) dL_law_568 (by omega) ?_
  refine L_aload (pc := 569) dL_law_569 rfl ?_
  refine R_iload_n (pc := 570) dL_law_570 rfl ?_
  refine R_iconst (pc := 571) dL_law_571 ?_
  refine R_iadd (pc := 572) dL_law_572 ?_
  refine L_iald (pc := 573) dL_law_573 (by omega) ?_
  refine R_V3 (pc := 574) dL_law_574 sv_RL_81 (k_door b SH M Hc_a hI (scr xs (i + 1)) (scr xs (i + 2)) (scr xs (i + 3)) scr_R scr_R scr_R) (rfl : SH[0]? = some _) (Nat.le_of_ble_eq_true rfl) (rmL (by omega)) (fun v1 M1 hq => ?_)
  obtain ⟨rfl, q1, q2, q3⟩ := hq
  have eM : absM M1 = absM M := absM_hi q3
  have hIM : IS (absM M1) B := by rw [eM, ← hA]; exact IC_IS hI
  refine R_aload_n (pc := 577) dL_law_577 rfl ?_
  refine L_aload (pc := 578) dL_law_578 rfl ?_
  refine R_iload_n (pc := 579) dL_law_579 rfl ?_
  refine R_iconst (pc := 580) dL_law_580 ?_
  refine R_iadd (pc := 581) dL_law_581 ?_
  refine L_iald (pc := 582) dL_law_582 (by omega) ?_
  refine L_aload (pc := 583) dL_law_583 rfl ?_
  refine R_iload_n (pc := 584) dL_law_584 rfl ?_
  refine R_iconst (pc := 585) dL_law_585 ?_
  refine R_iadd (pc := 586) dL_law_586 ?_
  refine L_iald (pc := 587) dL_law_587 (by omega) ?_
  refine L_aload (pc := 588) dL_law_588 rfl ?_
  refine R_iload_n (pc := 589) dL_law_589 rfl ?_
  refine R_iconst (pc := 590) dL_law_590 ?_
  refine R_iadd (pc := 591) dL_law_591 ?_
  refine L_iald (pc := 592) dL_law_592 (by omega) ?_
  refine R_V3 (pc := 593) dL_law_593 sv_RL_85 (j_door b SH M1 Hm_a hIM (scr xs (i + 1)) (scr xs (i + 2)) (scr xs (i + 3)) scr_R scr_R scr_R) (rfl : SH[72]? = some _) (Nat.le_of_ble_eq_true rfl) (rmL (by omega)) (fun v2 M2 hq2 => ?_)
  obtain ⟨rfl, p1, p2⟩ := hq2
  obtain ⟨i1, i2⟩ := IC_lo q2 (by omega) p2
  rw [eM, ← hA] at p1 ⊢
  refine R_same (pc := 596) (tgt := 937) dL_law_596 (by decide) ?_
  exact hgo M2 _ i1 (by rw [i2, q1, p1]) (by omega) (by omega)
theorem lc_mile (hL : L ≤ 384) (hi : 0 ≤ i ∧ i + 6 ≤ (L : Int)) (hI : IC M B) (hA : absC M = absM M) (hB : 0 ≤ B ∧ B ≤ 80000) (hgo : Go bS L xs b i B) : LW bS L xs b i 601 [] M := by
  refine R_aload_n (pc := 601) dL_law_601 rfl ?_
  refine L_aload (pc := 602) dL_law_602 rfl ?_
  refine R_iload_n (pc := 603) dL_law_603 rfl ?_
  refine R_iconst (pc := 604) dL_law_604 ?_
  refine R_iadd (pc := 605) dL_law_605 ?_
  refine L_iald (pc := 606) dL_law_606 (by omega) ?_
  refine R_V1 (pc := 607) dL_law_607 sv_RL_86 (k_mile b SH M Hc_a hI (scr xs (i + 1)) scr_R) (rfl : SH[0]? = some _) (Nat.le_of_ble_eq_true rfl) (rmL (by omega)) (fun v1 M1 hq => ?_)
  obtain ⟨rfl, q1, q2, q3⟩ := hq
  have eM : absM M1 = absM M := absM_hi q3
  have hIM : IS (absM M1) B := by rw [eM, ← hA]; exact IC_IS hI
  refine R_aload_n (pc := 610) dL_law_610 rfl ?_
  refine L_aload (pc := 611) dL_law_611 rfl ?_
  refine R_iload_n (pc := 612) dL_law_612 rfl ?_
  refine R_iconst (pc := 613) dL_law_613 ?_
  refine R_iadd (pc := 614) dL_law_614 ?_
  refine L_iald (pc := 615) dL_law_615 (by omega) ?_
  refine R_V1 (pc := 616) dL_law_616 sv_RL_89 (j_mile b SH M1 Hm_a hIM (scr xs (i + 1)) scr_R) (rfl : SH[72]? = some _) (Nat.le_of_ble_eq_true rfl) (rmL (by omega)) (fun v2 M2 hq2 => ?_)
  obtain ⟨rfl, p1, p2⟩ := hq2
  obtain ⟨i1, i2⟩ := IC_lo q2 (by omega) p2
  rw [eM, ← hA] at p1 ⊢
  refine R_same (pc := 619) (tgt := 937) dL_law_619 (by decide) ?_
  exact hgo M2 _ i1 (by rw [i2, q1, p1]) (by omega) (by omega)
theorem lc_window (hL : L ≤ 384) (hi : 0 ≤ i ∧ i + 6 ≤ (L : Int)) (hI : IC M B) (hA : absC M = absM M) (hB : 0 ≤ B ∧ B ≤ 80000) (hgo : Go bS L xs b i B) : LW bS L xs b i 624 [] M := by
  refine R_aload_n (pc := 624) dL_law_624 rfl ?_
  refine L_aload (pc := 625) dL_law_625 rfl ?_
  refine R_iload_n (pc := 626) dL_law_626 rfl ?_
  refine R_iconst (pc := 627) dL_law_627 ?_
  refine R_iadd (pc := 628) dL_law_628 ?_
  refine L_iald (pc := 629) dL_law_629 (by omega) ?_
  refine L_aload (pc := 630) dL_law_630 rfl ?_
  refine R_iload_n (pc := 631) dL_law_631 rfl ?_
  refine R_iconst (pc := 632) dL_law_632 ?_
  refine R_iadd (pc := 633) dL_law_633 ?_
  refine L_iald (pc := 634) dL_law_634 (by omega) ?_
  refine R_V2 (pc := 635) dL_law_635 sv_RL_90 (k_window b SH M Hc_a hI (by omega) (scr xs (i + 1)) (scr xs (i + 2)) scr_R scr_R) (rfl : SH[0]? = some _) (Nat.le_of_ble_eq_true rfl) (rmL (by omega)) (fun v1 M1 hq => ?_)
  obtain ⟨rfl, q1, q2, q3⟩ := hq
  have eM : absM M1 = absM M := absM_hi q3
  have hIM : IS (absM M1) B := by rw [eM, ← hA]; exact IC_IS hI
  refine R_aload_n (pc := 638) dL_law_638 rfl ?_
  refine L_aload (pc := 639) dL_law_639 rfl ?_
  refine R_iload_n (pc := 640) dL_law_640 rfl ?_
  refine R_iconst (pc := 641) dL_law_641 ?_
  refine R_iadd (pc := 642) dL_law_642 ?_
  refine L_iald (pc := 643) dL_law_643 (by omega) ?_
  refine L_aload (pc := 644) dL_law_644 rfl ?_
  refine R_iload_n (pc := 645) dL_law_645 rfl ?_
  refine R_iconst (pc := 646) dL_law_646 ?_
  refine R_iadd (pc := 647) dL_law_647 ?_
  refine L_iald (pc := 648) dL_law_648 (by omega) ?_
  refine R_V2 (pc := 649) dL_law_649 sv_RL_93 (j_window b SH M1 Hm_a hIM (by omega) (scr xs (i + 1)) (scr xs (i + 2)) scr_R scr_R) (rfl : SH[72]? = some _) (Nat.le_of_ble_eq_true rfl) (rmL (by omega)) (fun v2 M2 hq2 => ?_)
  obtain ⟨rfl, p1, p2⟩ := hq2
  obtain ⟨i1, i2⟩ := IC_lo q2 (by omega) p2
  rw [eM, ← hA] at p1 ⊢
  refine R_same (pc := 652) (tgt := 937) dL_law_652 (by decide) ?_
  exact hgo M2 _ i1 (by rw [i2, q1, p1]) (by omega) (by omega)
theorem lc_bent (hL : L ≤ 384) (hi : 0 ≤ i ∧ i + 6 ≤ (L : Int)) (hI : IC M B) (hA : absC M = absM M) (hB : 0 ≤ B ∧ B ≤ 80000) (hgo : Go bS L xs b i B) : LW bS L xs b i 657 [] M := by
  refine R_aload_n (pc := 657) dL_law_657 rfl ?_
  refine L_aload (pc := 658) dL_law_658 rfl ?_
  refine R_iload_n (pc := 659) dL_law_659 rfl ?_
  refine R_iconst (pc := 660) dL_law_660 ?_
  refine R_iadd (pc := 661) dL_law_661 ?_
  refine L_iald (pc := 662) dL_law_662 (by omega) ?_
  refine L_aload (pc := 663) dL_law_663 rfl ?_
  refine R_iload_n (pc := 664) dL_law_664 rfl ?_
  refine R_iconst (pc := 665) dL_law_665 ?_
  refine R_iadd (pc := 666) dL_law_666 ?_
  refine L_iald (pc := 667) dL_law_667 (by omega) ?_
  refine R_V2 (pc := 668) dL_law_668 sv_RL_94 (k_bent b SH M Hc_a hI (scr xs (i + 1)) (scr xs (i + 2)) scr_R scr_R) (rfl : SH[0]? = some _) (Nat.le_of_ble_eq_true rfl) (rmL (by omega)) (fun v1 M1 hq => ?_)
  obtain ⟨rfl, q1, q2, q3⟩ := hq
  have eM : absM M1 = absM M := absM_hi q3
  have hIM : IS (absM M1) B := by rw [eM, ← hA]; exact IC_IS hI
  refine R_aload_n (pc := 671) dL_law_671 rfl ?_
  refine L_aload (pc := 672) dL_law_672 rfl ?_
  refine R_iload_n (pc := 673) dL_law_673 rfl ?_
  refine R_iconst (pc := 674) dL_law_674 ?_
  refine R_iadd (pc := 675) dL_law_675 ?_
  refine L_iald (pc := 676) dL_law_676 (by omega) ?_
  refine L_aload (pc := 677) dL_law_677 rfl ?_
  refine R_iload_n (pc := 678) dL_law_678 rfl ?_
  refine R_iconst (pc := 679) dL_law_679 ?_
  refine R_iadd (pc := 680) dL_law_680 ?_
  refine L_iald (pc := 681) dL_law_681 (by omega) ?_
  refine R_V2 (pc := 682) dL_law_682 sv_RL_97 (j_bent b SH M1 Hm_a hIM (scr xs (i + 1)) (scr xs (i + 2)) scr_R scr_R) (rfl : SH[72]? = some _) (Nat.le_of_ble_eq_true rfl) (rmL (by omega)) (fun v2 M2 hq2 => ?_)
  obtain ⟨rfl, p1, p2⟩ := hq2
  obtain ⟨i1, i2⟩ := IC_lo q2 (by omega) p2
  rw [eM, ← hA] at p1 ⊢
  refine R_same (pc := 685) (tgt := 937) dL_law_685 (by decide) ?_
  exact hgo M2 _ i1 (by rw [i2, q1, p1]) (by omega) (by omega)
theorem lc_found (hL : L ≤ 384) (hi : 0 ≤ i ∧ i + 6 ≤ (L : Int)) (hI : IC M B) (hA : absC M = absM M) (hB : 0 ≤ B ∧ B ≤ 80000) (hgo : Go bS L xs b i B) : LW bS L xs b i 690 [] M := by
  refine R_aload_n (pc := 690) dL_law_690 rfl ?_
  refine L_aload (pc := 691) dL_law_691 rfl ?_
  refine R_iload_n (pc := 692) dL_law_692 rfl ?_
  refine R_iconst (pc := 693) dL_law_693 ?_
  refine R_iadd (pc := 694) dL_law_694 ?_
  refine L_iald (pc := 695) dL_law_695 (by omega) ?_
  refine L_aload (pc := 696) dL_law_696 rfl ?_
  refine R_iload_n (pc := 697) dL_law_697 rfl ?_
  refine R_iconst (pc := 698) dL_law_698 ?_
  refine R_iadd (pc := 699) dL_law_699 ?_
  refine L_iald (pc := 700) dL_law_700 (by omega) ?_
  refine L_aload (pc := 701) dL_law_701 rfl ?_
  refine R_iload_n (pc := 702) dL_law_702 rfl ?_
  refine R_iconst (pc := 703) dL_law_703 ?_
  refine R_iadd (pc := 704) dL_law_704 ?_
  refine L_iald (pc := 705) dL_law_705 (by omega) ?_
  refine R_V3 (pc := 706) dL_law_706 sv_RL_98 (k_found b SH M Hc_a hI (scr xs (i + 1)) (scr xs (i + 2)) (scr xs (i + 3)) scr_R scr_R scr_R) (rfl : SH[0]? = some _) (Nat.le_of_ble_eq_true rfl) (rmL (by omega)) (fun v1 M1 hq => ?_)
  obtain ⟨rfl, q1, q2, q3⟩ := hq
  have eM : absM M1 = absM M := absM_hi q3
  have hIM : IS (absM M1) B := by rw [eM, ← hA]; exact IC_IS hI
  refine R_aload_n (pc := 709) dL_law_709 rfl ?_
  refine L_aload (pc := 710) dL_law_710 rfl ?_
  refine R_iload_n (pc := 711) dL_law_711 rfl ?_
  refine R_iconst (pc := 712) dL_law_712 ?_
  refine R_iadd (pc := 713) dL_law_713 ?_
  refine L_iald (pc := 714) dL_law_714 (by omega) ?_
  refine L_aload (pc := 715) dL_law_715 rfl ?_
  refine R_iload_n (pc := 716) dL_law_716 rfl ?_
  refine R_iconst (pc := 717) dL_law_717 ?_
  refine R_iadd (pc := 718) dL_law_718 ?_
  refine L_iald (pc := 719) dL_law_719 (by omega) ?_
  refine L_aload (pc := 720) dL_law_720 rfl ?_
  refine R_iload_n (pc := 721) dL_law_721 rfl ?_
  refine R_iconst (pc := 722) dL_law_722 ?_
  refine R_iadd (pc := 723) dL_law_723 ?_
  refine L_iald (pc := 724) dL_law_724 (by omega) ?_
  refine R_V3 (pc := 725) dL_law_725 sv_RL_101 (j_found b SH M1 Hm_a hIM (scr xs (i + 1)) (scr xs (i + 2)) (scr xs (i + 3)) scr_R scr_R scr_R) (rfl : SH[72]? = some _) (Nat.le_of_ble_eq_true rfl) (rmL (by omega)) (fun v2 M2 hq2 => ?_)
  obtain ⟨rfl, p1, p2⟩ := hq2
  obtain ⟨i1, i2⟩ := IC_lo q2 (by omega) p2
  rw [eM, ← hA] at p1 ⊢
  refine R_same (pc := 728) (tgt := 937) dL_law_728 (by decide) ?_
  exact hgo M2 _ i1 (by rw [i2, q1, p1]) (by omega) (by omega)
theorem lc_forget (hL : L ≤ 384) (hi : 0 ≤ i ∧ i + 6 ≤ (L : Int)) (hI : IC M B) (hA : absC M = absM M) (hB : 0 ≤ B ∧ B ≤ 80000) (hgo : Go bS L xs b i B) : LW bS L xs b i 733 [] M := by
  refine R_aload_n (pc := 733) dL_law_733 rfl ?_
  refine R_V0 (pc := 734) dL_law_734 sv_RL_102 (k_forget b SH M Hc_a hI ) (rfl : SH[0]? = some _) (Nat.le_of_ble_eq_true rfl) (rmL (by omega)) (fun v1 M1 hq => ?_)
  obtain ⟨rfl, q1, q2, q3⟩ := hq
  have eM : absM M1 = absM M := absM_hi q3
  have hIM : IS (absM M1) B := by rw [eM, ← hA]; exact IC_IS hI
  refine R_aload_n (pc := 737) dL_law_737 rfl ?_
  refine R_V0 (pc := 738) dL_law_738 sv_RL_105 (j_forget b SH M1 Hm_a hIM ) (rfl : SH[72]? = some _) (Nat.le_of_ble_eq_true rfl) (rmL (by omega)) (fun v2 M2 hq2 => ?_)
  obtain ⟨rfl, p1, p2⟩ := hq2
  obtain ⟨i1, i2⟩ := IC_lo q2 (by omega) p2
  rw [eM, ← hA] at p1 ⊢
  refine R_same (pc := 741) (tgt := 937) dL_law_741 (by decide) ?_
  exact hgo M2 _ i1 (by rw [i2, q1, p1]) (by omega) (by omega)
theorem lc_looked (hL : L ≤ 384) (hi : 0 ≤ i ∧ i + 6 ≤ (L : Int)) (hI : IC M B) (hA : absC M = absM M) (hB : 0 ≤ B ∧ B ≤ 80000) (hgo : Go bS L xs b i B) : LW bS L xs b i 746 [] M := by
  refine R_aload_n (pc := 746) dL_law_746 rfl ?_
  refine L_aload (pc := 747) dL_law_747 rfl ?_
  refine R_iload_n (pc := 748) dL_law_748 rfl ?_
  refine R_iconst (pc := 749) dL_law_749 ?_
  refine R_iadd (pc := 750) dL_law_750 ?_
  refine L_iald (pc := 751) dL_law_751 (by omega) ?_
  refine R_V1 (pc := 752) dL_law_752 sv_RL_106 (k_looked b SH M Hc_a hI (scr xs (i + 1)) scr_R) (rfl : SH[0]? = some _) (Nat.le_of_ble_eq_true rfl) (rmL (by omega)) (fun v1 M1 hq => ?_)
  obtain ⟨rfl, q1, q2, q3⟩ := hq
  have eM : absM M1 = absM M := absM_hi q3
  have hIM : IS (absM M1) B := by rw [eM, ← hA]; exact IC_IS hI
  refine R_aload_n (pc := 755) dL_law_755 rfl ?_
  refine L_aload (pc := 756) dL_law_756 rfl ?_
  refine R_iload_n (pc := 757) dL_law_757 rfl ?_
  refine R_iconst (pc := 758) dL_law_758 ?_
  refine R_iadd (pc := 759) dL_law_759 ?_
  refine L_iald (pc := 760) dL_law_760 (by omega) ?_
  refine R_V1 (pc := 761) dL_law_761 sv_RL_109 (j_looked b SH M1 Hm_a hIM (scr xs (i + 1)) scr_R) (rfl : SH[72]? = some _) (Nat.le_of_ble_eq_true rfl) (rmL (by omega)) (fun v2 M2 hq2 => ?_)
  obtain ⟨rfl, p1, p2⟩ := hq2
  obtain ⟨i1, i2⟩ := IC_lo q2 (by omega) p2
  rw [eM, ← hA] at p1 ⊢
  refine R_same (pc := 764) (tgt := 937) dL_law_764 (by decide) ?_
  exact hgo M2 _ i1 (by rw [i2, q1, p1]) (by omega) (by omega)
theorem lc_fog (hL : L ≤ 384) (hi : 0 ≤ i ∧ i + 6 ≤ (L : Int)) (hI : IC M B) (hA : absC M = absM M) (hB : 0 ≤ B ∧ B ≤ 80000) (hgo : Go bS L xs b i B) : LW bS L xs b i 769 [] M := by
  refine R_aload_n (pc := 769) dL_law_769 rfl ?_
  refine R_V0 (pc := 770) dL_law_770 sv_RL_110 (k_fog b SH M Hc_a hI (by omega)) (rfl : SH[0]? = some _) (Nat.le_of_ble_eq_true rfl) (rmL (by omega)) (fun v1 M1 hq => ?_)
  obtain ⟨rfl, q1, q2, q3⟩ := hq
  have eM : absM M1 = absM M := absM_hi q3
  have hIM : IS (absM M1) B := by rw [eM, ← hA]; exact IC_IS hI
  refine R_aload_n (pc := 773) dL_law_773 rfl ?_
  refine R_V0 (pc := 774) dL_law_774 sv_RL_113 (j_fog b SH M1 Hm_a hIM (by omega)) (rfl : SH[72]? = some _) (Nat.le_of_ble_eq_true rfl) (rmL (by omega)) (fun v2 M2 hq2 => ?_)
  obtain ⟨rfl, p1, p2⟩ := hq2
  obtain ⟨i1, i2⟩ := IC_lo q2 (by omega) p2
  rw [eM, ← hA] at p1 ⊢
  refine R_same (pc := 777) (tgt := 937) dL_law_777 (by decide) ?_
  exact hgo M2 _ i1 (by rw [i2, q1, p1]) (by omega) (by omega)
theorem lc_parishes (hL : L ≤ 384) (hi : 0 ≤ i ∧ i + 6 ≤ (L : Int)) (hI : IC M B) (hA : absC M = absM M) (hB : 0 ≤ B ∧ B ≤ 80000) (hgo : Go bS L xs b i B) : LW bS L xs b i 782 [] M := by
  refine R_aload_n (pc := 782) dL_law_782 rfl ?_
  refine L_aload (pc := 783) dL_law_783 rfl ?_
  refine R_iload_n (pc := 784) dL_law_784 rfl ?_
  refine R_iconst (pc := 785) dL_law_785 ?_
  refine R_iadd (pc := 786) dL_law_786 ?_
  refine L_iald (pc := 787) dL_law_787 (by omega) ?_
  refine L_aload (pc := 788) dL_law_788 rfl ?_
  refine R_iload_n (pc := 789) dL_law_789 rfl ?_
  refine R_iconst (pc := 790) dL_law_790 ?_
  refine R_iadd (pc := 791) dL_law_791 ?_
  refine L_iald (pc := 792) dL_law_792 (by omega) ?_
  refine L_aload (pc := 793) dL_law_793 rfl ?_
  refine R_iload_n (pc := 794) dL_law_794 rfl ?_
  refine R_iconst (pc := 795) dL_law_795 ?_
  refine R_iadd (pc := 796) dL_law_796 ?_
  refine L_iald (pc := 797) dL_law_797 (by omega) ?_
  refine L_aload (pc := 798) dL_law_798 rfl ?_
  refine R_iload_n (pc := 799) dL_law_799 rfl ?_
  refine R_iconst (pc := 800) dL_law_800 ?_
  refine R_iadd (pc := 801) dL_law_801 ?_
  refine L_iald (pc := 802) dL_law_802 (by omega) ?_
  refine L_aload (pc := 803) dL_law_803 rfl ?_
  refine R_iload_n (pc := 804) dL_law_804 rfl ?_
  refine R_iconst (pc := 805) dL_law_805 ?_
  refine R_iadd (pc := 806) dL_law_806 ?_
  refine L_iald (pc := 807) dL_law_807 (by omega) ?_
  refine R_V5 (pc := 808) dL_law_808 sv_RL_114 (k_parishes b SH M Hc_a hI (scr xs (i + 1)) (scr xs (i + 2)) (scr xs (i + 3)) (scr xs (i + 4)) (scr xs (i + 5)) scr_R scr_R scr_R scr_R scr_R) (rfl : SH[0]? = some _) (Nat.le_of_ble_eq_true rfl) (rmL (by omega)) (fun v1 M1 hq => ?_)
  obtain ⟨rfl, q1, q2, q3⟩ := hq
  have eM : absM M1 = absM M := absM_hi q3
  have hIM : IS (absM M1) B := by rw [eM, ← hA]; exact IC_IS hI
  refine R_aload_n (pc := 811) dL_law_811 rfl ?_
  refine L_aload (pc := 812) dL_law_812 rfl ?_
  refine R_iload_n (pc := 813) dL_law_813 rfl ?_
  refine R_iconst (pc := 814) dL_law_814 ?_
  refine R_iadd (pc := 815) dL_law_815 ?_
  refine L_iald (pc := 816) dL_law_816 (by omega) ?_
  refine L_aload (pc := 817) dL_law_817 rfl ?_
  refine R_iload_n (pc := 818) dL_law_818 rfl ?_
  refine R_iconst (pc := 819) dL_law_819 ?_
  refine R_iadd (pc := 820) dL_law_820 ?_
  refine L_iald (pc := 821) dL_law_821 (by omega) ?_
  refine L_aload (pc := 822) dL_law_822 rfl ?_
  refine R_iload_n (pc := 823) dL_law_823 rfl ?_
  refine R_iconst (pc := 824) dL_law_824 ?_
  refine R_iadd (pc := 825) dL_law_825 ?_
  refine L_iald (pc := 826) dL_law_826 (by omega) ?_
  refine L_aload (pc := 827) dL_law_827 rfl ?_
  refine R_iload_n (pc := 828) dL_law_828 rfl ?_
  refine R_iconst (pc := 829) dL_law_829 ?_
  refine R_iadd (pc := 830) dL_law_830 ?_
  refine L_iald (pc := 831) dL_law_831 (by omega) ?_
  refine L_aload (pc := 832) dL_law_832 rfl ?_
  refine R_iload_n (pc := 833) dL_law_833 rfl ?_
  refine R_iconst (pc := 834) dL_law_834 ?_
  refine R_iadd (pc := 835) dL_law_835 ?_
  refine L_iald (pc := 836) dL_law_836 (by omega) ?_
  refine R_V5 (pc := 837) dL_law_837 sv_RL_118 (j_parishes b SH M1 Hm_a hIM (scr xs (i + 1)) (scr xs (i + 2)) (scr xs (i + 3)) (scr xs (i + 4)) (scr xs (i + 5)) scr_R scr_R scr_R scr_R scr_R) (rfl : SH[72]? = some _) (Nat.le_of_ble_eq_true rfl) (rmL (by omega)) (fun v2 M2 hq2 => ?_)
  obtain ⟨rfl, p1, p2⟩ := hq2
  obtain ⟨i1, i2⟩ := IC_lo q2 (by omega) p2
  rw [eM, ← hA] at p1 ⊢
  refine R_same (pc := 840) (tgt := 937) dL_law_840 (by decide) ?_
  exact hgo M2 _ i1 (by rw [i2, q1, p1]) (by omega) (by omega)
theorem lc_year (hL : L ≤ 384) (hi : 0 ≤ i ∧ i + 6 ≤ (L : Int)) (hI : IC M B) (hA : absC M = absM M) (hB : 0 ≤ B ∧ B ≤ 80000) (hgo : Go bS L xs b i B) : LW bS L xs b i 845 [] M := by
  refine R_aload_n (pc := 845) dL_law_845 rfl ?_
  refine L_aload (pc := 846) dL_law_846 rfl ?_
  refine R_iload_n (pc := 847) dL_law_847 rfl ?_
  refine R_iconst (pc := 848) dL_law_848 ?_
  refine R_iadd (pc := 849) dL_law_849 ?_
  refine L_iald (pc := 850) dL_law_850 (by omega) ?_
  refine L_aload (pc := 851) dL_law_851 rfl ?_
  refine R_iload_n (pc := 852) dL_law_852 rfl ?_
  refine R_iconst (pc := 853) dL_law_853 ?_
  refine R_iadd (pc := 854) dL_law_854 ?_
  refine L_iald (pc := 855) dL_law_855 (by omega) ?_
  refine L_aload (pc := 856) dL_law_856 rfl ?_
  refine R_iload_n (pc := 857) dL_law_857 rfl ?_
  refine R_iconst (pc := 858) dL_law_858 ?_
  refine R_iadd (pc := 859) dL_law_859 ?_
  refine L_iald (pc := 860) dL_law_860 (by omega) ?_
  refine R_V3 (pc := 861) dL_law_861 sv_RL_119 (k_year b SH M Hc_a hI (by omega) (scr xs (i + 1)) (scr xs (i + 2)) (scr xs (i + 3)) scr_R scr_R scr_R) (rfl : SH[0]? = some _) (Nat.le_of_ble_eq_true rfl) (rmL (by omega)) (fun v1 M1 hq => ?_)
  obtain ⟨rfl, q1, q2, q3⟩ := hq
  have eM : absM M1 = absM M := absM_hi q3
  have hIM : IS (absM M1) B := by rw [eM, ← hA]; exact IC_IS hI
  refine R_aload_n (pc := 864) dL_law_864 rfl ?_
  refine L_aload (pc := 865) dL_law_865 rfl ?_
  refine R_iload_n (pc := 866) dL_law_866 rfl ?_
  refine R_iconst (pc := 867) dL_law_867 ?_
  refine R_iadd (pc := 868) dL_law_868 ?_
  refine L_iald (pc := 869) dL_law_869 (by omega) ?_
  refine L_aload (pc := 870) dL_law_870 rfl ?_
  refine R_iload_n (pc := 871) dL_law_871 rfl ?_
  refine R_iconst (pc := 872) dL_law_872 ?_
  refine R_iadd (pc := 873) dL_law_873 ?_
  refine L_iald (pc := 874) dL_law_874 (by omega) ?_
  refine L_aload (pc := 875) dL_law_875 rfl ?_
  refine R_iload_n (pc := 876) dL_law_876 rfl ?_
  refine R_iconst (pc := 877) dL_law_877 ?_
  refine R_iadd (pc := 878) dL_law_878 ?_
  refine L_iald (pc := 879) dL_law_879 (by omega) ?_
  refine R_V3 (pc := 880) dL_law_880 sv_RL_122 (j_year b SH M1 Hm_a hIM (by omega) (scr xs (i + 1)) (scr xs (i + 2)) (scr xs (i + 3)) scr_R scr_R scr_R) (rfl : SH[72]? = some _) (Nat.le_of_ble_eq_true rfl) (rmL (by omega)) (fun v2 M2 hq2 => ?_)
  obtain ⟨rfl, p1, p2⟩ := hq2
  obtain ⟨i1, i2⟩ := IC_lo q2 (by omega) p2
  rw [eM, ← hA] at p1 ⊢
  refine R_same (pc := 883) (tgt := 937) dL_law_883 (by decide) ?_
  exact hgo M2 _ i1 (by rw [i2, q1, p1]) (by omega) (by omega)
theorem lc_keep (hL : L ≤ 384) (hi : 0 ≤ i ∧ i + 6 ≤ (L : Int)) (hI : IC M B) (hA : absC M = absM M) (hB : 0 ≤ B ∧ B ≤ 80000) (hgo : Go bS L xs b i B) : LW bS L xs b i 888 [] M := by
  refine R_aload_n (pc := 888) dL_law_888 rfl ?_
  refine R_V0 (pc := 889) dL_law_889 sv_RL_123 (k_keep b SH M Hc_a hI ) (rfl : SH[0]? = some _) (Nat.le_of_ble_eq_true rfl) (rmL (by omega)) (fun v1 M1 hq => ?_)
  obtain ⟨rfl, q1, q2, q3⟩ := hq
  have eM : absM M1 = absM M := absM_hi q3
  have hIM : IS (absM M1) B := by rw [eM, ← hA]; exact IC_IS hI
  refine R_aload_n (pc := 892) dL_law_892 rfl ?_
  refine R_V0 (pc := 893) dL_law_893 sv_RL_126 (j_keep b SH M1 Hm_a hIM ) (rfl : SH[72]? = some _) (Nat.le_of_ble_eq_true rfl) (rmL (by omega)) (fun v2 M2 hq2 => ?_)
  obtain ⟨rfl, p1, p2⟩ := hq2
  obtain ⟨i1, i2⟩ := IC_lo q2 (by omega) p2
  rw [eM, ← hA] at p1 ⊢
  refine R_same (pc := 896) (tgt := 937) dL_law_896 (by decide) ?_
  exact hgo M2 _ i1 (by rw [i2, q1, p1]) (by omega) (by omega)
theorem lc_back (hL : L ≤ 384) (hi : 0 ≤ i ∧ i + 6 ≤ (L : Int)) (hI : IC M B) (hA : absC M = absM M) (hB : 0 ≤ B ∧ B ≤ 80000) (hgo : Go bS L xs b i B) : LW bS L xs b i 901 [] M := by
  refine R_aload_n (pc := 901) dL_law_901 rfl ?_
  refine R_V0 (pc := 902) dL_law_902 sv_RL_127 (k_back b SH M Hc_a hI ) (rfl : SH[0]? = some _) (Nat.le_of_ble_eq_true rfl) (rmL (by omega)) (fun v1 M1 hq => ?_)
  obtain ⟨rfl, q1, q2, q3⟩ := hq
  have eM : absM M1 = absM M := absM_hi q3
  have hIM : IS (absM M1) B := by rw [eM, ← hA]; exact IC_IS hI
  refine R_aload_n (pc := 905) dL_law_905 rfl ?_
  refine R_V0 (pc := 906) dL_law_906 sv_RL_130 (j_back b SH M1 Hm_a hIM ) (rfl : SH[72]? = some _) (Nat.le_of_ble_eq_true rfl) (rmL (by omega)) (fun v2 M2 hq2 => ?_)
  obtain ⟨rfl, p1, p2⟩ := hq2
  obtain ⟨i1, i2⟩ := IC_lo q2 (by omega) p2
  rw [eM, ← hA] at p1 ⊢
  refine R_same (pc := 909) (tgt := 937) dL_law_909 (by decide) ?_
  exact hgo M2 _ i1 (by rw [i2, q1, p1]) (by omega) (by omega)
theorem lc_count (hL : L ≤ 384) (hi : 0 ≤ i ∧ i + 6 ≤ (L : Int)) (hI : IC M B) (hA : absC M = absM M) (hB : 0 ≤ B ∧ B ≤ 80000) (hgo : Go bS L xs b i B) : LW bS L xs b i 914 [] M := by
  refine R_aload_n (pc := 914) dL_law_914 rfl ?_
  refine L_aload (pc := 915) dL_law_915 rfl ?_
  refine R_iload_n (pc := 916) dL_law_916 rfl ?_
  refine R_iconst (pc := 917) dL_law_917 ?_
  refine R_iadd (pc := 918) dL_law_918 ?_
  refine L_iald (pc := 919) dL_law_919 (by omega) ?_
  refine R_V1 (pc := 920) dL_law_920 sv_RL_131 (k_count b SH M Hc_a hI (scr xs (i + 1)) scr_R) (rfl : SH[0]? = some _) (Nat.le_of_ble_eq_true rfl) (rmL (by omega)) (fun v1 M1 hq => ?_)
  obtain ⟨rfl, q1, q2, q3⟩ := hq
  have eM : absM M1 = absM M := absM_hi q3
  have hIM : IS (absM M1) B := by rw [eM, ← hA]; exact IC_IS hI
  refine R_aload_n (pc := 923) dL_law_923 rfl ?_
  refine L_aload (pc := 924) dL_law_924 rfl ?_
  refine R_iload_n (pc := 925) dL_law_925 rfl ?_
  refine R_iconst (pc := 926) dL_law_926 ?_
  refine R_iadd (pc := 927) dL_law_927 ?_
  refine L_iald (pc := 928) dL_law_928 (by omega) ?_
  refine R_V1 (pc := 929) dL_law_929 sv_RL_134 (j_count b SH M1 Hm_a hIM (scr xs (i + 1)) scr_R) (rfl : SH[72]? = some _) (Nat.le_of_ble_eq_true rfl) (rmL (by omega)) (fun v2 M2 hq2 => ?_)
  obtain ⟨rfl, p1, p2⟩ := hq2
  obtain ⟨i1, i2⟩ := IC_lo q2 (by omega) p2
  rw [eM, ← hA] at p1 ⊢
  refine R_same (pc := 932) (tgt := 937) dL_law_932 (by decide) ?_
  exact hgo M2 _ i1 (by rw [i2, q1, p1]) (by omega) (by omega)
end LC
