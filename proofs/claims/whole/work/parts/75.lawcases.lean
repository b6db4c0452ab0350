set_option maxRecDepth 20000 in
theorem lc_0 {X : ZX} {L : Nat} {xs : Nat → Int32} (hX : LX X L xs) {i : Int} (hi : 0 ≤ i ∧ i + 5 ≤ L) {μ : Mem} (H : REL μ) (hN : ∀ m, REL m → V X mL_law 1117 [vs 10, vr 0, vr 256, vi i] [] m) : V X mL_law 172 [vs 10, vr 0, vr 256, vi i] [] μ := by
  obtain ⟨v, Q1, s1, s2⟩ := a_feed H (n := (xs (i + 1).toNat).toInt) (b := lorr (lshl (xs (i + 2).toNat).toInt 32) (landd (xs (i + 3).toNat).toInt 4294967295)) (zi_rg _)
  refine V_aloadn (pc := 172) dL_law_172 rfl ?_
  refine V_sloadn (pc := 173) dL_law_173 rfl ?_
  refine V_iloadn (pc := 174) dL_law_174 rfl ?_
  refine V_iconst (pc := 175) dL_law_175 ?_
  refine V_iadd (pc := 176) dL_law_176 ?_
  refine V_xld (pc := 177) dL_law_177 hX (by omega) (by omega) ?_
  refine V_sloadn (pc := 178) dL_law_178 rfl ?_
  refine V_iloadn (pc := 179) dL_law_179 rfl ?_
  refine V_iconst (pc := 180) dL_law_180 ?_
  refine V_iadd (pc := 181) dL_law_181 ?_
  refine V_xld (pc := 182) dL_law_182 hX (by omega) (by omega) ?_
  refine V_i2l (pc := 183) dL_law_183 (zi_rg _) ?_
  refine V_bipush (pc := 184) dL_law_184 (by decide +kernel) ?_
  refine V_lshl (pc := 186) dL_law_186 ?_
  refine V_sloadn (pc := 187) dL_law_187 rfl ?_
  refine V_iloadn (pc := 188) dL_law_188 rfl ?_
  refine V_iconst (pc := 189) dL_law_189 ?_
  refine V_iadd (pc := 190) dL_law_190 ?_
  refine V_xld (pc := 191) dL_law_191 hX (by omega) (by omega) ?_
  refine V_i2l (pc := 192) dL_law_192 (zi_rg _) ?_
  refine V_ldc2 (pc := 193) (n := 4294967295) dL_law_193 nL_13 (by decide) ?_
  refine V_land (pc := 196) dL_law_196 ?_
  refine V_lor (pc := 197) dL_law_197 ?_
  refine V_cq2 (pc := 198) dL_law_198 kL_15 zk_0 (by decide) (Nat.le_of_ble_eq_true rfl) s1 ?_
  intro w m hm
  obtain ⟨rfl, Q2, s3, s4⟩ := s2 w m hm
  show V X _ _ _ (vi v :: _) m
  refine V_aloadn (pc := 201) dL_law_201 rfl ?_
  refine V_sloadn (pc := 202) dL_law_202 rfl ?_
  refine V_iloadn (pc := 203) dL_law_203 rfl ?_
  refine V_iconst (pc := 204) dL_law_204 ?_
  refine V_iadd (pc := 205) dL_law_205 ?_
  refine V_xld (pc := 206) dL_law_206 hX (by omega) (by omega) ?_
  refine V_sloadn (pc := 207) dL_law_207 rfl ?_
  refine V_iloadn (pc := 208) dL_law_208 rfl ?_
  refine V_iconst (pc := 209) dL_law_209 ?_
  refine V_iadd (pc := 210) dL_law_210 ?_
  refine V_xld (pc := 211) dL_law_211 hX (by omega) (by omega) ?_
  refine V_i2l (pc := 212) dL_law_212 (zi_rg _) ?_
  refine V_bipush (pc := 213) dL_law_213 (by decide +kernel) ?_
  refine V_lshl (pc := 215) dL_law_215 ?_
  refine V_sloadn (pc := 216) dL_law_216 rfl ?_
  refine V_iloadn (pc := 217) dL_law_217 rfl ?_
  refine V_iconst (pc := 218) dL_law_218 ?_
  refine V_iadd (pc := 219) dL_law_219 ?_
  refine V_xld (pc := 220) dL_law_220 hX (by omega) (by omega) ?_
  refine V_i2l (pc := 221) dL_law_221 (zi_rg _) ?_
  refine V_ldc2 (pc := 222) (n := 4294967295) dL_law_222 nL_13 (by decide) ?_
  refine V_land (pc := 225) dL_law_225 ?_
  refine V_lor (pc := 226) dL_law_226 ?_
  refine V_cq2 (pc := 227) dL_law_227 kL_19 zk_256 (by decide) (Nat.le_of_ble_eq_true rfl) s3 ?_
  intro w2 m2 hm2
  obtain ⟨rfl, H2⟩ := s4 w2 m2 hm2
  show V X _ _ _ (vi v :: vi v :: _) m2
  refine V_same (pc := 230) (tgt := 1117) dL_law_230 (by decide) ?_
  exact hN _ H2

set_option maxRecDepth 20000 in
theorem lc_1 {X : ZX} {L : Nat} {xs : Nat → Int32} (hX : LX X L xs) {i : Int} (hi : 0 ≤ i ∧ i + 5 ≤ L) {μ : Mem} (H : REL μ) (hN : ∀ m, REL m → V X mL_law 1117 [vs 10, vr 0, vr 256, vi i] [] m) : V X mL_law 235 [vs 10, vr 0, vr 256, vi i] [] μ := by
  obtain ⟨v, Q1, s1, s2⟩ := a_land H  
  refine V_aloadn (pc := 235) dL_law_235 rfl ?_
  refine V_cq0 (pc := 236) dL_law_236 kL_20 zk_0 (by decide) (Nat.le_of_ble_eq_true rfl) s1 ?_
  intro w m hm
  obtain ⟨rfl, Q2, s3, s4⟩ := s2 w m hm
  show V X _ _ _ (vi v :: _) m
  refine V_aloadn (pc := 239) dL_law_239 rfl ?_
  refine V_cq0 (pc := 240) dL_law_240 kL_24 zk_256 (by decide) (Nat.le_of_ble_eq_true rfl) s3 ?_
  intro w2 m2 hm2
  obtain ⟨rfl, H2⟩ := s4 w2 m2 hm2
  show V X _ _ _ (vi v :: vi v :: _) m2
  refine V_same (pc := 243) (tgt := 1117) dL_law_243 (by decide) ?_
  exact hN _ H2

set_option maxRecDepth 20000 in
theorem lc_2 {X : ZX} {L : Nat} {xs : Nat → Int32} (hX : LX X L xs) {i : Int} (hi : 0 ≤ i ∧ i + 5 ≤ L) {μ : Mem} (H : REL μ) (hN : ∀ m, REL m → V X mL_law 1117 [vs 10, vr 0, vr 256, vi i] [] m) : V X mL_law 248 [vs 10, vr 0, vr 256, vi i] [] μ := by
  obtain ⟨v, Q1, s1, s2⟩ := a_fault H  
  refine V_aloadn (pc := 248) dL_law_248 rfl ?_
  refine V_cq0 (pc := 249) dL_law_249 kL_25 zk_0 (by decide) (Nat.le_of_ble_eq_true rfl) s1 ?_
  intro w m hm
  obtain ⟨rfl, Q2, s3, s4⟩ := s2 w m hm
  show V X _ _ _ (vi v :: _) m
  refine V_aloadn (pc := 252) dL_law_252 rfl ?_
  refine V_cq0 (pc := 253) dL_law_253 kL_28 zk_256 (by decide) (Nat.le_of_ble_eq_true rfl) s3 ?_
  intro w2 m2 hm2
  obtain ⟨rfl, H2⟩ := s4 w2 m2 hm2
  show V X _ _ _ (vi v :: vi v :: _) m2
  refine V_same (pc := 256) (tgt := 1117) dL_law_256 (by decide) ?_
  exact hN _ H2

set_option maxRecDepth 20000 in
theorem lc_3 {X : ZX} {L : Nat} {xs : Nat → Int32} (hX : LX X L xs) {i : Int} (hi : 0 ≤ i ∧ i + 5 ≤ L) {μ : Mem} (H : REL μ) (hN : ∀ m, REL m → V X mL_law 1117 [vs 10, vr 0, vr 256, vi i] [] m) : V X mL_law 261 [vs 10, vr 0, vr 256, vi i] [] μ := by
  obtain ⟨v, Q1, s1, s2⟩ := a_told H (u := (xs (i + 1).toNat).toInt) (zi_rg _)
  refine V_aloadn (pc := 261) dL_law_261 rfl ?_
  refine V_sloadn (pc := 262) dL_law_262 rfl ?_
  refine V_iloadn (pc := 263) dL_law_263 rfl ?_
  refine V_iconst (pc := 264) dL_law_264 ?_
  refine V_iadd (pc := 265) dL_law_265 ?_
  refine V_xld (pc := 266) dL_law_266 hX (by omega) (by omega) ?_
  refine V_cq1 (pc := 267) dL_law_267 kL_29 zk_0 (by decide) (Nat.le_of_ble_eq_true rfl) s1 ?_
  intro w m hm
  obtain ⟨rfl, Q2, s3, s4⟩ := s2 w m hm
  show V X _ _ _ (vi v :: _) m
  refine V_aloadn (pc := 270) dL_law_270 rfl ?_
  refine V_sloadn (pc := 271) dL_law_271 rfl ?_
  refine V_iloadn (pc := 272) dL_law_272 rfl ?_
  refine V_iconst (pc := 273) dL_law_273 ?_
  refine V_iadd (pc := 274) dL_law_274 ?_
  refine V_xld (pc := 275) dL_law_275 hX (by omega) (by omega) ?_
  refine V_cq1 (pc := 276) dL_law_276 kL_33 zk_256 (by decide) (Nat.le_of_ble_eq_true rfl) s3 ?_
  intro w2 m2 hm2
  obtain ⟨rfl, H2⟩ := s4 w2 m2 hm2
  show V X _ _ _ (vi v :: vi v :: _) m2
  refine V_same (pc := 279) (tgt := 1117) dL_law_279 (by decide) ?_
  exact hN _ H2

set_option maxRecDepth 20000 in
theorem lc_4 {X : ZX} {L : Nat} {xs : Nat → Int32} (hX : LX X L xs) {i : Int} (hi : 0 ≤ i ∧ i + 5 ≤ L) {μ : Mem} (H : REL μ) (hN : ∀ m, REL m → V X mL_law 1117 [vs 10, vr 0, vr 256, vi i] [] m) : V X mL_law 284 [vs 10, vr 0, vr 256, vi i] [] μ := by
  obtain ⟨v, Q1, s1, s2⟩ := a_road H (r := (xs (i + 1).toNat).toInt) (u := (xs (i + 2).toNat).toInt) (zi_rg _) (zi_rg _)
  refine V_aloadn (pc := 284) dL_law_284 rfl ?_
  refine V_sloadn (pc := 285) dL_law_285 rfl ?_
  refine V_iloadn (pc := 286) dL_law_286 rfl ?_
  refine V_iconst (pc := 287) dL_law_287 ?_
  refine V_iadd (pc := 288) dL_law_288 ?_
  refine V_xld (pc := 289) dL_law_289 hX (by omega) (by omega) ?_
  refine V_sloadn (pc := 290) dL_law_290 rfl ?_
  refine V_iloadn (pc := 291) dL_law_291 rfl ?_
  refine V_iconst (pc := 292) dL_law_292 ?_
  refine V_iadd (pc := 293) dL_law_293 ?_
  refine V_xld (pc := 294) dL_law_294 hX (by omega) (by omega) ?_
  refine V_cq2 (pc := 295) dL_law_295 kL_34 zk_0 (by decide) (Nat.le_of_ble_eq_true rfl) s1 ?_
  intro w m hm
  obtain ⟨rfl, Q2, s3, s4⟩ := s2 w m hm
  show V X _ _ _ (vi v :: _) m
  refine V_aloadn (pc := 298) dL_law_298 rfl ?_
  refine V_sloadn (pc := 299) dL_law_299 rfl ?_
  refine V_iloadn (pc := 300) dL_law_300 rfl ?_
  refine V_iconst (pc := 301) dL_law_301 ?_
  refine V_iadd (pc := 302) dL_law_302 ?_
  refine V_xld (pc := 303) dL_law_303 hX (by omega) (by omega) ?_
  refine V_sloadn (pc := 304) dL_law_304 rfl ?_
  refine V_iloadn (pc := 305) dL_law_305 rfl ?_
  refine V_iconst (pc := 306) dL_law_306 ?_
  refine V_iadd (pc := 307) dL_law_307 ?_
  refine V_xld (pc := 308) dL_law_308 hX (by omega) (by omega) ?_
  refine V_cq2 (pc := 309) dL_law_309 kL_38 zk_256 (by decide) (Nat.le_of_ble_eq_true rfl) s3 ?_
  intro w2 m2 hm2
  obtain ⟨rfl, H2⟩ := s4 w2 m2 hm2
  show V X _ _ _ (vi v :: vi v :: _) m2
  refine V_same (pc := 312) (tgt := 1117) dL_law_312 (by decide) ?_
  exact hN _ H2

set_option maxRecDepth 20000 in
theorem lc_5 {X : ZX} {L : Nat} {xs : Nat → Int32} (hX : LX X L xs) {i : Int} (hi : 0 ≤ i ∧ i + 5 ≤ L) {μ : Mem} (H : REL μ) (hN : ∀ m, REL m → V X mL_law 1117 [vs 10, vr 0, vr 256, vi i] [] m) : V X mL_law 317 [vs 10, vr 0, vr 256, vi i] [] μ := by
  obtain ⟨v, Q1, s1, s2⟩ := a_far H (a := (xs (i + 1).toNat).toInt) (b := (xs (i + 2).toNat).toInt) (zi_rg _) (zi_rg _)
  refine V_aloadn (pc := 317) dL_law_317 rfl ?_
  refine V_sloadn (pc := 318) dL_law_318 rfl ?_
  refine V_iloadn (pc := 319) dL_law_319 rfl ?_
  refine V_iconst (pc := 320) dL_law_320 ?_
  refine V_iadd (pc := 321) dL_law_321 ?_
  refine V_xld (pc := 322) dL_law_322 hX (by omega) (by omega) ?_
  refine V_sloadn (pc := 323) dL_law_323 rfl ?_
  refine V_iloadn (pc := 324) dL_law_324 rfl ?_
  refine V_iconst (pc := 325) dL_law_325 ?_
  refine V_iadd (pc := 326) dL_law_326 ?_
  refine V_xld (pc := 327) dL_law_327 hX (by omega) (by omega) ?_
  refine V_cq2 (pc := 328) dL_law_328 kL_39 zk_0 (by decide) (Nat.le_of_ble_eq_true rfl) s1 ?_
  intro w m hm
  obtain ⟨rfl, Q2, s3, s4⟩ := s2 w m hm
  show V X _ _ _ (vi v :: _) m
  refine V_aloadn (pc := 331) dL_law_331 rfl ?_
  refine V_sloadn (pc := 332) dL_law_332 rfl ?_
  refine V_iloadn (pc := 333) dL_law_333 rfl ?_
  refine V_iconst (pc := 334) dL_law_334 ?_
  refine V_iadd (pc := 335) dL_law_335 ?_
  refine V_xld (pc := 336) dL_law_336 hX (by omega) (by omega) ?_
  refine V_sloadn (pc := 337) dL_law_337 rfl ?_
  refine V_iloadn (pc := 338) dL_law_338 rfl ?_
  refine V_iconst (pc := 339) dL_law_339 ?_
  refine V_iadd (pc := 340) dL_law_340 ?_
  refine V_xld (pc := 341) dL_law_341 hX (by omega) (by omega) ?_
  refine V_cq2 (pc := 342) dL_law_342 kL_42 zk_256 (by decide) (Nat.le_of_ble_eq_true rfl) s3 ?_
  intro w2 m2 hm2
  obtain ⟨rfl, H2⟩ := s4 w2 m2 hm2
  show V X _ _ _ (vi v :: vi v :: _) m2
  refine V_same (pc := 345) (tgt := 1117) dL_law_345 (by decide) ?_
  exact hN _ H2

set_option maxRecDepth 20000 in
theorem lc_6 {X : ZX} {L : Nat} {xs : Nat → Int32} (hX : LX X L xs) {i : Int} (hi : 0 ≤ i ∧ i + 5 ≤ L) {μ : Mem} (H : REL μ) (hN : ∀ m, REL m → V X mL_law 1117 [vs 10, vr 0, vr 256, vi i] [] m) : V X mL_law 350 [vs 10, vr 0, vr 256, vi i] [] μ := by
  obtain ⟨v, Q1, s1, s2⟩ := a_post H (p := (xs (i + 1).toNat).toInt) (u := (xs (i + 2).toNat).toInt) (zi_rg _) (zi_rg _)
  refine V_aloadn (pc := 350) dL_law_350 rfl ?_
  refine V_sloadn (pc := 351) dL_law_351 rfl ?_
  refine V_iloadn (pc := 352) dL_law_352 rfl ?_
  refine V_iconst (pc := 353) dL_law_353 ?_
  refine V_iadd (pc := 354) dL_law_354 ?_
  refine V_xld (pc := 355) dL_law_355 hX (by omega) (by omega) ?_
  refine V_sloadn (pc := 356) dL_law_356 rfl ?_
  refine V_iloadn (pc := 357) dL_law_357 rfl ?_
  refine V_iconst (pc := 358) dL_law_358 ?_
  refine V_iadd (pc := 359) dL_law_359 ?_
  refine V_xld (pc := 360) dL_law_360 hX (by omega) (by omega) ?_
  refine V_cq2 (pc := 361) dL_law_361 kL_43 zk_0 (by decide) (Nat.le_of_ble_eq_true rfl) s1 ?_
  intro w m hm
  obtain ⟨rfl, Q2, s3, s4⟩ := s2 w m hm
  show V X _ _ _ (vi v :: _) m
  refine V_aloadn (pc := 364) dL_law_364 rfl ?_
  refine V_sloadn (pc := 365) dL_law_365 rfl ?_
  refine V_iloadn (pc := 366) dL_law_366 rfl ?_
  refine V_iconst (pc := 367) dL_law_367 ?_
  refine V_iadd (pc := 368) dL_law_368 ?_
  refine V_xld (pc := 369) dL_law_369 hX (by omega) (by omega) ?_
  refine V_sloadn (pc := 370) dL_law_370 rfl ?_
  refine V_iloadn (pc := 371) dL_law_371 rfl ?_
  refine V_iconst (pc := 372) dL_law_372 ?_
  refine V_iadd (pc := 373) dL_law_373 ?_
  refine V_xld (pc := 374) dL_law_374 hX (by omega) (by omega) ?_
  refine V_cq2 (pc := 375) dL_law_375 kL_46 zk_256 (by decide) (Nat.le_of_ble_eq_true rfl) s3 ?_
  intro w2 m2 hm2
  obtain ⟨rfl, H2⟩ := s4 w2 m2 hm2
  show V X _ _ _ (vi v :: vi v :: _) m2
  refine V_same (pc := 378) (tgt := 1117) dL_law_378 (by decide) ?_
  exact hN _ H2

set_option maxRecDepth 20000 in
theorem lc_7 {X : ZX} {L : Nat} {xs : Nat → Int32} (hX : LX X L xs) {i : Int} (hi : 0 ≤ i ∧ i + 5 ≤ L) {μ : Mem} (H : REL μ) (hN : ∀ m, REL m → V X mL_law 1117 [vs 10, vr 0, vr 256, vi i] [] m) : V X mL_law 383 [vs 10, vr 0, vr 256, vi i] [] μ := by
  obtain ⟨v, Q1, s1, s2⟩ := a_arm H (p := (xs (i + 1).toNat).toInt) (i := (xs (i + 2).toNat).toInt) (u := (xs (i + 3).toNat).toInt) (zi_rg _) (zi_rg _) (zi_rg _)
  refine V_aloadn (pc := 383) dL_law_383 rfl ?_
  refine V_sloadn (pc := 384) dL_law_384 rfl ?_
  refine V_iloadn (pc := 385) dL_law_385 rfl ?_
  refine V_iconst (pc := 386) dL_law_386 ?_
  refine V_iadd (pc := 387) dL_law_387 ?_
  refine V_xld (pc := 388) dL_law_388 hX (by omega) (by omega) ?_
  refine V_sloadn (pc := 389) dL_law_389 rfl ?_
  refine V_iloadn (pc := 390) dL_law_390 rfl ?_
  refine V_iconst (pc := 391) dL_law_391 ?_
  refine V_iadd (pc := 392) dL_law_392 ?_
  refine V_xld (pc := 393) dL_law_393 hX (by omega) (by omega) ?_
  refine V_sloadn (pc := 394) dL_law_394 rfl ?_
  refine V_iloadn (pc := 395) dL_law_395 rfl ?_
  refine V_iconst (pc := 396) dL_law_396 ?_
  refine V_iadd (pc := 397) dL_law_397 ?_
  refine V_xld (pc := 398) dL_law_398 hX (by omega) (by omega) ?_
  refine V_cq3 (pc := 399) dL_law_399 kL_47 zk_0 (by decide) (Nat.le_of_ble_eq_true rfl) s1 ?_
  intro w m hm
  obtain ⟨rfl, Q2, s3, s4⟩ := s2 w m hm
  show V X _ _ _ (vi v :: _) m
  refine V_aloadn (pc := 402) dL_law_402 rfl ?_
  refine V_sloadn (pc := 403) dL_law_403 rfl ?_
  refine V_iloadn (pc := 404) dL_law_404 rfl ?_
  refine V_iconst (pc := 405) dL_law_405 ?_
  refine V_iadd (pc := 406) dL_law_406 ?_
  refine V_xld (pc := 407) dL_law_407 hX (by omega) (by omega) ?_
  refine V_sloadn (pc := 408) dL_law_408 rfl ?_
  refine V_iloadn (pc := 409) dL_law_409 rfl ?_
  refine V_iconst (pc := 410) dL_law_410 ?_
  refine V_iadd (pc := 411) dL_law_411 ?_
  refine V_xld (pc := 412) dL_law_412 hX (by omega) (by omega) ?_
  refine V_sloadn (pc := 413) dL_law_413 rfl ?_
  refine V_iloadn (pc := 414) dL_law_414 rfl ?_
  refine V_iconst (pc := 415) dL_law_415 ?_
  refine V_iadd (pc := 416) dL_law_416 ?_
  refine V_xld (pc := 417) dL_law_417 hX (by omega) (by omega) ?_
  refine V_cq3 (pc := 418) dL_law_418 kL_51 zk_256 (by decide) (Nat.le_of_ble_eq_true rfl) s3 ?_
  intro w2 m2 hm2
  obtain ⟨rfl, H2⟩ := s4 w2 m2 hm2
  show V X _ _ _ (vi v :: vi v :: _) m2
  refine V_same (pc := 421) (tgt := 1117) dL_law_421 (by decide) ?_
  exact hN _ H2

set_option maxRecDepth 20000 in
theorem lc_8 {X : ZX} {L : Nat} {xs : Nat → Int32} (hX : LX X L xs) {i : Int} (hi : 0 ≤ i ∧ i + 5 ≤ L) {μ : Mem} (H : REL μ) (hN : ∀ m, REL m → V X mL_law 1117 [vs 10, vr 0, vr 256, vi i] [] m) : V X mL_law 426 [vs 10, vr 0, vr 256, vi i] [] μ := by
  obtain ⟨v, Q1, s1, s2⟩ := a_miles H (p := (xs (i + 1).toNat).toInt) (t := (xs (i + 2).toNat).toInt) (zi_rg _) (zi_rg _)
  refine V_aloadn (pc := 426) dL_law_426 rfl ?_
  refine V_sloadn (pc := 427) dL_law_427 rfl ?_
  refine V_iloadn (pc := 428) dL_law_428 rfl ?_
  refine V_iconst (pc := 429) dL_law_429 ?_
  refine V_iadd (pc := 430) dL_law_430 ?_
  refine V_xld (pc := 431) dL_law_431 hX (by omega) (by omega) ?_
  refine V_sloadn (pc := 432) dL_law_432 rfl ?_
  refine V_iloadn (pc := 433) dL_law_433 rfl ?_
  refine V_iconst (pc := 434) dL_law_434 ?_
  refine V_iadd (pc := 435) dL_law_435 ?_
  refine V_xld (pc := 436) dL_law_436 hX (by omega) (by omega) ?_
  refine V_cq2 (pc := 437) dL_law_437 kL_52 zk_0 (by decide) (Nat.le_of_ble_eq_true rfl) s1 ?_
  intro w m hm
  obtain ⟨rfl, Q2, s3, s4⟩ := s2 w m hm
  show V X _ _ _ (vi v :: _) m
  refine V_aloadn (pc := 440) dL_law_440 rfl ?_
  refine V_sloadn (pc := 441) dL_law_441 rfl ?_
  refine V_iloadn (pc := 442) dL_law_442 rfl ?_
  refine V_iconst (pc := 443) dL_law_443 ?_
  refine V_iadd (pc := 444) dL_law_444 ?_
  refine V_xld (pc := 445) dL_law_445 hX (by omega) (by omega) ?_
  refine V_sloadn (pc := 446) dL_law_446 rfl ?_
  refine V_iloadn (pc := 447) dL_law_447 rfl ?_
  refine V_iconst (pc := 448) dL_law_448 ?_
  refine V_iadd (pc := 449) dL_law_449 ?_
  refine V_xld (pc := 450) dL_law_450 hX (by omega) (by omega) ?_
  refine V_cq2 (pc := 451) dL_law_451 kL_55 zk_256 (by decide) (Nat.le_of_ble_eq_true rfl) s3 ?_
  intro w2 m2 hm2
  obtain ⟨rfl, H2⟩ := s4 w2 m2 hm2
  show V X _ _ _ (vi v :: vi v :: _) m2
  refine V_same (pc := 454) (tgt := 1117) dL_law_454 (by decide) ?_
  exact hN _ H2

set_option maxRecDepth 20000 in
theorem lc_9 {X : ZX} {L : Nat} {xs : Nat → Int32} (hX : LX X L xs) {i : Int} (hi : 0 ≤ i ∧ i + 5 ≤ L) {μ : Mem} (H : REL μ) (hN : ∀ m, REL m → V X mL_law 1117 [vs 10, vr 0, vr 256, vi i] [] m) : V X mL_law 459 [vs 10, vr 0, vr 256, vi i] [] μ := by
  obtain ⟨v, Q1, s1, s2⟩ := a_turn H (p := (xs (i + 1).toNat).toInt) (k := (xs (i + 2).toNat).toInt) (zi_rg _) (zi_rg _)
  refine V_aloadn (pc := 459) dL_law_459 rfl ?_
  refine V_sloadn (pc := 460) dL_law_460 rfl ?_
  refine V_iloadn (pc := 461) dL_law_461 rfl ?_
  refine V_iconst (pc := 462) dL_law_462 ?_
  refine V_iadd (pc := 463) dL_law_463 ?_
  refine V_xld (pc := 464) dL_law_464 hX (by omega) (by omega) ?_
  refine V_sloadn (pc := 465) dL_law_465 rfl ?_
  refine V_iloadn (pc := 466) dL_law_466 rfl ?_
  refine V_iconst (pc := 467) dL_law_467 ?_
  refine V_iadd (pc := 468) dL_law_468 ?_
  refine V_xld (pc := 469) dL_law_469 hX (by omega) (by omega) ?_
  refine V_cq2 (pc := 470) dL_law_470 kL_56 zk_0 (by decide) (Nat.le_of_ble_eq_true rfl) s1 ?_
  intro w m hm
  obtain ⟨rfl, Q2, s3, s4⟩ := s2 w m hm
  show V X _ _ _ (vi v :: _) m
  refine V_aloadn (pc := 473) dL_law_473 rfl ?_
  refine V_sloadn (pc := 474) dL_law_474 rfl ?_
  refine V_iloadn (pc := 475) dL_law_475 rfl ?_
  refine V_iconst (pc := 476) dL_law_476 ?_
  refine V_iadd (pc := 477) dL_law_477 ?_
  refine V_xld (pc := 478) dL_law_478 hX (by omega) (by omega) ?_
  refine V_sloadn (pc := 479) dL_law_479 rfl ?_
  refine V_iloadn (pc := 480) dL_law_480 rfl ?_
  refine V_iconst (pc := 481) dL_law_481 ?_
  refine V_iadd (pc := 482) dL_law_482 ?_
  refine V_xld (pc := 483) dL_law_483 hX (by omega) (by omega) ?_
  refine V_cq2 (pc := 484) dL_law_484 kL_59 zk_256 (by decide) (Nat.le_of_ble_eq_true rfl) s3 ?_
  intro w2 m2 hm2
  obtain ⟨rfl, H2⟩ := s4 w2 m2 hm2
  show V X _ _ _ (vi v :: vi v :: _) m2
  refine V_same (pc := 487) (tgt := 1117) dL_law_487 (by decide) ?_
  exact hN _ H2

set_option maxRecDepth 20000 in
theorem lc_10a {X : ZX} {L : Nat} {xs : Nat → Int32} (hX : LX X L xs) {i : Int} (hi : 0 ≤ i ∧ i + 5 ≤ L) {μ : Mem} (H : REL μ) (hN : ∀ m, REL m → V X mL_law 1117 [vs 10, vr 0, vr 256, vi i] [] m) (hq : (xs (i + 3).toNat).toInt = 0) : V X mL_law 492 [vs 10, vr 0, vr 256, vi i] [] μ := by
  obtain ⟨v, Q1, s1, s2⟩ := a_fell H (p := (xs (i + 1).toNat).toInt) (i := (xs (i + 2).toNat).toInt) (b := 0) (zi_rg _) (zi_rg _) (Or.inl rfl)
  refine V_aloadn (pc := 492) dL_law_492 rfl ?_
  refine V_sloadn (pc := 493) dL_law_493 rfl ?_
  refine V_iloadn (pc := 494) dL_law_494 rfl ?_
  refine V_iconst (pc := 495) dL_law_495 ?_
  refine V_iadd (pc := 496) dL_law_496 ?_
  refine V_xld (pc := 497) dL_law_497 hX (by omega) (by omega) ?_
  refine V_sloadn (pc := 498) dL_law_498 rfl ?_
  refine V_iloadn (pc := 499) dL_law_499 rfl ?_
  refine V_iconst (pc := 500) dL_law_500 ?_
  refine V_iadd (pc := 501) dL_law_501 ?_
  refine V_xld (pc := 502) dL_law_502 hX (by omega) (by omega) ?_
  refine V_sloadn (pc := 503) dL_law_503 rfl ?_
  refine V_iloadn (pc := 504) dL_law_504 rfl ?_
  refine V_iconst (pc := 505) dL_law_505 ?_
  refine V_iadd (pc := 506) dL_law_506 ?_
  refine V_xld (pc := 507) dL_law_507 hX (by omega) (by omega) ?_
  refine V_if_eq (pc := 508) (tgt := 515) dL_law_508 (by decide) (zi_rg _) (fun h508 => ?_) (fun h508 => ?_)
  · refine V_iconst (pc := 515) dL_law_515 ?_
    refine V_cq3 (pc := 516) dL_law_516 kL_60 zk_0 (by decide) (Nat.le_of_ble_eq_true rfl) s1 ?_
    intro w m hm
    obtain ⟨rfl, Q2, s3, s4⟩ := s2 w m hm
    show V X _ _ _ (vi v :: _) m
    refine V_aloadn (pc := 519) dL_law_519 rfl ?_
    refine V_sloadn (pc := 520) dL_law_520 rfl ?_
    refine V_iloadn (pc := 521) dL_law_521 rfl ?_
    refine V_iconst (pc := 522) dL_law_522 ?_
    refine V_iadd (pc := 523) dL_law_523 ?_
    refine V_xld (pc := 524) dL_law_524 hX (by omega) (by omega) ?_
    refine V_sloadn (pc := 525) dL_law_525 rfl ?_
    refine V_iloadn (pc := 526) dL_law_526 rfl ?_
    refine V_iconst (pc := 527) dL_law_527 ?_
    refine V_iadd (pc := 528) dL_law_528 ?_
    refine V_xld (pc := 529) dL_law_529 hX (by omega) (by omega) ?_
    refine V_sloadn (pc := 530) dL_law_530 rfl ?_
    refine V_iloadn (pc := 531) dL_law_531 rfl ?_
    refine V_iconst (pc := 532) dL_law_532 ?_
    refine V_iadd (pc := 533) dL_law_533 ?_
    refine V_xld (pc := 534) dL_law_534 hX (by omega) (by omega) ?_
    refine V_if_eq (pc := 535) (tgt := 542) dL_law_535 (by decide) (zi_rg _) (fun h535 => ?_) (fun h535 => ?_)
    · refine V_iconst (pc := 542) dL_law_542 ?_
      refine V_cq3 (pc := 543) dL_law_543 kL_64 zk_256 (by decide) (Nat.le_of_ble_eq_true rfl) s3 ?_
      intro w2 m2 hm2
      obtain ⟨rfl, H2⟩ := s4 w2 m2 hm2
      show V X _ _ _ (vi v :: vi v :: _) m2
      refine V_same (pc := 546) (tgt := 1117) dL_law_546 (by decide) ?_
      exact hN _ H2
    · exfalso; omega
  · exfalso; omega

set_option maxRecDepth 20000 in
theorem lc_10b {X : ZX} {L : Nat} {xs : Nat → Int32} (hX : LX X L xs) {i : Int} (hi : 0 ≤ i ∧ i + 5 ≤ L) {μ : Mem} (H : REL μ) (hN : ∀ m, REL m → V X mL_law 1117 [vs 10, vr 0, vr 256, vi i] [] m) (hq : ¬ (xs (i + 3).toNat).toInt = 0) : V X mL_law 492 [vs 10, vr 0, vr 256, vi i] [] μ := by
  obtain ⟨v, Q1, s1, s2⟩ := a_fell H (p := (xs (i + 1).toNat).toInt) (i := (xs (i + 2).toNat).toInt) (b := 1) (zi_rg _) (zi_rg _) (Or.inr rfl)
  refine V_aloadn (pc := 492) dL_law_492 rfl ?_
  refine V_sloadn (pc := 493) dL_law_493 rfl ?_
  refine V_iloadn (pc := 494) dL_law_494 rfl ?_
  refine V_iconst (pc := 495) dL_law_495 ?_
  refine V_iadd (pc := 496) dL_law_496 ?_
  refine V_xld (pc := 497) dL_law_497 hX (by omega) (by omega) ?_
  refine V_sloadn (pc := 498) dL_law_498 rfl ?_
  refine V_iloadn (pc := 499) dL_law_499 rfl ?_
  refine V_iconst (pc := 500) dL_law_500 ?_
  refine V_iadd (pc := 501) dL_law_501 ?_
  refine V_xld (pc := 502) dL_law_502 hX (by omega) (by omega) ?_
  refine V_sloadn (pc := 503) dL_law_503 rfl ?_
  refine V_iloadn (pc := 504) dL_law_504 rfl ?_
  refine V_iconst (pc := 505) dL_law_505 ?_
  refine V_iadd (pc := 506) dL_law_506 ?_
  refine V_xld (pc := 507) dL_law_507 hX (by omega) (by omega) ?_
  refine V_if_eq (pc := 508) (tgt := 515) dL_law_508 (by decide) (zi_rg _) (fun h508 => ?_) (fun h508 => ?_)
  · exfalso; omega
  · refine V_iconst (pc := 511) dL_law_511 ?_
    refine V_goto (pc := 512) (tgt := 516) dL_law_512 (by decide) ?_
    refine V_cq3 (pc := 516) dL_law_516 kL_60 zk_0 (by decide) (Nat.le_of_ble_eq_true rfl) s1 ?_
    intro w m hm
    obtain ⟨rfl, Q2, s3, s4⟩ := s2 w m hm
    show V X _ _ _ (vi v :: _) m
    refine V_aloadn (pc := 519) dL_law_519 rfl ?_
    refine V_sloadn (pc := 520) dL_law_520 rfl ?_
    refine V_iloadn (pc := 521) dL_law_521 rfl ?_
    refine V_iconst (pc := 522) dL_law_522 ?_
    refine V_iadd (pc := 523) dL_law_523 ?_
    refine V_xld (pc := 524) dL_law_524 hX (by omega) (by omega) ?_
    refine V_sloadn (pc := 525) dL_law_525 rfl ?_
    refine V_iloadn (pc := 526) dL_law_526 rfl ?_
    refine V_iconst (pc := 527) dL_law_527 ?_
    refine V_iadd (pc := 528) dL_law_528 ?_
    refine V_xld (pc := 529) dL_law_529 hX (by omega) (by omega) ?_
    refine V_sloadn (pc := 530) dL_law_530 rfl ?_
    refine V_iloadn (pc := 531) dL_law_531 rfl ?_
    refine V_iconst (pc := 532) dL_law_532 ?_
    refine V_iadd (pc := 533) dL_law_533 ?_
    refine V_xld (pc := 534) dL_law_534 hX (by omega) (by omega) ?_
    refine V_if_eq (pc := 535) (tgt := 542) dL_law_535 (by decide) (zi_rg _) (fun h535 => ?_) (fun h535 => ?_)
    · exfalso; omega
    · refine V_iconst (pc := 538) dL_law_538 ?_
      refine V_goto (pc := 539) (tgt := 543) dL_law_539 (by decide) ?_
      refine V_cq3 (pc := 543) dL_law_543 kL_64 zk_256 (by decide) (Nat.le_of_ble_eq_true rfl) s3 ?_
      intro w2 m2 hm2
      obtain ⟨rfl, H2⟩ := s4 w2 m2 hm2
      show V X _ _ _ (vi v :: vi v :: _) m2
      refine V_same (pc := 546) (tgt := 1117) dL_law_546 (by decide) ?_
      exact hN _ H2

set_option maxRecDepth 20000 in
theorem lc_11 {X : ZX} {L : Nat} {xs : Nat → Int32} (hX : LX X L xs) {i : Int} (hi : 0 ≤ i ∧ i + 5 ≤ L) {μ : Mem} (H : REL μ) (hN : ∀ m, REL m → V X mL_law 1117 [vs 10, vr 0, vr 256, vi i] [] m) : V X mL_law 551 [vs 10, vr 0, vr 256, vi i] [] μ := by
  obtain ⟨v, Q1, s1, s2⟩ := a_paint H (p := (xs (i + 1).toNat).toInt) (t := (xs (i + 2).toNat).toInt) (k := (xs (i + 3).toNat).toInt) (zi_rg _) (zi_rg _) (zi_rg _)
  refine V_aloadn (pc := 551) dL_law_551 rfl ?_
  refine V_sloadn (pc := 552) dL_law_552 rfl ?_
  refine V_iloadn (pc := 553) dL_law_553 rfl ?_
  refine V_iconst (pc := 554) dL_law_554 ?_
  refine V_iadd (pc := 555) dL_law_555 ?_
  refine V_xld (pc := 556) dL_law_556 hX (by omega) (by omega) ?_
  refine V_sloadn (pc := 557) dL_law_557 rfl ?_
  refine V_iloadn (pc := 558) dL_law_558 rfl ?_
  refine V_iconst (pc := 559) dL_law_559 ?_
  refine V_iadd (pc := 560) dL_law_560 ?_
  refine V_xld (pc := 561) dL_law_561 hX (by omega) (by omega) ?_
  refine V_sloadn (pc := 562) dL_law_562 rfl ?_
  refine V_iloadn (pc := 563) dL_law_563 rfl ?_
  refine V_iconst (pc := 564) dL_law_564 ?_
  refine V_iadd (pc := 565) dL_law_565 ?_
  refine V_xld (pc := 566) dL_law_566 hX (by omega) (by omega) ?_
  refine V_cq3 (pc := 567) dL_law_567 kL_65 zk_0 (by decide) (Nat.le_of_ble_eq_true rfl) s1 ?_
  intro w m hm
  obtain ⟨rfl, Q2, s3, s4⟩ := s2 w m hm
  show V X _ _ _ (vi v :: _) m
  refine V_aloadn (pc := 570) dL_law_570 rfl ?_
  refine V_sloadn (pc := 571) dL_law_571 rfl ?_
  refine V_iloadn (pc := 572) dL_law_572 rfl ?_
  refine V_iconst (pc := 573) dL_law_573 ?_
  refine V_iadd (pc := 574) dL_law_574 ?_
  refine V_xld (pc := 575) dL_law_575 hX (by omega) (by omega) ?_
  refine V_sloadn (pc := 576) dL_law_576 rfl ?_
  refine V_iloadn (pc := 577) dL_law_577 rfl ?_
  refine V_iconst (pc := 578) dL_law_578 ?_
  refine V_iadd (pc := 579) dL_law_579 ?_
  refine V_xld (pc := 580) dL_law_580 hX (by omega) (by omega) ?_
  refine V_sloadn (pc := 581) dL_law_581 rfl ?_
  refine V_iloadn (pc := 582) dL_law_582 rfl ?_
  refine V_iconst (pc := 583) dL_law_583 ?_
  refine V_iadd (pc := 584) dL_law_584 ?_
  refine V_xld (pc := 585) dL_law_585 hX (by omega) (by omega) ?_
  refine V_cq3 (pc := 586) dL_law_586 kL_68 zk_256 (by decide) (Nat.le_of_ble_eq_true rfl) s3 ?_
  intro w2 m2 hm2
  obtain ⟨rfl, H2⟩ := s4 w2 m2 hm2
  show V X _ _ _ (vi v :: vi v :: _) m2
  refine V_same (pc := 589) (tgt := 1117) dL_law_589 (by decide) ?_
  exact hN _ H2

set_option maxRecDepth 20000 in
theorem lc_12 {X : ZX} {L : Nat} {xs : Nat → Int32} (hX : LX X L xs) {i : Int} (hi : 0 ≤ i ∧ i + 5 ≤ L) {μ : Mem} (H : REL μ) (hN : ∀ m, REL m → V X mL_law 1117 [vs 10, vr 0, vr 256, vi i] [] m) : V X mL_law 594 [vs 10, vr 0, vr 256, vi i] [] μ := by
  obtain ⟨v, Q1, s1, s2⟩ := a_right H (s := (xs (i + 1).toNat).toInt) (zi_rg _)
  refine V_aloadn (pc := 594) dL_law_594 rfl ?_
  refine V_sloadn (pc := 595) dL_law_595 rfl ?_
  refine V_iloadn (pc := 596) dL_law_596 rfl ?_
  refine V_iconst (pc := 597) dL_law_597 ?_
  refine V_iadd (pc := 598) dL_law_598 ?_
  refine V_xld (pc := 599) dL_law_599 hX (by omega) (by omega) ?_
  refine V_cq1 (pc := 600) dL_law_600 kL_69 zk_0 (by decide) (Nat.le_of_ble_eq_true rfl) s1 ?_
  intro w m hm
  obtain ⟨rfl, Q2, s3, s4⟩ := s2 w m hm
  show V X _ _ _ (vi v :: _) m
  refine V_aloadn (pc := 603) dL_law_603 rfl ?_
  refine V_sloadn (pc := 604) dL_law_604 rfl ?_
  refine V_iloadn (pc := 605) dL_law_605 rfl ?_
  refine V_iconst (pc := 606) dL_law_606 ?_
  refine V_iadd (pc := 607) dL_law_607 ?_
  refine V_xld (pc := 608) dL_law_608 hX (by omega) (by omega) ?_
  refine V_cq1 (pc := 609) dL_law_609 kL_72 zk_256 (by decide) (Nat.le_of_ble_eq_true rfl) s3 ?_
  intro w2 m2 hm2
  obtain ⟨rfl, H2⟩ := s4 w2 m2 hm2
  show V X _ _ _ (vi v :: vi v :: _) m2
  refine V_same (pc := 612) (tgt := 1117) dL_law_612 (by decide) ?_
  exact hN _ H2

set_option maxRecDepth 20000 in
theorem lc_13 {X : ZX} {L : Nat} {xs : Nat → Int32} (hX : LX X L xs) {i : Int} (hi : 0 ≤ i ∧ i + 5 ≤ L) {μ : Mem} (H : REL μ) (hN : ∀ m, REL m → V X mL_law 1117 [vs 10, vr 0, vr 256, vi i] [] m) : V X mL_law 617 [vs 10, vr 0, vr 256, vi i] [] μ := by
  obtain ⟨v, Q1, s1, s2⟩ := a_walk H (a := (xs (i + 1).toNat).toInt) (t := (xs (i + 2).toNat).toInt) (u := (xs (i + 3).toNat).toInt) (zi_rg _) (zi_rg _) (zi_rg _)
  refine V_aloadn (pc := 617) dL_law_617 rfl ?_
  refine V_sloadn (pc := 618) dL_law_618 rfl ?_
  refine V_iloadn (pc := 619) dL_law_619 rfl ?_
  refine V_iconst (pc := 620) dL_law_620 ?_
  refine V_iadd (pc := 621) dL_law_621 ?_
  refine V_xld (pc := 622) dL_law_622 hX (by omega) (by omega) ?_
  refine V_sloadn (pc := 623) dL_law_623 rfl ?_
  refine V_iloadn (pc := 624) dL_law_624 rfl ?_
  refine V_iconst (pc := 625) dL_law_625 ?_
  refine V_iadd (pc := 626) dL_law_626 ?_
  refine V_xld (pc := 627) dL_law_627 hX (by omega) (by omega) ?_
  refine V_sloadn (pc := 628) dL_law_628 rfl ?_
  refine V_iloadn (pc := 629) dL_law_629 rfl ?_
  refine V_iconst (pc := 630) dL_law_630 ?_
  refine V_iadd (pc := 631) dL_law_631 ?_
  refine V_xld (pc := 632) dL_law_632 hX (by omega) (by omega) ?_
  refine V_cq3 (pc := 633) dL_law_633 kL_73 zk_0 (by decide) (Nat.le_of_ble_eq_true rfl) s1 ?_
  intro w m hm
  obtain ⟨rfl, Q2, s3, s4⟩ := s2 w m hm
  show V X _ _ _ (vi v :: _) m
  refine V_aloadn (pc := 636) dL_law_636 rfl ?_
  refine V_sloadn (pc := 637) dL_law_637 rfl ?_
  refine V_iloadn (pc := 638) dL_law_638 rfl ?_
  refine V_iconst (pc := 639) dL_law_639 ?_
  refine V_iadd (pc := 640) dL_law_640 ?_
  refine V_xld (pc := 641) dL_law_641 hX (by omega) (by omega) ?_
  refine V_sloadn (pc := 642) dL_law_642 rfl ?_
  refine V_iloadn (pc := 643) dL_law_643 rfl ?_
  refine V_iconst (pc := 644) dL_law_644 ?_
  refine V_iadd (pc := 645) dL_law_645 ?_
  refine V_xld (pc := 646) dL_law_646 hX (by omega) (by omega) ?_
  refine V_sloadn (pc := 647) dL_law_647 rfl ?_
  refine V_iloadn (pc := 648) dL_law_648 rfl ?_
  refine V_iconst (pc := 649) dL_law_649 ?_
  refine V_iadd (pc := 650) dL_law_650 ?_
  refine V_xld (pc := 651) dL_law_651 hX (by omega) (by omega) ?_
  refine V_cq3 (pc := 652) dL_law_652 kL_76 zk_256 (by decide) (Nat.le_of_ble_eq_true rfl) s3 ?_
  intro w2 m2 hm2
  obtain ⟨rfl, H2⟩ := s4 w2 m2 hm2
  show V X _ _ _ (vi v :: vi v :: _) m2
  refine V_same (pc := 655) (tgt := 1117) dL_law_655 (by decide) ?_
  exact hN _ H2

set_option maxRecDepth 20000 in
theorem lc_14 {X : ZX} {L : Nat} {xs : Nat → Int32} (hX : LX X L xs) {i : Int} (hi : 0 ≤ i ∧ i + 5 ≤ L) {μ : Mem} (H : REL μ) (hN : ∀ m, REL m → V X mL_law 1117 [vs 10, vr 0, vr 256, vi i] [] m) : V X mL_law 660 [vs 10, vr 0, vr 256, vi i] [] μ := by
  obtain ⟨v, Q1, s1, s2⟩ := a_way H (a := (xs (i + 1).toNat).toInt) (t := (xs (i + 2).toNat).toInt) (i := (xs (i + 3).toNat).toInt) (zi_rg _) (zi_rg _) (zi_rg _)
  refine V_aloadn (pc := 660) dL_law_660 rfl ?_
  refine V_sloadn (pc := 661) dL_law_661 rfl ?_
  refine V_iloadn (pc := 662) dL_law_662 rfl ?_
  refine V_iconst (pc := 663) dL_law_663 ?_
  refine V_iadd (pc := 664) dL_law_664 ?_
  refine V_xld (pc := 665) dL_law_665 hX (by omega) (by omega) ?_
  refine V_sloadn (pc := 666) dL_law_666 rfl ?_
  refine V_iloadn (pc := 667) dL_law_667 rfl ?_
  refine V_iconst (pc := 668) dL_law_668 ?_
  refine V_iadd (pc := 669) dL_law_669 ?_
  refine V_xld (pc := 670) dL_law_670 hX (by omega) (by omega) ?_
  refine V_sloadn (pc := 671) dL_law_671 rfl ?_
  refine V_iloadn (pc := 672) dL_law_672 rfl ?_
  refine V_iconst (pc := 673) dL_law_673 ?_
  refine V_iadd (pc := 674) dL_law_674 ?_
  refine V_xld (pc := 675) dL_law_675 hX (by omega) (by omega) ?_
  refine V_cq3 (pc := 676) dL_law_676 kL_77 zk_0 (by decide) (Nat.le_of_ble_eq_true rfl) s1 ?_
  intro w m hm
  obtain ⟨rfl, Q2, s3, s4⟩ := s2 w m hm
  show V X _ _ _ (vi v :: _) m
  refine V_aloadn (pc := 679) dL_law_679 rfl ?_
  refine V_sloadn (pc := 680) dL_law_680 rfl ?_
  refine V_iloadn (pc := 681) dL_law_681 rfl ?_
  refine V_iconst (pc := 682) dL_law_682 ?_
  refine V_iadd (pc := 683) dL_law_683 ?_
  refine V_xld (pc := 684) dL_law_684 hX (by omega) (by omega) ?_
  refine V_sloadn (pc := 685) dL_law_685 rfl ?_
  refine V_iloadn (pc := 686) dL_law_686 rfl ?_
  refine V_iconst (pc := 687) dL_law_687 ?_
  refine V_iadd (pc := 688) dL_law_688 ?_
  refine V_xld (pc := 689) dL_law_689 hX (by omega) (by omega) ?_
  refine V_sloadn (pc := 690) dL_law_690 rfl ?_
  refine V_iloadn (pc := 691) dL_law_691 rfl ?_
  refine V_iconst (pc := 692) dL_law_692 ?_
  refine V_iadd (pc := 693) dL_law_693 ?_
  refine V_xld (pc := 694) dL_law_694 hX (by omega) (by omega) ?_
  refine V_cq3 (pc := 695) dL_law_695 kL_80 zk_256 (by decide) (Nat.le_of_ble_eq_true rfl) s3 ?_
  intro w2 m2 hm2
  obtain ⟨rfl, H2⟩ := s4 w2 m2 hm2
  show V X _ _ _ (vi v :: vi v :: _) m2
  refine V_same (pc := 698) (tgt := 1117) dL_law_698 (by decide) ?_
  exact hN _ H2

set_option maxRecDepth 20000 in
theorem lc_15 {X : ZX} {L : Nat} {xs : Nat → Int32} (hX : LX X L xs) {i : Int} (hi : 0 ≤ i ∧ i + 5 ≤ L) {μ : Mem} (H : REL μ) (hN : ∀ m, REL m → V X mL_law 1117 [vs 10, vr 0, vr 256, vi i] [] m) : V X mL_law 703 [vs 10, vr 0, vr 256, vi i] [] μ := by
  obtain ⟨v, Q1, s1, s2⟩ := a_seen H (p := (xs (i + 1).toNat).toInt) (t := (xs (i + 2).toNat).toInt) (q := (xs (i + 3).toNat).toInt) (zi_rg _) (zi_rg _) (zi_rg _)
  refine V_aloadn (pc := 703) dL_law_703 rfl ?_
  refine V_sloadn (pc := 704) dL_law_704 rfl ?_
  refine V_iloadn (pc := 705) dL_law_705 rfl ?_
  refine V_iconst (pc := 706) dL_law_706 ?_
  refine V_iadd (pc := 707) dL_law_707 ?_
  refine V_xld (pc := 708) dL_law_708 hX (by omega) (by omega) ?_
  refine V_sloadn (pc := 709) dL_law_709 rfl ?_
  refine V_iloadn (pc := 710) dL_law_710 rfl ?_
  refine V_iconst (pc := 711) dL_law_711 ?_
  refine V_iadd (pc := 712) dL_law_712 ?_
  refine V_xld (pc := 713) dL_law_713 hX (by omega) (by omega) ?_
  refine V_sloadn (pc := 714) dL_law_714 rfl ?_
  refine V_iloadn (pc := 715) dL_law_715 rfl ?_
  refine V_iconst (pc := 716) dL_law_716 ?_
  refine V_iadd (pc := 717) dL_law_717 ?_
  refine V_xld (pc := 718) dL_law_718 hX (by omega) (by omega) ?_
  refine V_cq3 (pc := 719) dL_law_719 kL_81 zk_0 (by decide) (Nat.le_of_ble_eq_true rfl) s1 ?_
  intro w m hm
  obtain ⟨rfl, Q2, s3, s4⟩ := s2 w m hm
  show V X _ _ _ (vi v :: _) m
  refine V_aloadn (pc := 722) dL_law_722 rfl ?_
  refine V_sloadn (pc := 723) dL_law_723 rfl ?_
  refine V_iloadn (pc := 724) dL_law_724 rfl ?_
  refine V_iconst (pc := 725) dL_law_725 ?_
  refine V_iadd (pc := 726) dL_law_726 ?_
  refine V_xld (pc := 727) dL_law_727 hX (by omega) (by omega) ?_
  refine V_sloadn (pc := 728) dL_law_728 rfl ?_
  refine V_iloadn (pc := 729) dL_law_729 rfl ?_
  refine V_iconst (pc := 730) dL_law_730 ?_
  refine V_iadd (pc := 731) dL_law_731 ?_
  refine V_xld (pc := 732) dL_law_732 hX (by omega) (by omega) ?_
  refine V_sloadn (pc := 733) dL_law_733 rfl ?_
  refine V_iloadn (pc := 734) dL_law_734 rfl ?_
  refine V_iconst (pc := 735) dL_law_735 ?_
  refine V_iadd (pc := 736) dL_law_736 ?_
  refine V_xld (pc := 737) dL_law_737 hX (by omega) (by omega) ?_
  refine V_cq3 (pc := 738) dL_law_738 kL_84 zk_256 (by decide) (Nat.le_of_ble_eq_true rfl) s3 ?_
  intro w2 m2 hm2
  obtain ⟨rfl, H2⟩ := s4 w2 m2 hm2
  show V X _ _ _ (vi v :: vi v :: _) m2
  refine V_same (pc := 741) (tgt := 1117) dL_law_741 (by decide) ?_
  exact hN _ H2

set_option maxRecDepth 20000 in
theorem lc_16 {X : ZX} {L : Nat} {xs : Nat → Int32} (hX : LX X L xs) {i : Int} (hi : 0 ≤ i ∧ i + 5 ≤ L) {μ : Mem} (H : REL μ) (hN : ∀ m, REL m → V X mL_law 1117 [vs 10, vr 0, vr 256, vi i] [] m) : V X mL_law 746 [vs 10, vr 0, vr 256, vi i] [] μ := by
  obtain ⟨v, Q1, s1, s2⟩ := a_forget H  
  refine V_aloadn (pc := 746) dL_law_746 rfl ?_
  refine V_cq0 (pc := 747) dL_law_747 kL_85 zk_0 (by decide) (Nat.le_of_ble_eq_true rfl) s1 ?_
  intro w m hm
  obtain ⟨rfl, Q2, s3, s4⟩ := s2 w m hm
  show V X _ _ _ (vi v :: _) m
  refine V_aloadn (pc := 750) dL_law_750 rfl ?_
  refine V_cq0 (pc := 751) dL_law_751 kL_88 zk_256 (by decide) (Nat.le_of_ble_eq_true rfl) s3 ?_
  intro w2 m2 hm2
  obtain ⟨rfl, H2⟩ := s4 w2 m2 hm2
  show V X _ _ _ (vi v :: vi v :: _) m2
  refine V_same (pc := 754) (tgt := 1117) dL_law_754 (by decide) ?_
  exact hN _ H2

set_option maxRecDepth 20000 in
theorem lc_17 {X : ZX} {L : Nat} {xs : Nat → Int32} (hX : LX X L xs) {i : Int} (hi : 0 ≤ i ∧ i + 5 ≤ L) {μ : Mem} (H : REL μ) (hN : ∀ m, REL m → V X mL_law 1117 [vs 10, vr 0, vr 256, vi i] [] m) : V X mL_law 759 [vs 10, vr 0, vr 256, vi i] [] μ := by
  obtain ⟨v, Q1, s1, s2⟩ := a_fits H (p := (xs (i + 1).toNat).toInt) (zi_rg _)
  refine V_aloadn (pc := 759) dL_law_759 rfl ?_
  refine V_sloadn (pc := 760) dL_law_760 rfl ?_
  refine V_iloadn (pc := 761) dL_law_761 rfl ?_
  refine V_iconst (pc := 762) dL_law_762 ?_
  refine V_iadd (pc := 763) dL_law_763 ?_
  refine V_xld (pc := 764) dL_law_764 hX (by omega) (by omega) ?_
  refine V_cq1 (pc := 765) dL_law_765 kL_89 zk_0 (by decide) (Nat.le_of_ble_eq_true rfl) s1 ?_
  intro w m hm
  obtain ⟨rfl, Q2, s3, s4⟩ := s2 w m hm
  show V X _ _ _ (vi v :: _) m
  refine V_aloadn (pc := 768) dL_law_768 rfl ?_
  refine V_sloadn (pc := 769) dL_law_769 rfl ?_
  refine V_iloadn (pc := 770) dL_law_770 rfl ?_
  refine V_iconst (pc := 771) dL_law_771 ?_
  refine V_iadd (pc := 772) dL_law_772 ?_
  refine V_xld (pc := 773) dL_law_773 hX (by omega) (by omega) ?_
  refine V_cq1 (pc := 774) dL_law_774 kL_92 zk_256 (by decide) (Nat.le_of_ble_eq_true rfl) s3 ?_
  intro w2 m2 hm2
  obtain ⟨rfl, H2⟩ := s4 w2 m2 hm2
  show V X _ _ _ (vi v :: vi v :: _) m2
  refine V_same (pc := 777) (tgt := 1117) dL_law_777 (by decide) ?_
  exact hN _ H2

set_option maxRecDepth 20000 in
theorem lc_18 {X : ZX} {L : Nat} {xs : Nat → Int32} (hX : LX X L xs) {i : Int} (hi : 0 ≤ i ∧ i + 5 ≤ L) {μ : Mem} (H : REL μ) (hN : ∀ m, REL m → V X mL_law 1117 [vs 10, vr 0, vr 256, vi i] [] m) : V X mL_law 782 [vs 10, vr 0, vr 256, vi i] [] μ := by
  obtain ⟨v, Q1, s1, s2⟩ := a_sure H  
  refine V_aloadn (pc := 782) dL_law_782 rfl ?_
  refine V_cq0 (pc := 783) dL_law_783 kL_93 zk_0 (by decide) (Nat.le_of_ble_eq_true rfl) s1 ?_
  intro w m hm
  obtain ⟨rfl, Q2, s3, s4⟩ := s2 w m hm
  show V X _ _ _ (vi v :: _) m
  refine V_aloadn (pc := 786) dL_law_786 rfl ?_
  refine V_cq0 (pc := 787) dL_law_787 kL_96 zk_256 (by decide) (Nat.le_of_ble_eq_true rfl) s3 ?_
  intro w2 m2 hm2
  obtain ⟨rfl, H2⟩ := s4 w2 m2 hm2
  show V X _ _ _ (vi v :: vi v :: _) m2
  refine V_same (pc := 790) (tgt := 1117) dL_law_790 (by decide) ?_
  exact hN _ H2

set_option maxRecDepth 20000 in
theorem lc_19a {X : ZX} {L : Nat} {xs : Nat → Int32} (hX : LX X L xs) {i : Int} (hi : 0 ≤ i ∧ i + 5 ≤ L) {μ : Mem} (H : REL μ) (hN : ∀ m, REL m → V X mL_law 1117 [vs 10, vr 0, vr 256, vi i] [] m) (hq : (xs (i + 1).toNat).toInt = 0) : V X mL_law 795 [vs 10, vr 0, vr 256, vi i] [] μ := by
  obtain ⟨v, Q1, s1, s2⟩ := a_quarrel H (b := 0) (Or.inl rfl)
  refine V_aloadn (pc := 795) dL_law_795 rfl ?_
  refine V_sloadn (pc := 796) dL_law_796 rfl ?_
  refine V_iloadn (pc := 797) dL_law_797 rfl ?_
  refine V_iconst (pc := 798) dL_law_798 ?_
  refine V_iadd (pc := 799) dL_law_799 ?_
  refine V_xld (pc := 800) dL_law_800 hX (by omega) (by omega) ?_
  refine V_if_eq (pc := 801) (tgt := 808) dL_law_801 (by decide) (zi_rg _) (fun h801 => ?_) (fun h801 => ?_)
  · refine V_iconst (pc := 808) dL_law_808 ?_
    refine V_cq1 (pc := 809) dL_law_809 kL_97 zk_0 (by decide) (Nat.le_of_ble_eq_true rfl) s1 ?_
    intro w m hm
    obtain ⟨rfl, Q2, s3, s4⟩ := s2 w m hm
    show V X _ _ _ (vi v :: _) m
    refine V_aloadn (pc := 812) dL_law_812 rfl ?_
    refine V_sloadn (pc := 813) dL_law_813 rfl ?_
    refine V_iloadn (pc := 814) dL_law_814 rfl ?_
    refine V_iconst (pc := 815) dL_law_815 ?_
    refine V_iadd (pc := 816) dL_law_816 ?_
    refine V_xld (pc := 817) dL_law_817 hX (by omega) (by omega) ?_
    refine V_if_eq (pc := 818) (tgt := 825) dL_law_818 (by decide) (zi_rg _) (fun h818 => ?_) (fun h818 => ?_)
    · refine V_iconst (pc := 825) dL_law_825 ?_
      refine V_cq1 (pc := 826) dL_law_826 kL_101 zk_256 (by decide) (Nat.le_of_ble_eq_true rfl) s3 ?_
      intro w2 m2 hm2
      obtain ⟨rfl, H2⟩ := s4 w2 m2 hm2
      show V X _ _ _ (vi v :: vi v :: _) m2
      refine V_same (pc := 829) (tgt := 1117) dL_law_829 (by decide) ?_
      exact hN _ H2
    · exfalso; omega
  · exfalso; omega

set_option maxRecDepth 20000 in
theorem lc_19b {X : ZX} {L : Nat} {xs : Nat → Int32} (hX : LX X L xs) {i : Int} (hi : 0 ≤ i ∧ i + 5 ≤ L) {μ : Mem} (H : REL μ) (hN : ∀ m, REL m → V X mL_law 1117 [vs 10, vr 0, vr 256, vi i] [] m) (hq : ¬ (xs (i + 1).toNat).toInt = 0) : V X mL_law 795 [vs 10, vr 0, vr 256, vi i] [] μ := by
  obtain ⟨v, Q1, s1, s2⟩ := a_quarrel H (b := 1) (Or.inr rfl)
  refine V_aloadn (pc := 795) dL_law_795 rfl ?_
  refine V_sloadn (pc := 796) dL_law_796 rfl ?_
  refine V_iloadn (pc := 797) dL_law_797 rfl ?_
  refine V_iconst (pc := 798) dL_law_798 ?_
  refine V_iadd (pc := 799) dL_law_799 ?_
  refine V_xld (pc := 800) dL_law_800 hX (by omega) (by omega) ?_
  refine V_if_eq (pc := 801) (tgt := 808) dL_law_801 (by decide) (zi_rg _) (fun h801 => ?_) (fun h801 => ?_)
  · exfalso; omega
  · refine V_iconst (pc := 804) dL_law_804 ?_
    refine V_goto (pc := 805) (tgt := 809) dL_law_805 (by decide) ?_
    refine V_cq1 (pc := 809) dL_law_809 kL_97 zk_0 (by decide) (Nat.le_of_ble_eq_true rfl) s1 ?_
    intro w m hm
    obtain ⟨rfl, Q2, s3, s4⟩ := s2 w m hm
    show V X _ _ _ (vi v :: _) m
    refine V_aloadn (pc := 812) dL_law_812 rfl ?_
    refine V_sloadn (pc := 813) dL_law_813 rfl ?_
    refine V_iloadn (pc := 814) dL_law_814 rfl ?_
    refine V_iconst (pc := 815) dL_law_815 ?_
    refine V_iadd (pc := 816) dL_law_816 ?_
    refine V_xld (pc := 817) dL_law_817 hX (by omega) (by omega) ?_
    refine V_if_eq (pc := 818) (tgt := 825) dL_law_818 (by decide) (zi_rg _) (fun h818 => ?_) (fun h818 => ?_)
    · exfalso; omega
    · refine V_iconst (pc := 821) dL_law_821 ?_
      refine V_goto (pc := 822) (tgt := 826) dL_law_822 (by decide) ?_
      refine V_cq1 (pc := 826) dL_law_826 kL_101 zk_256 (by decide) (Nat.le_of_ble_eq_true rfl) s3 ?_
      intro w2 m2 hm2
      obtain ⟨rfl, H2⟩ := s4 w2 m2 hm2
      show V X _ _ _ (vi v :: vi v :: _) m2
      refine V_same (pc := 829) (tgt := 1117) dL_law_829 (by decide) ?_
      exact hN _ H2

set_option maxRecDepth 20000 in
theorem lc_20 {X : ZX} {L : Nat} {xs : Nat → Int32} (hX : LX X L xs) {i : Int} (hi : 0 ≤ i ∧ i + 5 ≤ L) {μ : Mem} (H : REL μ) (hN : ∀ m, REL m → V X mL_law 1117 [vs 10, vr 0, vr 256, vi i] [] m) : V X mL_law 834 [vs 10, vr 0, vr 256, vi i] [] μ := by
  obtain ⟨v, Q1, s1, s2⟩ := a_fewest H  
  refine V_aloadn (pc := 834) dL_law_834 rfl ?_
  refine V_cq0 (pc := 835) dL_law_835 kL_102 zk_0 (by decide) (Nat.le_of_ble_eq_true rfl) s1 ?_
  intro w m hm
  obtain ⟨rfl, Q2, s3, s4⟩ := s2 w m hm
  show V X _ _ _ (vi v :: _) m
  refine V_aloadn (pc := 838) dL_law_838 rfl ?_
  refine V_cq0 (pc := 839) dL_law_839 kL_105 zk_256 (by decide) (Nat.le_of_ble_eq_true rfl) s3 ?_
  intro w2 m2 hm2
  obtain ⟨rfl, H2⟩ := s4 w2 m2 hm2
  show V X _ _ _ (vi v :: vi v :: _) m2
  refine V_same (pc := 842) (tgt := 1117) dL_law_842 (by decide) ?_
  exact hN _ H2

set_option maxRecDepth 20000 in
theorem lc_21 {X : ZX} {L : Nat} {xs : Nat → Int32} (hX : LX X L xs) {i : Int} (hi : 0 ≤ i ∧ i + 5 ≤ L) {μ : Mem} (H : REL μ) (hN : ∀ m, REL m → V X mL_law 1117 [vs 10, vr 0, vr 256, vi i] [] m) : V X mL_law 847 [vs 10, vr 0, vr 256, vi i] [] μ := by
  obtain ⟨v, Q1, s1, s2⟩ := a_best H (u := (xs (i + 1).toNat).toInt) (zi_rg _)
  refine V_aloadn (pc := 847) dL_law_847 rfl ?_
  refine V_sloadn (pc := 848) dL_law_848 rfl ?_
  refine V_iloadn (pc := 849) dL_law_849 rfl ?_
  refine V_iconst (pc := 850) dL_law_850 ?_
  refine V_iadd (pc := 851) dL_law_851 ?_
  refine V_xld (pc := 852) dL_law_852 hX (by omega) (by omega) ?_
  refine V_cq1 (pc := 853) dL_law_853 kL_106 zk_0 (by decide) (Nat.le_of_ble_eq_true rfl) s1 ?_
  intro w m hm
  obtain ⟨rfl, Q2, s3, s4⟩ := s2 w m hm
  show V X _ _ _ (vi v :: _) m
  refine V_aloadn (pc := 856) dL_law_856 rfl ?_
  refine V_sloadn (pc := 857) dL_law_857 rfl ?_
  refine V_iloadn (pc := 858) dL_law_858 rfl ?_
  refine V_iconst (pc := 859) dL_law_859 ?_
  refine V_iadd (pc := 860) dL_law_860 ?_
  refine V_xld (pc := 861) dL_law_861 hX (by omega) (by omega) ?_
  refine V_cq1 (pc := 862) dL_law_862 kL_109 zk_256 (by decide) (Nat.le_of_ble_eq_true rfl) s3 ?_
  intro w2 m2 hm2
  obtain ⟨rfl, H2⟩ := s4 w2 m2 hm2
  show V X _ _ _ (vi v :: vi v :: _) m2
  refine V_same (pc := 865) (tgt := 1117) dL_law_865 (by decide) ?_
  exact hN _ H2

set_option maxRecDepth 20000 in
theorem lc_22 {X : ZX} {L : Nat} {xs : Nat → Int32} (hX : LX X L xs) {i : Int} (hi : 0 ≤ i ∧ i + 5 ≤ L) {μ : Mem} (H : REL μ) (hN : ∀ m, REL m → V X mL_law 1117 [vs 10, vr 0, vr 256, vi i] [] m) : V X mL_law 870 [vs 10, vr 0, vr 256, vi i] [] μ := by
  obtain ⟨v, Q1, s1, s2⟩ := a_odds H (a := (xs (i + 1).toNat).toInt) (t := (xs (i + 2).toNat).toInt) (o := (xs (i + 3).toNat).toInt) (zi_rg _) (zi_rg _) (zi_rg _)
  refine V_aloadn (pc := 870) dL_law_870 rfl ?_
  refine V_sloadn (pc := 871) dL_law_871 rfl ?_
  refine V_iloadn (pc := 872) dL_law_872 rfl ?_
  refine V_iconst (pc := 873) dL_law_873 ?_
  refine V_iadd (pc := 874) dL_law_874 ?_
  refine V_xld (pc := 875) dL_law_875 hX (by omega) (by omega) ?_
  refine V_sloadn (pc := 876) dL_law_876 rfl ?_
  refine V_iloadn (pc := 877) dL_law_877 rfl ?_
  refine V_iconst (pc := 878) dL_law_878 ?_
  refine V_iadd (pc := 879) dL_law_879 ?_
  refine V_xld (pc := 880) dL_law_880 hX (by omega) (by omega) ?_
  refine V_sloadn (pc := 881) dL_law_881 rfl ?_
  refine V_iloadn (pc := 882) dL_law_882 rfl ?_
  refine V_iconst (pc := 883) dL_law_883 ?_
  refine V_iadd (pc := 884) dL_law_884 ?_
  refine V_xld (pc := 885) dL_law_885 hX (by omega) (by omega) ?_
  refine V_cq3 (pc := 886) dL_law_886 kL_110 zk_0 (by decide) (Nat.le_of_ble_eq_true rfl) s1 ?_
  intro w m hm
  obtain ⟨rfl, Q2, s3, s4⟩ := s2 w m hm
  show V X _ _ _ (vi v :: _) m
  refine V_aloadn (pc := 889) dL_law_889 rfl ?_
  refine V_sloadn (pc := 890) dL_law_890 rfl ?_
  refine V_iloadn (pc := 891) dL_law_891 rfl ?_
  refine V_iconst (pc := 892) dL_law_892 ?_
  refine V_iadd (pc := 893) dL_law_893 ?_
  refine V_xld (pc := 894) dL_law_894 hX (by omega) (by omega) ?_
  refine V_sloadn (pc := 895) dL_law_895 rfl ?_
  refine V_iloadn (pc := 896) dL_law_896 rfl ?_
  refine V_iconst (pc := 897) dL_law_897 ?_
  refine V_iadd (pc := 898) dL_law_898 ?_
  refine V_xld (pc := 899) dL_law_899 hX (by omega) (by omega) ?_
  refine V_sloadn (pc := 900) dL_law_900 rfl ?_
  refine V_iloadn (pc := 901) dL_law_901 rfl ?_
  refine V_iconst (pc := 902) dL_law_902 ?_
  refine V_iadd (pc := 903) dL_law_903 ?_
  refine V_xld (pc := 904) dL_law_904 hX (by omega) (by omega) ?_
  refine V_cq3 (pc := 905) dL_law_905 kL_113 zk_256 (by decide) (Nat.le_of_ble_eq_true rfl) s3 ?_
  intro w2 m2 hm2
  obtain ⟨rfl, H2⟩ := s4 w2 m2 hm2
  show V X _ _ _ (vi v :: vi v :: _) m2
  refine V_same (pc := 908) (tgt := 1117) dL_law_908 (by decide) ?_
  exact hN _ H2

set_option maxRecDepth 20000 in
theorem lc_23 {X : ZX} {L : Nat} {xs : Nat → Int32} (hX : LX X L xs) {i : Int} (hi : 0 ≤ i ∧ i + 5 ≤ L) {μ : Mem} (H : REL μ) (hN : ∀ m, REL m → V X mL_law 1117 [vs 10, vr 0, vr 256, vi i] [] m) : V X mL_law 913 [vs 10, vr 0, vr 256, vi i] [] μ := by
  obtain ⟨v, Q1, s1, s2⟩ := a_needed H (p := (xs (i + 1).toNat).toInt) (zi_rg _)
  refine V_aloadn (pc := 913) dL_law_913 rfl ?_
  refine V_sloadn (pc := 914) dL_law_914 rfl ?_
  refine V_iloadn (pc := 915) dL_law_915 rfl ?_
  refine V_iconst (pc := 916) dL_law_916 ?_
  refine V_iadd (pc := 917) dL_law_917 ?_
  refine V_xld (pc := 918) dL_law_918 hX (by omega) (by omega) ?_
  refine V_cq1 (pc := 919) dL_law_919 kL_114 zk_0 (by decide) (Nat.le_of_ble_eq_true rfl) s1 ?_
  intro w m hm
  obtain ⟨rfl, Q2, s3, s4⟩ := s2 w m hm
  show V X _ _ _ (vi v :: _) m
  refine V_aloadn (pc := 922) dL_law_922 rfl ?_
  refine V_sloadn (pc := 923) dL_law_923 rfl ?_
  refine V_iloadn (pc := 924) dL_law_924 rfl ?_
  refine V_iconst (pc := 925) dL_law_925 ?_
  refine V_iadd (pc := 926) dL_law_926 ?_
  refine V_xld (pc := 927) dL_law_927 hX (by omega) (by omega) ?_
  refine V_cq1 (pc := 928) dL_law_928 kL_117 zk_256 (by decide) (Nat.le_of_ble_eq_true rfl) s3 ?_
  intro w2 m2 hm2
  obtain ⟨rfl, H2⟩ := s4 w2 m2 hm2
  show V X _ _ _ (vi v :: vi v :: _) m2
  refine V_same (pc := 931) (tgt := 1117) dL_law_931 (by decide) ?_
  exact hN _ H2

set_option maxRecDepth 20000 in
theorem lc_24 {X : ZX} {L : Nat} {xs : Nat → Int32} (hX : LX X L xs) {i : Int} (hi : 0 ≤ i ∧ i + 5 ≤ L) {μ : Mem} (H : REL μ) (hN : ∀ m, REL m → V X mL_law 1117 [vs 10, vr 0, vr 256, vi i] [] m) : V X mL_law 936 [vs 10, vr 0, vr 256, vi i] [] μ := by
  obtain ⟨v, Q1, s1, s2⟩ := a_write H (a := (xs (i + 1).toNat).toInt) (t := (xs (i + 2).toNat).toInt) (e := (xs (i + 3).toNat).toInt) (f := (xs (i + 4).toNat).toInt) (zi_rg _) (zi_rg _) (zi_rg _) (zi_rg _)
  refine V_aloadn (pc := 936) dL_law_936 rfl ?_
  refine V_sloadn (pc := 937) dL_law_937 rfl ?_
  refine V_iloadn (pc := 938) dL_law_938 rfl ?_
  refine V_iconst (pc := 939) dL_law_939 ?_
  refine V_iadd (pc := 940) dL_law_940 ?_
  refine V_xld (pc := 941) dL_law_941 hX (by omega) (by omega) ?_
  refine V_sloadn (pc := 942) dL_law_942 rfl ?_
  refine V_iloadn (pc := 943) dL_law_943 rfl ?_
  refine V_iconst (pc := 944) dL_law_944 ?_
  refine V_iadd (pc := 945) dL_law_945 ?_
  refine V_xld (pc := 946) dL_law_946 hX (by omega) (by omega) ?_
  refine V_sloadn (pc := 947) dL_law_947 rfl ?_
  refine V_iloadn (pc := 948) dL_law_948 rfl ?_
  refine V_iconst (pc := 949) dL_law_949 ?_
  refine V_iadd (pc := 950) dL_law_950 ?_
  refine V_xld (pc := 951) dL_law_951 hX (by omega) (by omega) ?_
  refine V_sloadn (pc := 952) dL_law_952 rfl ?_
  refine V_iloadn (pc := 953) dL_law_953 rfl ?_
  refine V_iconst (pc := 954) dL_law_954 ?_
  refine V_iadd (pc := 955) dL_law_955 ?_
  refine V_xld (pc := 956) dL_law_956 hX (by omega) (by omega) ?_
  refine V_cq4 (pc := 957) dL_law_957 kL_118 zk_0 (by decide) (Nat.le_of_ble_eq_true rfl) s1 ?_
  intro w m hm
  obtain ⟨rfl, Q2, s3, s4⟩ := s2 w m hm
  show V X _ _ _ (vi v :: _) m
  refine V_aloadn (pc := 960) dL_law_960 rfl ?_
  refine V_sloadn (pc := 961) dL_law_961 rfl ?_
  refine V_iloadn (pc := 962) dL_law_962 rfl ?_
  refine V_iconst (pc := 963) dL_law_963 ?_
  refine V_iadd (pc := 964) dL_law_964 ?_
  refine V_xld (pc := 965) dL_law_965 hX (by omega) (by omega) ?_
  refine V_sloadn (pc := 966) dL_law_966 rfl ?_
  refine V_iloadn (pc := 967) dL_law_967 rfl ?_
  refine V_iconst (pc := 968) dL_law_968 ?_
  refine V_iadd (pc := 969) dL_law_969 ?_
  refine V_xld (pc := 970) dL_law_970 hX (by omega) (by omega) ?_
  refine V_sloadn (pc := 971) dL_law_971 rfl ?_
  refine V_iloadn (pc := 972) dL_law_972 rfl ?_
  refine V_iconst (pc := 973) dL_law_973 ?_
  refine V_iadd (pc := 974) dL_law_974 ?_
  refine V_xld (pc := 975) dL_law_975 hX (by omega) (by omega) ?_
  refine V_sloadn (pc := 976) dL_law_976 rfl ?_
  refine V_iloadn (pc := 977) dL_law_977 rfl ?_
  refine V_iconst (pc := 978) dL_law_978 ?_
  refine V_iadd (pc := 979) dL_law_979 ?_
  refine V_xld (pc := 980) dL_law_980 hX (by omega) (by omega) ?_
  refine V_cq4 (pc := 981) dL_law_981 kL_122 zk_256 (by decide) (Nat.le_of_ble_eq_true rfl) s3 ?_
  intro w2 m2 hm2
  obtain ⟨rfl, H2⟩ := s4 w2 m2 hm2
  show V X _ _ _ (vi v :: vi v :: _) m2
  refine V_same (pc := 984) (tgt := 1117) dL_law_984 (by decide) ?_
  exact hN _ H2

set_option maxRecDepth 20000 in
theorem lc_25 {X : ZX} {L : Nat} {xs : Nat → Int32} (hX : LX X L xs) {i : Int} (hi : 0 ≤ i ∧ i + 5 ≤ L) {μ : Mem} (H : REL μ) (hN : ∀ m, REL m → V X mL_law 1117 [vs 10, vr 0, vr 256, vi i] [] m) : V X mL_law 989 [vs 10, vr 0, vr 256, vi i] [] μ := by
  obtain ⟨v, Q1, s1, s2⟩ := a_tear H  
  refine V_aloadn (pc := 989) dL_law_989 rfl ?_
  refine V_cq0 (pc := 990) dL_law_990 kL_123 zk_0 (by decide) (Nat.le_of_ble_eq_true rfl) s1 ?_
  intro w m hm
  obtain ⟨rfl, Q2, s3, s4⟩ := s2 w m hm
  show V X _ _ _ (vi v :: _) m
  refine V_aloadn (pc := 993) dL_law_993 rfl ?_
  refine V_cq0 (pc := 994) dL_law_994 kL_126 zk_256 (by decide) (Nat.le_of_ble_eq_true rfl) s3 ?_
  intro w2 m2 hm2
  obtain ⟨rfl, H2⟩ := s4 w2 m2 hm2
  show V X _ _ _ (vi v :: vi v :: _) m2
  refine V_same (pc := 997) (tgt := 1117) dL_law_997 (by decide) ?_
  exact hN _ H2

set_option maxRecDepth 20000 in
theorem lc_26 {X : ZX} {L : Nat} {xs : Nat → Int32} (hX : LX X L xs) {i : Int} (hi : 0 ≤ i ∧ i + 5 ≤ L) {μ : Mem} (H : REL μ) (hN : ∀ m, REL m → V X mL_law 1117 [vs 10, vr 0, vr 256, vi i] [] m) : V X mL_law 1002 [vs 10, vr 0, vr 256, vi i] [] μ := by
  obtain ⟨v, Q1, s1, s2⟩ := a_judge H  
  refine V_aloadn (pc := 1002) dL_law_1002 rfl ?_
  refine V_cq0 (pc := 1003) dL_law_1003 kL_127 zk_0 (by decide) (Nat.le_of_ble_eq_true rfl) s1 ?_
  intro w m hm
  obtain ⟨rfl, Q2, s3, s4⟩ := s2 w m hm
  show V X _ _ _ (vi v :: _) m
  refine V_aloadn (pc := 1006) dL_law_1006 rfl ?_
  refine V_cq0 (pc := 1007) dL_law_1007 kL_130 zk_256 (by decide) (Nat.le_of_ble_eq_true rfl) s3 ?_
  intro w2 m2 hm2
  obtain ⟨rfl, H2⟩ := s4 w2 m2 hm2
  show V X _ _ _ (vi v :: vi v :: _) m2
  refine V_same (pc := 1010) (tgt := 1117) dL_law_1010 (by decide) ?_
  exact hN _ H2

set_option maxRecDepth 20000 in
theorem lc_27 {X : ZX} {L : Nat} {xs : Nat → Int32} (hX : LX X L xs) {i : Int} (hi : 0 ≤ i ∧ i + 5 ≤ L) {μ : Mem} (H : REL μ) (hN : ∀ m, REL m → V X mL_law 1117 [vs 10, vr 0, vr 256, vi i] [] m) : V X mL_law 1015 [vs 10, vr 0, vr 256, vi i] [] μ := by
  obtain ⟨v, Q1, s1, s2⟩ := a_drift H (n := (xs (i + 1).toNat).toInt) (o := (xs (i + 2).toNat).toInt) (zi_rg _) (zi_rg _)
  refine V_aloadn (pc := 1015) dL_law_1015 rfl ?_
  refine V_sloadn (pc := 1016) dL_law_1016 rfl ?_
  refine V_iloadn (pc := 1017) dL_law_1017 rfl ?_
  refine V_iconst (pc := 1018) dL_law_1018 ?_
  refine V_iadd (pc := 1019) dL_law_1019 ?_
  refine V_xld (pc := 1020) dL_law_1020 hX (by omega) (by omega) ?_
  refine V_sloadn (pc := 1021) dL_law_1021 rfl ?_
  refine V_iloadn (pc := 1022) dL_law_1022 rfl ?_
  refine V_iconst (pc := 1023) dL_law_1023 ?_
  refine V_iadd (pc := 1024) dL_law_1024 ?_
  refine V_xld (pc := 1025) dL_law_1025 hX (by omega) (by omega) ?_
  refine V_cq2 (pc := 1026) dL_law_1026 kL_131 zk_0 (by decide) (Nat.le_of_ble_eq_true rfl) s1 ?_
  intro w m hm
  obtain ⟨rfl, Q2, s3, s4⟩ := s2 w m hm
  show V X _ _ _ (vi v :: _) m
  refine V_aloadn (pc := 1029) dL_law_1029 rfl ?_
  refine V_sloadn (pc := 1030) dL_law_1030 rfl ?_
  refine V_iloadn (pc := 1031) dL_law_1031 rfl ?_
  refine V_iconst (pc := 1032) dL_law_1032 ?_
  refine V_iadd (pc := 1033) dL_law_1033 ?_
  refine V_xld (pc := 1034) dL_law_1034 hX (by omega) (by omega) ?_
  refine V_sloadn (pc := 1035) dL_law_1035 rfl ?_
  refine V_iloadn (pc := 1036) dL_law_1036 rfl ?_
  refine V_iconst (pc := 1037) dL_law_1037 ?_
  refine V_iadd (pc := 1038) dL_law_1038 ?_
  refine V_xld (pc := 1039) dL_law_1039 hX (by omega) (by omega) ?_
  refine V_cq2 (pc := 1040) dL_law_1040 kL_134 zk_256 (by decide) (Nat.le_of_ble_eq_true rfl) s3 ?_
  intro w2 m2 hm2
  obtain ⟨rfl, H2⟩ := s4 w2 m2 hm2
  show V X _ _ _ (vi v :: vi v :: _) m2
  refine V_same (pc := 1043) (tgt := 1117) dL_law_1043 (by decide) ?_
  exact hN _ H2

set_option maxRecDepth 20000 in
theorem lc_28 {X : ZX} {L : Nat} {xs : Nat → Int32} (hX : LX X L xs) {i : Int} (hi : 0 ≤ i ∧ i + 5 ≤ L) {μ : Mem} (H : REL μ) (hN : ∀ m, REL m → V X mL_law 1117 [vs 10, vr 0, vr 256, vi i] [] m) : V X mL_law 1048 [vs 10, vr 0, vr 256, vi i] [] μ := by
  obtain ⟨v, Q1, s1, s2⟩ := a_seed H (v := (xs (i + 1).toNat).toInt) (zi_rg _)
  refine V_aloadn (pc := 1048) dL_law_1048 rfl ?_
  refine V_sloadn (pc := 1049) dL_law_1049 rfl ?_
  refine V_iloadn (pc := 1050) dL_law_1050 rfl ?_
  refine V_iconst (pc := 1051) dL_law_1051 ?_
  refine V_iadd (pc := 1052) dL_law_1052 ?_
  refine V_xld (pc := 1053) dL_law_1053 hX (by omega) (by omega) ?_
  refine V_cq1 (pc := 1054) dL_law_1054 kL_135 zk_0 (by decide) (Nat.le_of_ble_eq_true rfl) s1 ?_
  intro w m hm
  obtain ⟨rfl, Q2, s3, s4⟩ := s2 w m hm
  show V X _ _ _ (vi v :: _) m
  refine V_aloadn (pc := 1057) dL_law_1057 rfl ?_
  refine V_sloadn (pc := 1058) dL_law_1058 rfl ?_
  refine V_iloadn (pc := 1059) dL_law_1059 rfl ?_
  refine V_iconst (pc := 1060) dL_law_1060 ?_
  refine V_iadd (pc := 1061) dL_law_1061 ?_
  refine V_xld (pc := 1062) dL_law_1062 hX (by omega) (by omega) ?_
  refine V_cq1 (pc := 1063) dL_law_1063 kL_138 zk_256 (by decide) (Nat.le_of_ble_eq_true rfl) s3 ?_
  intro w2 m2 hm2
  obtain ⟨rfl, H2⟩ := s4 w2 m2 hm2
  show V X _ _ _ (vi v :: vi v :: _) m2
  refine V_same (pc := 1066) (tgt := 1117) dL_law_1066 (by decide) ?_
  exact hN _ H2

set_option maxRecDepth 20000 in
theorem lc_29 {X : ZX} {L : Nat} {xs : Nat → Int32} (hX : LX X L xs) {i : Int} (hi : 0 ≤ i ∧ i + 5 ≤ L) {μ : Mem} (H : REL μ) (hN : ∀ m, REL m → V X mL_law 1117 [vs 10, vr 0, vr 256, vi i] [] m) : V X mL_law 1071 [vs 10, vr 0, vr 256, vi i] [] μ := by
  obtain ⟨v, Q1, s1, s2⟩ := a_keep H (i := (xs (i + 1).toNat).toInt) (zi_rg _)
  refine V_aloadn (pc := 1071) dL_law_1071 rfl ?_
  refine V_sloadn (pc := 1072) dL_law_1072 rfl ?_
  refine V_iloadn (pc := 1073) dL_law_1073 rfl ?_
  refine V_iconst (pc := 1074) dL_law_1074 ?_
  refine V_iadd (pc := 1075) dL_law_1075 ?_
  refine V_xld (pc := 1076) dL_law_1076 hX (by omega) (by omega) ?_
  refine V_cq1 (pc := 1077) dL_law_1077 kL_139 zk_0 (by decide) (Nat.le_of_ble_eq_true rfl) s1 ?_
  intro w m hm
  obtain ⟨rfl, Q2, s3, s4⟩ := s2 w m hm
  show V X _ _ _ (vi v :: _) m
  refine V_aloadn (pc := 1080) dL_law_1080 rfl ?_
  refine V_sloadn (pc := 1081) dL_law_1081 rfl ?_
  refine V_iloadn (pc := 1082) dL_law_1082 rfl ?_
  refine V_iconst (pc := 1083) dL_law_1083 ?_
  refine V_iadd (pc := 1084) dL_law_1084 ?_
  refine V_xld (pc := 1085) dL_law_1085 hX (by omega) (by omega) ?_
  refine V_cq1 (pc := 1086) dL_law_1086 kL_142 zk_256 (by decide) (Nat.le_of_ble_eq_true rfl) s3 ?_
  intro w2 m2 hm2
  obtain ⟨rfl, H2⟩ := s4 w2 m2 hm2
  show V X _ _ _ (vi v :: vi v :: _) m2
  refine V_same (pc := 1089) (tgt := 1117) dL_law_1089 (by decide) ?_
  exact hN _ H2

set_option maxRecDepth 20000 in
theorem lc_30 {X : ZX} {L : Nat} {xs : Nat → Int32} (hX : LX X L xs) {i : Int} (hi : 0 ≤ i ∧ i + 5 ≤ L) {μ : Mem} (H : REL μ) (hN : ∀ m, REL m → V X mL_law 1117 [vs 10, vr 0, vr 256, vi i] [] m) : V X mL_law 1094 [vs 10, vr 0, vr 256, vi i] [] μ := by
  obtain ⟨v, Q1, s1, s2⟩ := a_goBack H (i := (xs (i + 1).toNat).toInt) (zi_rg _)
  refine V_aloadn (pc := 1094) dL_law_1094 rfl ?_
  refine V_sloadn (pc := 1095) dL_law_1095 rfl ?_
  refine V_iloadn (pc := 1096) dL_law_1096 rfl ?_
  refine V_iconst (pc := 1097) dL_law_1097 ?_
  refine V_iadd (pc := 1098) dL_law_1098 ?_
  refine V_xld (pc := 1099) dL_law_1099 hX (by omega) (by omega) ?_
  refine V_cq1 (pc := 1100) dL_law_1100 kL_143 zk_0 (by decide) (Nat.le_of_ble_eq_true rfl) s1 ?_
  intro w m hm
  obtain ⟨rfl, Q2, s3, s4⟩ := s2 w m hm
  show V X _ _ _ (vi v :: _) m
  refine V_aloadn (pc := 1103) dL_law_1103 rfl ?_
  refine V_sloadn (pc := 1104) dL_law_1104 rfl ?_
  refine V_iloadn (pc := 1105) dL_law_1105 rfl ?_
  refine V_iconst (pc := 1106) dL_law_1106 ?_
  refine V_iadd (pc := 1107) dL_law_1107 ?_
  refine V_xld (pc := 1108) dL_law_1108 hX (by omega) (by omega) ?_
  refine V_cq1 (pc := 1109) dL_law_1109 kL_146 zk_256 (by decide) (Nat.le_of_ble_eq_true rfl) s3 ?_
  intro w2 m2 hm2
  obtain ⟨rfl, H2⟩ := s4 w2 m2 hm2
  show V X _ _ _ (vi v :: vi v :: _) m2
  refine V_same (pc := 1112) (tgt := 1117) dL_law_1112 (by decide) ?_
  exact hN _ H2

set_option maxRecDepth 20000 in
theorem law_loop {X : ZX} {L : Nat} {xs : Nat → Int32} (hX : LX X L xs) (hL2 : L ≤ 2560) : ∀ (n : Nat) (i : Int) (μ : Mem), 0 ≤ i → (L : Int) - i ≤ n → i ≤ 3000 → REL μ → V X mL_law 18 [vs 10, vr 0, vr 256, vi i] [] μ := by
  intro n
  induction n with
  | zero =>
    intro i μ h0 hn h3 H
    refine V_iloadn (pc := 18) dL_law_18 rfl ?_
    refine V_sloadn (pc := 19) dL_law_19 rfl ?_
    refine V_xlen (pc := 20) dL_law_20 hX ?_
    refine V_iconst (pc := 21) dL_law_21 ?_
    refine V_isub (pc := 22) dL_law_22 ?_
    refine V_icmp_gt (pc := 23) (tgt := 1123) dL_law_23 (by decide) (by omega) (by omega) (fun h23 => ?_) (fun h23 => ?_)
    · refine V_iconst (pc := 1123) dL_law_1123 ?_
      exact V_lawret hX dL_law_1124
    · exfalso; omega
  | succ n ih =>
    intro i μ h0 hn h3 H
    have hN : ∀ (hi : i + 5 ≤ L) (m : Mem), REL m → V X mL_law 1117 [vs 10, vr 0, vr 256, vi i] [] m := fun hi m Hm => by
      refine V_iinc_3 (pc := 1117) dL_law_1117 (by decide) rfl ?_
      refine V_goto (pc := 1120) (tgt := 18) dL_law_1120 (by decide) ?_
      exact ih (i + 5) m (by omega) (by omega) (by omega) Hm
    refine V_iloadn (pc := 18) dL_law_18 rfl ?_
    refine V_sloadn (pc := 19) dL_law_19 rfl ?_
    refine V_xlen (pc := 20) dL_law_20 hX ?_
    refine V_iconst (pc := 21) dL_law_21 ?_
    refine V_isub (pc := 22) dL_law_22 ?_
    refine V_icmp_gt (pc := 23) (tgt := 1123) dL_law_23 (by decide) (by omega) (by omega) (fun h23 => ?_) (fun h23 => ?_)
    · refine V_iconst (pc := 1123) dL_law_1123 ?_
      exact V_lawret hX dL_law_1124
    · have hi : i + 5 ≤ (L : Int) := by omega
      refine V_sloadn (pc := 26) dL_law_26 rfl ?_
      refine V_iloadn (pc := 27) dL_law_27 rfl ?_
      refine V_xld (pc := 28) dL_law_28 hX (by omega) (by omega) ?_
      refine V_bipush (pc := 29) dL_law_29 (by decide +kernel) ?_
      refine V_iand (pc := 31) dL_law_31 ?_
      have hx31 := iand_31 (xs i.toNat).toInt
      generalize iand (xs i.toNat).toInt 31 = x at hx31 ⊢
      by_cases hs0 : x = 0
      · refine V_tabIn (pc := 32) (off := 140) (tgt := 172) dL_law_32 (by omega) (by omega) (by omega) (by rw [hs0]; decide) (by decide) ?_
        exact lc_0 hX (by omega) H (hN hi)
      by_cases hs1 : x = 1
      · refine V_tabIn (pc := 32) (off := 203) (tgt := 235) dL_law_32 (by omega) (by omega) (by omega) (by rw [hs1]; decide) (by decide) ?_
        exact lc_1 hX (by omega) H (hN hi)
      by_cases hs2 : x = 2
      · refine V_tabIn (pc := 32) (off := 216) (tgt := 248) dL_law_32 (by omega) (by omega) (by omega) (by rw [hs2]; decide) (by decide) ?_
        exact lc_2 hX (by omega) H (hN hi)
      by_cases hs3 : x = 3
      · refine V_tabIn (pc := 32) (off := 229) (tgt := 261) dL_law_32 (by omega) (by omega) (by omega) (by rw [hs3]; decide) (by decide) ?_
        exact lc_3 hX (by omega) H (hN hi)
      by_cases hs4 : x = 4
      · refine V_tabIn (pc := 32) (off := 252) (tgt := 284) dL_law_32 (by omega) (by omega) (by omega) (by rw [hs4]; decide) (by decide) ?_
        exact lc_4 hX (by omega) H (hN hi)
      by_cases hs5 : x = 5
      · refine V_tabIn (pc := 32) (off := 285) (tgt := 317) dL_law_32 (by omega) (by omega) (by omega) (by rw [hs5]; decide) (by decide) ?_
        exact lc_5 hX (by omega) H (hN hi)
      by_cases hs6 : x = 6
      · refine V_tabIn (pc := 32) (off := 318) (tgt := 350) dL_law_32 (by omega) (by omega) (by omega) (by rw [hs6]; decide) (by decide) ?_
        exact lc_6 hX (by omega) H (hN hi)
      by_cases hs7 : x = 7
      · refine V_tabIn (pc := 32) (off := 351) (tgt := 383) dL_law_32 (by omega) (by omega) (by omega) (by rw [hs7]; decide) (by decide) ?_
        exact lc_7 hX (by omega) H (hN hi)
      by_cases hs8 : x = 8
      · refine V_tabIn (pc := 32) (off := 394) (tgt := 426) dL_law_32 (by omega) (by omega) (by omega) (by rw [hs8]; decide) (by decide) ?_
        exact lc_8 hX (by omega) H (hN hi)
      by_cases hs9 : x = 9
      · refine V_tabIn (pc := 32) (off := 427) (tgt := 459) dL_law_32 (by omega) (by omega) (by omega) (by rw [hs9]; decide) (by decide) ?_
        exact lc_9 hX (by omega) H (hN hi)
      by_cases hs10 : x = 10
      · refine V_tabIn (pc := 32) (off := 460) (tgt := 492) dL_law_32 (by omega) (by omega) (by omega) (by rw [hs10]; decide) (by decide) ?_
        by_cases hq : (xs (i + 3).toNat).toInt = 0
        · exact lc_10a hX (by omega) H (hN hi) hq
        · exact lc_10b hX (by omega) H (hN hi) hq
      by_cases hs11 : x = 11
      · refine V_tabIn (pc := 32) (off := 519) (tgt := 551) dL_law_32 (by omega) (by omega) (by omega) (by rw [hs11]; decide) (by decide) ?_
        exact lc_11 hX (by omega) H (hN hi)
      by_cases hs12 : x = 12
      · refine V_tabIn (pc := 32) (off := 562) (tgt := 594) dL_law_32 (by omega) (by omega) (by omega) (by rw [hs12]; decide) (by decide) ?_
        exact lc_12 hX (by omega) H (hN hi)
      by_cases hs13 : x = 13
      · refine V_tabIn (pc := 32) (off := 585) (tgt := 617) dL_law_32 (by omega) (by omega) (by omega) (by rw [hs13]; decide) (by decide) ?_
        exact lc_13 hX (by omega) H (hN hi)
      by_cases hs14 : x = 14
      · refine V_tabIn (pc := 32) (off := 628) (tgt := 660) dL_law_32 (by omega) (by omega) (by omega) (by rw [hs14]; decide) (by decide) ?_
        exact lc_14 hX (by omega) H (hN hi)
      by_cases hs15 : x = 15
      · refine V_tabIn (pc := 32) (off := 671) (tgt := 703) dL_law_32 (by omega) (by omega) (by omega) (by rw [hs15]; decide) (by decide) ?_
        exact lc_15 hX (by omega) H (hN hi)
      by_cases hs16 : x = 16
      · refine V_tabIn (pc := 32) (off := 714) (tgt := 746) dL_law_32 (by omega) (by omega) (by omega) (by rw [hs16]; decide) (by decide) ?_
        exact lc_16 hX (by omega) H (hN hi)
      by_cases hs17 : x = 17
      · refine V_tabIn (pc := 32) (off := 727) (tgt := 759) dL_law_32 (by omega) (by omega) (by omega) (by rw [hs17]; decide) (by decide) ?_
        exact lc_17 hX (by omega) H (hN hi)
      by_cases hs18 : x = 18
      · refine V_tabIn (pc := 32) (off := 750) (tgt := 782) dL_law_32 (by omega) (by omega) (by omega) (by rw [hs18]; decide) (by decide) ?_
        exact lc_18 hX (by omega) H (hN hi)
      by_cases hs19 : x = 19
      · refine V_tabIn (pc := 32) (off := 763) (tgt := 795) dL_law_32 (by omega) (by omega) (by omega) (by rw [hs19]; decide) (by decide) ?_
        by_cases hq : (xs (i + 1).toNat).toInt = 0
        · exact lc_19a hX (by omega) H (hN hi) hq
        · exact lc_19b hX (by omega) H (hN hi) hq
      by_cases hs20 : x = 20
      · refine V_tabIn (pc := 32) (off := 802) (tgt := 834) dL_law_32 (by omega) (by omega) (by omega) (by rw [hs20]; decide) (by decide) ?_
        exact lc_20 hX (by omega) H (hN hi)
      by_cases hs21 : x = 21
      · refine V_tabIn (pc := 32) (off := 815) (tgt := 847) dL_law_32 (by omega) (by omega) (by omega) (by rw [hs21]; decide) (by decide) ?_
        exact lc_21 hX (by omega) H (hN hi)
      by_cases hs22 : x = 22
      · refine V_tabIn (pc := 32) (off := 838) (tgt := 870) dL_law_32 (by omega) (by omega) (by omega) (by rw [hs22]; decide) (by decide) ?_
        exact lc_22 hX (by omega) H (hN hi)
      by_cases hs23 : x = 23
      · refine V_tabIn (pc := 32) (off := 881) (tgt := 913) dL_law_32 (by omega) (by omega) (by omega) (by rw [hs23]; decide) (by decide) ?_
        exact lc_23 hX (by omega) H (hN hi)
      by_cases hs24 : x = 24
      · refine V_tabIn (pc := 32) (off := 904) (tgt := 936) dL_law_32 (by omega) (by omega) (by omega) (by rw [hs24]; decide) (by decide) ?_
        exact lc_24 hX (by omega) H (hN hi)
      by_cases hs25 : x = 25
      · refine V_tabIn (pc := 32) (off := 957) (tgt := 989) dL_law_32 (by omega) (by omega) (by omega) (by rw [hs25]; decide) (by decide) ?_
        exact lc_25 hX (by omega) H (hN hi)
      by_cases hs26 : x = 26
      · refine V_tabIn (pc := 32) (off := 970) (tgt := 1002) dL_law_32 (by omega) (by omega) (by omega) (by rw [hs26]; decide) (by decide) ?_
        exact lc_26 hX (by omega) H (hN hi)
      by_cases hs27 : x = 27
      · refine V_tabIn (pc := 32) (off := 983) (tgt := 1015) dL_law_32 (by omega) (by omega) (by omega) (by rw [hs27]; decide) (by decide) ?_
        exact lc_27 hX (by omega) H (hN hi)
      by_cases hs28 : x = 28
      · refine V_tabIn (pc := 32) (off := 1016) (tgt := 1048) dL_law_32 (by omega) (by omega) (by omega) (by rw [hs28]; decide) (by decide) ?_
        exact lc_28 hX (by omega) H (hN hi)
      by_cases hs29 : x = 29
      · refine V_tabIn (pc := 32) (off := 1039) (tgt := 1071) dL_law_32 (by omega) (by omega) (by omega) (by rw [hs29]; decide) (by decide) ?_
        exact lc_29 hX (by omega) H (hN hi)
      by_cases hs30 : x = 30
      · refine V_tabIn (pc := 32) (off := 1062) (tgt := 1094) dL_law_32 (by omega) (by omega) (by omega) (by rw [hs30]; decide) (by decide) ?_
        exact lc_30 hX (by omega) H (hN hi)
      refine V_tabOut (pc := 32) (tgt := 1117) dL_law_32 (by omega) (by omega) (by decide) ?_
      exact (hN hi) _ H
