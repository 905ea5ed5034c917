/-! the law's calls, one by one, and its loop -/
def mL_law : px_M := (yL_law, cL_law, 4, some .boolean)
def lw_E : px_Q := fun r _ _ => r = some (.int 1)
abbrev lw_V (l : Launch) (L : Nat) (xs : Nat → Int32) (kc ks pc i : Nat) (st : List Value) (I : px_I) (J : px_J) : Prop := V0 l room_1 mL_law (false, [(L, xs)]) kc ks pc [.float 4, .ref 0, .ref 54, .int (nI i)] st (px_mk I J) (px_q lw_E)
section LC
variable {l : Launch} {L : Nat} {xs : Nat → Int32} {kc ks i : Nat} {I : px_I} {J : px_J}
theorem lw_nx (k : lw_V l L xs kc ks 18 (i + 6) [] I J) : lw_V l L xs kc ks 1446 i [] I J := by
  refine V0_iinc_3 (pc := 1446) (nI (i + 6)) dL_law_1446 (by decide) rfl (by rw [show Int32.ofInt 6 = nI 6 from by decide]; exact qI_add i 6) ?_
  refine V0_goto (pc := 1449) 18 dL_law_1449 (by decide) ?_
  exact k
theorem lc_person {v : Int32} (hL : L < 2 ^ 31) (hi : i + 6 ≤ L) (hc : kc ≤ room_1.cells ∧ ks ≤ room_1.slots) (h : r_ex I J) (e : v = 0) (next : ∀ I' J', r_ex I' J' → lw_V l L xs kc ks 18 (i + 6) [] I' J') : lw_V l L xs kc ks 33 i [.int v] I J := by
  refine V_tabIn (pc := 33) (off := 179) (0) 212 dL_law_33 e (by decide) (by decide) (by decide) (by decide) ?_
  refine V0_aload_n (pc := 212) dL_law_212 rfl ?_
  refine V0_taload_n (pc := 213) dL_law_213 rfl ?_
  refine V0_iload_n (pc := 214) dL_law_214 rfl ?_
  refine V0_iconst (pc := 215) (1) dL_law_215 (by decide) ?_
  refine V0_iadd (pc := 216) dL_law_216 ?_
  refine V_tald (pc := 217) (n := L) (f := xs) (i + 1) dL_law_217 rfl hL (show nI i + 1 = nI (i + 1) from qI_add i 1) (by omega) ?_
  refine V_callV (pc := 218) (M' := mX11_person) dL_law_218 mlL_13 okX11_person rfl (st_person (x := xs (i + 1)) h) rfl rfl rfl rfl ⟨Nat.le_of_ble_eq_true rfl, Nat.le_of_ble_eq_true rfl⟩ hc (Nat.le_of_ble_eq_true rfl) ?_
  intro r1 I1 J1 hh
  obtain ⟨x1, e1, c2⟩ := hh
  rw [e1]
  clear e1 r1
  refine V0_aload_n (pc := 221) dL_law_221 rfl ?_
  refine V0_taload_n (pc := 222) dL_law_222 rfl ?_
  refine V0_iload_n (pc := 223) dL_law_223 rfl ?_
  refine V0_iconst (pc := 224) (1) dL_law_224 (by decide) ?_
  refine V0_iadd (pc := 225) dL_law_225 ?_
  refine V_tald (pc := 226) (n := L) (f := xs) (i + 1) dL_law_226 rfl hL (show nI i + 1 = nI (i + 1) from qI_add i 1) (by omega) ?_
  refine V_callV (pc := 227) (M' := mX12_person) dL_law_227 mlL_17 okX12_person rfl c2 rfl rfl rfl rfl ⟨Nat.le_of_ble_eq_true rfl, Nat.le_of_ble_eq_true rfl⟩ hc (Nat.le_of_ble_eq_true rfl) ?_
  intro r2 I2 J2 hh
  obtain ⟨e2, h2⟩ := hh
  rw [e2]
  clear e2 r2
  refine V0_icmp_eq (pc := 230) 1446 dL_law_230 (by decide) (fun _ => ?_) (fun q => absurd rfl q)
  exact lw_nx (next _ _ h2)
theorem lc_joy {v : Int32} (hL : L < 2 ^ 31) (hi : i + 6 ≤ L) (hc : kc ≤ room_1.cells ∧ ks ≤ room_1.slots) (h : r_ex I J) (e : v = 1) (next : ∀ I' J', r_ex I' J' → lw_V l L xs kc ks 18 (i + 6) [] I' J') : lw_V l L xs kc ks 33 i [.int v] I J := by
  refine V_tabIn (pc := 33) (off := 202) (1) 235 dL_law_33 e (by decide) (by decide) (by decide) (by decide) ?_
  refine V0_aload_n (pc := 235) dL_law_235 rfl ?_
  refine V0_taload_n (pc := 236) dL_law_236 rfl ?_
  refine V0_iload_n (pc := 237) dL_law_237 rfl ?_
  refine V0_iconst (pc := 238) (1) dL_law_238 (by decide) ?_
  refine V0_iadd (pc := 239) dL_law_239 ?_
  refine V_tald (pc := 240) (n := L) (f := xs) (i + 1) dL_law_240 rfl hL (show nI i + 1 = nI (i + 1) from qI_add i 1) (by omega) ?_
  refine V0_taload_n (pc := 241) dL_law_241 rfl ?_
  refine V0_iload_n (pc := 242) dL_law_242 rfl ?_
  refine V0_iconst (pc := 243) (2) dL_law_243 (by decide) ?_
  refine V0_iadd (pc := 244) dL_law_244 ?_
  refine V_tald (pc := 245) (n := L) (f := xs) (i + 2) dL_law_245 rfl hL (show nI i + 2 = nI (i + 2) from qI_add i 2) (by omega) ?_
  refine V_callV (pc := 246) (M' := mX11_joy) dL_law_246 mlL_18 okX11_joy rfl (st_joy (x := xs (i + 1)) (v := xs (i + 2)) h) rfl rfl rfl rfl ⟨Nat.le_of_ble_eq_true rfl, Nat.le_of_ble_eq_true rfl⟩ hc (Nat.le_of_ble_eq_true rfl) ?_
  intro r1 I1 J1 hh
  obtain ⟨x1, e1, c2⟩ := hh
  rw [e1]
  clear e1 r1
  refine V0_aload_n (pc := 249) dL_law_249 rfl ?_
  refine V0_taload_n (pc := 250) dL_law_250 rfl ?_
  refine V0_iload_n (pc := 251) dL_law_251 rfl ?_
  refine V0_iconst (pc := 252) (1) dL_law_252 (by decide) ?_
  refine V0_iadd (pc := 253) dL_law_253 ?_
  refine V_tald (pc := 254) (n := L) (f := xs) (i + 1) dL_law_254 rfl hL (show nI i + 1 = nI (i + 1) from qI_add i 1) (by omega) ?_
  refine V0_taload_n (pc := 255) dL_law_255 rfl ?_
  refine V0_iload_n (pc := 256) dL_law_256 rfl ?_
  refine V0_iconst (pc := 257) (2) dL_law_257 (by decide) ?_
  refine V0_iadd (pc := 258) dL_law_258 ?_
  refine V_tald (pc := 259) (n := L) (f := xs) (i + 2) dL_law_259 rfl hL (show nI i + 2 = nI (i + 2) from qI_add i 2) (by omega) ?_
  refine V_callV (pc := 260) (M' := mX12_joy) dL_law_260 mlL_22 okX12_joy rfl c2 rfl rfl rfl rfl ⟨Nat.le_of_ble_eq_true rfl, Nat.le_of_ble_eq_true rfl⟩ hc (Nat.le_of_ble_eq_true rfl) ?_
  intro r2 I2 J2 hh
  obtain ⟨e2, h2⟩ := hh
  rw [e2]
  clear e2 r2
  refine V0_icmp_eq (pc := 263) 1446 dL_law_263 (by decide) (fun _ => ?_) (fun q => absurd rfl q)
  exact lw_nx (next _ _ h2)
theorem lc_joys {v : Int32} (hL : L < 2 ^ 31) (hi : i + 6 ≤ L) (hc : kc ≤ room_1.cells ∧ ks ≤ room_1.slots) (h : r_ex I J) (e : v = 2) (next : ∀ I' J', r_ex I' J' → lw_V l L xs kc ks 18 (i + 6) [] I' J') : lw_V l L xs kc ks 33 i [.int v] I J := by
  refine V_tabIn (pc := 33) (off := 235) (2) 268 dL_law_33 e (by decide) (by decide) (by decide) (by decide) ?_
  refine V0_aload_n (pc := 268) dL_law_268 rfl ?_
  refine V0_taload_n (pc := 269) dL_law_269 rfl ?_
  refine V0_iload_n (pc := 270) dL_law_270 rfl ?_
  refine V0_iconst (pc := 271) (1) dL_law_271 (by decide) ?_
  refine V0_iadd (pc := 272) dL_law_272 ?_
  refine V_tald (pc := 273) (n := L) (f := xs) (i + 1) dL_law_273 rfl hL (show nI i + 1 = nI (i + 1) from qI_add i 1) (by omega) ?_
  refine V0_taload_n (pc := 274) dL_law_274 rfl ?_
  refine V0_iload_n (pc := 275) dL_law_275 rfl ?_
  refine V0_iconst (pc := 276) (2) dL_law_276 (by decide) ?_
  refine V0_iadd (pc := 277) dL_law_277 ?_
  refine V_tald (pc := 278) (n := L) (f := xs) (i + 2) dL_law_278 rfl hL (show nI i + 2 = nI (i + 2) from qI_add i 2) (by omega) ?_
  refine V0_taload_n (pc := 279) dL_law_279 rfl ?_
  refine V0_iload_n (pc := 280) dL_law_280 rfl ?_
  refine V0_iconst (pc := 281) (3) dL_law_281 (by decide) ?_
  refine V0_iadd (pc := 282) dL_law_282 ?_
  refine V_tald (pc := 283) (n := L) (f := xs) (i + 3) dL_law_283 rfl hL (show nI i + 3 = nI (i + 3) from qI_add i 3) (by omega) ?_
  refine V_callV (pc := 284) (M' := mX11_joys) dL_law_284 mlL_23 okX11_joys rfl (st_joys (s := xs (i + 1)) (i := xs (i + 2)) (x := xs (i + 3)) h) rfl rfl rfl rfl ⟨Nat.le_of_ble_eq_true rfl, Nat.le_of_ble_eq_true rfl⟩ hc (Nat.le_of_ble_eq_true rfl) ?_
  intro r1 I1 J1 hh
  obtain ⟨x1, e1, c2⟩ := hh
  rw [e1]
  clear e1 r1
  refine V0_aload_n (pc := 287) dL_law_287 rfl ?_
  refine V0_taload_n (pc := 288) dL_law_288 rfl ?_
  refine V0_iload_n (pc := 289) dL_law_289 rfl ?_
  refine V0_iconst (pc := 290) (1) dL_law_290 (by decide) ?_
  refine V0_iadd (pc := 291) dL_law_291 ?_
  refine V_tald (pc := 292) (n := L) (f := xs) (i + 1) dL_law_292 rfl hL (show nI i + 1 = nI (i + 1) from qI_add i 1) (by omega) ?_
  refine V0_taload_n (pc := 293) dL_law_293 rfl ?_
  refine V0_iload_n (pc := 294) dL_law_294 rfl ?_
  refine V0_iconst (pc := 295) (2) dL_law_295 (by decide) ?_
  refine V0_iadd (pc := 296) dL_law_296 ?_
  refine V_tald (pc := 297) (n := L) (f := xs) (i + 2) dL_law_297 rfl hL (show nI i + 2 = nI (i + 2) from qI_add i 2) (by omega) ?_
  refine V0_taload_n (pc := 298) dL_law_298 rfl ?_
  refine V0_iload_n (pc := 299) dL_law_299 rfl ?_
  refine V0_iconst (pc := 300) (3) dL_law_300 (by decide) ?_
  refine V0_iadd (pc := 301) dL_law_301 ?_
  refine V_tald (pc := 302) (n := L) (f := xs) (i + 3) dL_law_302 rfl hL (show nI i + 3 = nI (i + 3) from qI_add i 3) (by omega) ?_
  refine V_callV (pc := 303) (M' := mX12_joys) dL_law_303 mlL_27 okX12_joys rfl c2 rfl rfl rfl rfl ⟨Nat.le_of_ble_eq_true rfl, Nat.le_of_ble_eq_true rfl⟩ hc (Nat.le_of_ble_eq_true rfl) ?_
  intro r2 I2 J2 hh
  obtain ⟨e2, h2⟩ := hh
  rw [e2]
  clear e2 r2
  refine V0_icmp_eq (pc := 306) 1446 dL_law_306 (by decide) (fun _ => ?_) (fun q => absurd rfl q)
  exact lw_nx (next _ _ h2)
theorem lc_mend {v : Int32} (hL : L < 2 ^ 31) (hi : i + 6 ≤ L) (hc : kc ≤ room_1.cells ∧ ks ≤ room_1.slots) (h : r_ex I J) (e : v = 3) (next : ∀ I' J', r_ex I' J' → lw_V l L xs kc ks 18 (i + 6) [] I' J') : lw_V l L xs kc ks 33 i [.int v] I J := by
  refine V_tabIn (pc := 33) (off := 278) (3) 311 dL_law_33 e (by decide) (by decide) (by decide) (by decide) ?_
  refine V0_aload_n (pc := 311) dL_law_311 rfl ?_
  refine V0_taload_n (pc := 312) dL_law_312 rfl ?_
  refine V0_iload_n (pc := 313) dL_law_313 rfl ?_
  refine V0_iconst (pc := 314) (1) dL_law_314 (by decide) ?_
  refine V0_iadd (pc := 315) dL_law_315 ?_
  refine V_tald (pc := 316) (n := L) (f := xs) (i + 1) dL_law_316 rfl hL (show nI i + 1 = nI (i + 1) from qI_add i 1) (by omega) ?_
  refine V0_taload_n (pc := 317) dL_law_317 rfl ?_
  refine V0_iload_n (pc := 318) dL_law_318 rfl ?_
  refine V0_iconst (pc := 319) (2) dL_law_319 (by decide) ?_
  refine V0_iadd (pc := 320) dL_law_320 ?_
  refine V_tald (pc := 321) (n := L) (f := xs) (i + 2) dL_law_321 rfl hL (show nI i + 2 = nI (i + 2) from qI_add i 2) (by omega) ?_
  refine V0_taload_n (pc := 322) dL_law_322 rfl ?_
  refine V0_iload_n (pc := 323) dL_law_323 rfl ?_
  refine V0_iconst (pc := 324) (3) dL_law_324 (by decide) ?_
  refine V0_iadd (pc := 325) dL_law_325 ?_
  refine V_tald (pc := 326) (n := L) (f := xs) (i + 3) dL_law_326 rfl hL (show nI i + 3 = nI (i + 3) from qI_add i 3) (by omega) ?_
  refine V_callV (pc := 327) (M' := mX11_mend) dL_law_327 mlL_28 okX11_mend rfl (st_mend (x := xs (i + 1)) (w := xs (i + 2)) (v := xs (i + 3)) h) rfl rfl rfl rfl ⟨Nat.le_of_ble_eq_true rfl, Nat.le_of_ble_eq_true rfl⟩ hc (Nat.le_of_ble_eq_true rfl) ?_
  intro r1 I1 J1 hh
  obtain ⟨x1, e1, c2⟩ := hh
  rw [e1]
  clear e1 r1
  refine V0_aload_n (pc := 330) dL_law_330 rfl ?_
  refine V0_taload_n (pc := 331) dL_law_331 rfl ?_
  refine V0_iload_n (pc := 332) dL_law_332 rfl ?_
  refine V0_iconst (pc := 333) (1) dL_law_333 (by decide) ?_
  refine V0_iadd (pc := 334) dL_law_334 ?_
  refine V_tald (pc := 335) (n := L) (f := xs) (i + 1) dL_law_335 rfl hL (show nI i + 1 = nI (i + 1) from qI_add i 1) (by omega) ?_
  refine V0_taload_n (pc := 336) dL_law_336 rfl ?_
  refine V0_iload_n (pc := 337) dL_law_337 rfl ?_
  refine V0_iconst (pc := 338) (2) dL_law_338 (by decide) ?_
  refine V0_iadd (pc := 339) dL_law_339 ?_
  refine V_tald (pc := 340) (n := L) (f := xs) (i + 2) dL_law_340 rfl hL (show nI i + 2 = nI (i + 2) from qI_add i 2) (by omega) ?_
  refine V0_taload_n (pc := 341) dL_law_341 rfl ?_
  refine V0_iload_n (pc := 342) dL_law_342 rfl ?_
  refine V0_iconst (pc := 343) (3) dL_law_343 (by decide) ?_
  refine V0_iadd (pc := 344) dL_law_344 ?_
  refine V_tald (pc := 345) (n := L) (f := xs) (i + 3) dL_law_345 rfl hL (show nI i + 3 = nI (i + 3) from qI_add i 3) (by omega) ?_
  refine V_callV (pc := 346) (M' := mX12_mend) dL_law_346 mlL_31 okX12_mend rfl c2 rfl rfl rfl rfl ⟨Nat.le_of_ble_eq_true rfl, Nat.le_of_ble_eq_true rfl⟩ hc (Nat.le_of_ble_eq_true rfl) ?_
  intro r2 I2 J2 hh
  obtain ⟨e2, h2⟩ := hh
  rw [e2]
  clear e2 r2
  refine V0_icmp_eq (pc := 349) 1446 dL_law_349 (by decide) (fun _ => ?_) (fun q => absurd rfl q)
  exact lw_nx (next _ _ h2)
theorem lc_of {v : Int32} (hL : L < 2 ^ 31) (hi : i + 6 ≤ L) (hc : kc ≤ room_1.cells ∧ ks ≤ room_1.slots) (h : r_ex I J) (e : v = 4) (next : ∀ I' J', r_ex I' J' → lw_V l L xs kc ks 18 (i + 6) [] I' J') : lw_V l L xs kc ks 33 i [.int v] I J := by
  refine V_tabIn (pc := 33) (off := 321) (4) 354 dL_law_33 e (by decide) (by decide) (by decide) (by decide) ?_
  refine V0_aload_n (pc := 354) dL_law_354 rfl ?_
  refine V0_taload_n (pc := 355) dL_law_355 rfl ?_
  refine V0_iload_n (pc := 356) dL_law_356 rfl ?_
  refine V0_iconst (pc := 357) (1) dL_law_357 (by decide) ?_
  refine V0_iadd (pc := 358) dL_law_358 ?_
  refine V_tald (pc := 359) (n := L) (f := xs) (i + 1) dL_law_359 rfl hL (show nI i + 1 = nI (i + 1) from qI_add i 1) (by omega) ?_
  refine V0_taload_n (pc := 360) dL_law_360 rfl ?_
  refine V0_iload_n (pc := 361) dL_law_361 rfl ?_
  refine V0_iconst (pc := 362) (2) dL_law_362 (by decide) ?_
  refine V0_iadd (pc := 363) dL_law_363 ?_
  refine V_tald (pc := 364) (n := L) (f := xs) (i + 2) dL_law_364 rfl hL (show nI i + 2 = nI (i + 2) from qI_add i 2) (by omega) ?_
  refine V_callV (pc := 365) (M' := mX11_of) dL_law_365 mlL_32 okX11_of rfl (st_of (x := xs (i + 1)) (w := xs (i + 2)) h) rfl rfl rfl rfl ⟨Nat.le_of_ble_eq_true rfl, Nat.le_of_ble_eq_true rfl⟩ hc (Nat.le_of_ble_eq_true rfl) ?_
  intro r1 I1 J1 hh
  obtain ⟨x1, e1, c2⟩ := hh
  rw [e1]
  clear e1 r1
  refine V0_aload_n (pc := 368) dL_law_368 rfl ?_
  refine V0_taload_n (pc := 369) dL_law_369 rfl ?_
  refine V0_iload_n (pc := 370) dL_law_370 rfl ?_
  refine V0_iconst (pc := 371) (1) dL_law_371 (by decide) ?_
  refine V0_iadd (pc := 372) dL_law_372 ?_
  refine V_tald (pc := 373) (n := L) (f := xs) (i + 1) dL_law_373 rfl hL (show nI i + 1 = nI (i + 1) from qI_add i 1) (by omega) ?_
  refine V0_taload_n (pc := 374) dL_law_374 rfl ?_
  refine V0_iload_n (pc := 375) dL_law_375 rfl ?_
  refine V0_iconst (pc := 376) (2) dL_law_376 (by decide) ?_
  refine V0_iadd (pc := 377) dL_law_377 ?_
  refine V_tald (pc := 378) (n := L) (f := xs) (i + 2) dL_law_378 rfl hL (show nI i + 2 = nI (i + 2) from qI_add i 2) (by omega) ?_
  refine V_callV (pc := 379) (M' := mX12_of) dL_law_379 mlL_35 okX12_of rfl c2 rfl rfl rfl rfl ⟨Nat.le_of_ble_eq_true rfl, Nat.le_of_ble_eq_true rfl⟩ hc (Nat.le_of_ble_eq_true rfl) ?_
  intro r2 I2 J2 hh
  obtain ⟨e2, h2⟩ := hh
  rw [e2]
  clear e2 r2
  refine V0_icmp_eq (pc := 382) 1446 dL_law_382 (by decide) (fun _ => ?_) (fun q => absurd rfl q)
  exact lw_nx (next _ _ h2)
theorem lc_feed {v : Int32} (hL : L < 2 ^ 31) (hi : i + 6 ≤ L) (hc : kc ≤ room_1.cells ∧ ks ≤ room_1.slots) (h : r_ex I J) (e : v = 5) (next : ∀ I' J', r_ex I' J' → lw_V l L xs kc ks 18 (i + 6) [] I' J') : lw_V l L xs kc ks 33 i [.int v] I J := by
  refine V_tabIn (pc := 33) (off := 354) (5) 387 dL_law_33 e (by decide) (by decide) (by decide) (by decide) ?_
  refine V0_aload_n (pc := 387) dL_law_387 rfl ?_
  refine V0_taload_n (pc := 388) dL_law_388 rfl ?_
  refine V0_iload_n (pc := 389) dL_law_389 rfl ?_
  refine V0_iconst (pc := 390) (1) dL_law_390 (by decide) ?_
  refine V0_iadd (pc := 391) dL_law_391 ?_
  refine V_tald (pc := 392) (n := L) (f := xs) (i + 1) dL_law_392 rfl hL (show nI i + 1 = nI (i + 1) from qI_add i 1) (by omega) ?_
  refine V_callV (pc := 393) (M' := mX11_feed) dL_law_393 mlL_36 okX11_feed rfl (st_feed (x := xs (i + 1)) h) rfl rfl rfl rfl ⟨Nat.le_of_ble_eq_true rfl, Nat.le_of_ble_eq_true rfl⟩ hc (Nat.le_of_ble_eq_true rfl) ?_
  intro r1 I1 J1 hh
  obtain ⟨x1, e1, c2⟩ := hh
  rw [e1]
  clear e1 r1
  refine V0_aload_n (pc := 396) dL_law_396 rfl ?_
  refine V0_taload_n (pc := 397) dL_law_397 rfl ?_
  refine V0_iload_n (pc := 398) dL_law_398 rfl ?_
  refine V0_iconst (pc := 399) (1) dL_law_399 (by decide) ?_
  refine V0_iadd (pc := 400) dL_law_400 ?_
  refine V_tald (pc := 401) (n := L) (f := xs) (i + 1) dL_law_401 rfl hL (show nI i + 1 = nI (i + 1) from qI_add i 1) (by omega) ?_
  refine V_callV (pc := 402) (M' := mX12_feed) dL_law_402 mlL_39 okX12_feed rfl c2 rfl rfl rfl rfl ⟨Nat.le_of_ble_eq_true rfl, Nat.le_of_ble_eq_true rfl⟩ hc (Nat.le_of_ble_eq_true rfl) ?_
  intro r2 I2 J2 hh
  obtain ⟨e2, h2⟩ := hh
  rw [e2]
  clear e2 r2
  refine V0_icmp_eq (pc := 405) 1446 dL_law_405 (by decide) (fun _ => ?_) (fun q => absurd rfl q)
  exact lw_nx (next _ _ h2)
theorem lc_law {v : Int32} (hL : L < 2 ^ 31) (hi : i + 6 ≤ L) (hc : kc ≤ room_1.cells ∧ ks ≤ room_1.slots) (h : r_ex I J) (e : v = 6) (next : ∀ I' J', r_ex I' J' → lw_V l L xs kc ks 18 (i + 6) [] I' J') : lw_V l L xs kc ks 33 i [.int v] I J := by
  refine V_tabIn (pc := 33) (off := 377) (6) 410 dL_law_33 e (by decide) (by decide) (by decide) (by decide) ?_
  refine V0_aload_n (pc := 410) dL_law_410 rfl ?_
  refine V_callV (pc := 411) (M' := mX11_law) dL_law_411 mlL_40 okX11_law rfl (st_law  h) rfl rfl rfl rfl ⟨Nat.le_of_ble_eq_true rfl, Nat.le_of_ble_eq_true rfl⟩ hc (Nat.le_of_ble_eq_true rfl) ?_
  intro r1 I1 J1 hh
  obtain ⟨x1, e1, c2⟩ := hh
  rw [e1]
  clear e1 r1
  refine V0_aload_n (pc := 414) dL_law_414 rfl ?_
  refine V_callV (pc := 415) (M' := mX12_law) dL_law_415 mlL_44 okX12_law rfl c2 rfl rfl rfl rfl ⟨Nat.le_of_ble_eq_true rfl, Nat.le_of_ble_eq_true rfl⟩ hc (Nat.le_of_ble_eq_true rfl) ?_
  intro r2 I2 J2 hh
  obtain ⟨e2, h2⟩ := hh
  rw [e2]
  clear e2 r2
  refine V0_icmp_eq (pc := 418) 1446 dL_law_418 (by decide) (fun _ => ?_) (fun q => absurd rfl q)
  exact lw_nx (next _ _ h2)
theorem lc_smell {v : Int32} (hL : L < 2 ^ 31) (hi : i + 6 ≤ L) (hc : kc ≤ room_1.cells ∧ ks ≤ room_1.slots) (h : r_ex I J) (e : v = 7) (next : ∀ I' J', r_ex I' J' → lw_V l L xs kc ks 18 (i + 6) [] I' J') : lw_V l L xs kc ks 33 i [.int v] I J := by
  refine V_tabIn (pc := 33) (off := 390) (7) 423 dL_law_33 e (by decide) (by decide) (by decide) (by decide) ?_
  refine V0_aload_n (pc := 423) dL_law_423 rfl ?_
  refine V0_taload_n (pc := 424) dL_law_424 rfl ?_
  refine V0_iload_n (pc := 425) dL_law_425 rfl ?_
  refine V0_iconst (pc := 426) (1) dL_law_426 (by decide) ?_
  refine V0_iadd (pc := 427) dL_law_427 ?_
  refine V_tald (pc := 428) (n := L) (f := xs) (i + 1) dL_law_428 rfl hL (show nI i + 1 = nI (i + 1) from qI_add i 1) (by omega) ?_
  refine V0_taload_n (pc := 429) dL_law_429 rfl ?_
  refine V0_iload_n (pc := 430) dL_law_430 rfl ?_
  refine V0_iconst (pc := 431) (2) dL_law_431 (by decide) ?_
  refine V0_iadd (pc := 432) dL_law_432 ?_
  refine V_tald (pc := 433) (n := L) (f := xs) (i + 2) dL_law_433 rfl hL (show nI i + 2 = nI (i + 2) from qI_add i 2) (by omega) ?_
  refine V_callV (pc := 434) (M' := mX11_smell) dL_law_434 mlL_45 okX11_smell rfl (st_smell (x := xs (i + 1)) (w := xs (i + 2)) h) rfl rfl rfl rfl ⟨Nat.le_of_ble_eq_true rfl, Nat.le_of_ble_eq_true rfl⟩ hc (Nat.le_of_ble_eq_true rfl) ?_
  intro r1 I1 J1 hh
  obtain ⟨x1, e1, c2⟩ := hh
  rw [e1]
  clear e1 r1
  refine V0_aload_n (pc := 437) dL_law_437 rfl ?_
  refine V0_taload_n (pc := 438) dL_law_438 rfl ?_
  refine V0_iload_n (pc := 439) dL_law_439 rfl ?_
  refine V0_iconst (pc := 440) (1) dL_law_440 (by decide) ?_
  refine V0_iadd (pc := 441) dL_law_441 ?_
  refine V_tald (pc := 442) (n := L) (f := xs) (i + 1) dL_law_442 rfl hL (show nI i + 1 = nI (i + 1) from qI_add i 1) (by omega) ?_
  refine V0_taload_n (pc := 443) dL_law_443 rfl ?_
  refine V0_iload_n (pc := 444) dL_law_444 rfl ?_
  refine V0_iconst (pc := 445) (2) dL_law_445 (by decide) ?_
  refine V0_iadd (pc := 446) dL_law_446 ?_
  refine V_tald (pc := 447) (n := L) (f := xs) (i + 2) dL_law_447 rfl hL (show nI i + 2 = nI (i + 2) from qI_add i 2) (by omega) ?_
  refine V_callV (pc := 448) (M' := mX12_smell) dL_law_448 mlL_48 okX12_smell rfl c2 rfl rfl rfl rfl ⟨Nat.le_of_ble_eq_true rfl, Nat.le_of_ble_eq_true rfl⟩ hc (Nat.le_of_ble_eq_true rfl) ?_
  intro r2 I2 J2 hh
  obtain ⟨e2, h2⟩ := hh
  rw [e2]
  clear e2 r2
  refine V0_icmp_eq (pc := 451) 1446 dL_law_451 (by decide) (fun _ => ?_) (fun q => absurd rfl q)
  exact lw_nx (next _ _ h2)
theorem lc_smelt {v : Int32} (hL : L < 2 ^ 31) (hi : i + 6 ≤ L) (hc : kc ≤ room_1.cells ∧ ks ≤ room_1.slots) (h : r_ex I J) (e : v = 8) (next : ∀ I' J', r_ex I' J' → lw_V l L xs kc ks 18 (i + 6) [] I' J') : lw_V l L xs kc ks 33 i [.int v] I J := by
  refine V_tabIn (pc := 33) (off := 423) (8) 456 dL_law_33 e (by decide) (by decide) (by decide) (by decide) ?_
  refine V0_aload_n (pc := 456) dL_law_456 rfl ?_
  refine V0_taload_n (pc := 457) dL_law_457 rfl ?_
  refine V0_iload_n (pc := 458) dL_law_458 rfl ?_
  refine V0_iconst (pc := 459) (1) dL_law_459 (by decide) ?_
  refine V0_iadd (pc := 460) dL_law_460 ?_
  refine V_tald (pc := 461) (n := L) (f := xs) (i + 1) dL_law_461 rfl hL (show nI i + 1 = nI (i + 1) from qI_add i 1) (by omega) ?_
  refine V_callV (pc := 462) (M' := mX11_smelt) dL_law_462 mlL_49 okX11_smelt rfl (st_smelt (x := xs (i + 1)) h) rfl rfl rfl rfl ⟨Nat.le_of_ble_eq_true rfl, Nat.le_of_ble_eq_true rfl⟩ hc (Nat.le_of_ble_eq_true rfl) ?_
  intro r1 I1 J1 hh
  obtain ⟨x1, e1, c2⟩ := hh
  rw [e1]
  clear e1 r1
  refine V0_aload_n (pc := 465) dL_law_465 rfl ?_
  refine V0_taload_n (pc := 466) dL_law_466 rfl ?_
  refine V0_iload_n (pc := 467) dL_law_467 rfl ?_
  refine V0_iconst (pc := 468) (1) dL_law_468 (by decide) ?_
  refine V0_iadd (pc := 469) dL_law_469 ?_
  refine V_tald (pc := 470) (n := L) (f := xs) (i + 1) dL_law_470 rfl hL (show nI i + 1 = nI (i + 1) from qI_add i 1) (by omega) ?_
  refine V_callV (pc := 471) (M' := mX12_smelt) dL_law_471 mlL_52 okX12_smelt rfl c2 rfl rfl rfl rfl ⟨Nat.le_of_ble_eq_true rfl, Nat.le_of_ble_eq_true rfl⟩ hc (Nat.le_of_ble_eq_true rfl) ?_
  intro r2 I2 J2 hh
  obtain ⟨e2, h2⟩ := hh
  rw [e2]
  clear e2 r2
  refine V0_icmp_eq (pc := 474) 1446 dL_law_474 (by decide) (fun _ => ?_) (fun q => absurd rfl q)
  exact lw_nx (next _ _ h2)
theorem lc_shut {v : Int32} (hL : L < 2 ^ 31) (hi : i + 6 ≤ L) (hc : kc ≤ room_1.cells ∧ ks ≤ room_1.slots) (h : r_ex I J) (e : v = 9) (next : ∀ I' J', r_ex I' J' → lw_V l L xs kc ks 18 (i + 6) [] I' J') : lw_V l L xs kc ks 33 i [.int v] I J := by
  refine V_tabIn (pc := 33) (off := 446) (9) 479 dL_law_33 e (by decide) (by decide) (by decide) (by decide) ?_
  refine V0_aload_n (pc := 479) dL_law_479 rfl ?_
  refine V0_taload_n (pc := 480) dL_law_480 rfl ?_
  refine V0_iload_n (pc := 481) dL_law_481 rfl ?_
  refine V0_iconst (pc := 482) (1) dL_law_482 (by decide) ?_
  refine V0_iadd (pc := 483) dL_law_483 ?_
  refine V_tald (pc := 484) (n := L) (f := xs) (i + 1) dL_law_484 rfl hL (show nI i + 1 = nI (i + 1) from qI_add i 1) (by omega) ?_
  refine V_callV (pc := 485) (M' := mX11_shut) dL_law_485 mlL_53 okX11_shut rfl (st_shut (x := xs (i + 1)) h) rfl rfl rfl rfl ⟨Nat.le_of_ble_eq_true rfl, Nat.le_of_ble_eq_true rfl⟩ hc (Nat.le_of_ble_eq_true rfl) ?_
  intro r1 I1 J1 hh
  obtain ⟨x1, e1, c2⟩ := hh
  rw [e1]
  clear e1 r1
  refine V0_aload_n (pc := 488) dL_law_488 rfl ?_
  refine V0_taload_n (pc := 489) dL_law_489 rfl ?_
  refine V0_iload_n (pc := 490) dL_law_490 rfl ?_
  refine V0_iconst (pc := 491) (1) dL_law_491 (by decide) ?_
  refine V0_iadd (pc := 492) dL_law_492 ?_
  refine V_tald (pc := 493) (n := L) (f := xs) (i + 1) dL_law_493 rfl hL (show nI i + 1 = nI (i + 1) from qI_add i 1) (by omega) ?_
  refine V_callV (pc := 494) (M' := mX12_shut) dL_law_494 mlL_56 okX12_shut rfl c2 rfl rfl rfl rfl ⟨Nat.le_of_ble_eq_true rfl, Nat.le_of_ble_eq_true rfl⟩ hc (Nat.le_of_ble_eq_true rfl) ?_
  intro r2 I2 J2 hh
  obtain ⟨e2, h2⟩ := hh
  rw [e2]
  clear e2 r2
  refine V0_icmp_eq (pc := 497) 1446 dL_law_497 (by decide) (fun _ => ?_) (fun q => absurd rfl q)
  exact lw_nx (next _ _ h2)
theorem lc_lane {v : Int32} (hL : L < 2 ^ 31) (hi : i + 6 ≤ L) (hc : kc ≤ room_1.cells ∧ ks ≤ room_1.slots) (h : r_ex I J) (e : v = 10) (next : ∀ I' J', r_ex I' J' → lw_V l L xs kc ks 18 (i + 6) [] I' J') : lw_V l L xs kc ks 33 i [.int v] I J := by
  refine V_tabIn (pc := 33) (off := 469) (10) 502 dL_law_33 e (by decide) (by decide) (by decide) (by decide) ?_
  refine V0_aload_n (pc := 502) dL_law_502 rfl ?_
  refine V0_taload_n (pc := 503) dL_law_503 rfl ?_
  refine V0_iload_n (pc := 504) dL_law_504 rfl ?_
  refine V0_iconst (pc := 505) (1) dL_law_505 (by decide) ?_
  refine V0_iadd (pc := 506) dL_law_506 ?_
  refine V_tald (pc := 507) (n := L) (f := xs) (i + 1) dL_law_507 rfl hL (show nI i + 1 = nI (i + 1) from qI_add i 1) (by omega) ?_
  refine V0_taload_n (pc := 508) dL_law_508 rfl ?_
  refine V0_iload_n (pc := 509) dL_law_509 rfl ?_
  refine V0_iconst (pc := 510) (2) dL_law_510 (by decide) ?_
  refine V0_iadd (pc := 511) dL_law_511 ?_
  refine V_tald (pc := 512) (n := L) (f := xs) (i + 2) dL_law_512 rfl hL (show nI i + 2 = nI (i + 2) from qI_add i 2) (by omega) ?_
  refine V_callV (pc := 513) (M' := mX11_lane) dL_law_513 mlL_57 okX11_lane rfl (st_lane (x := xs (i + 1)) (w := xs (i + 2)) h) rfl rfl rfl rfl ⟨Nat.le_of_ble_eq_true rfl, Nat.le_of_ble_eq_true rfl⟩ hc (Nat.le_of_ble_eq_true rfl) ?_
  intro r1 I1 J1 hh
  obtain ⟨x1, e1, c2⟩ := hh
  rw [e1]
  clear e1 r1
  refine V0_aload_n (pc := 516) dL_law_516 rfl ?_
  refine V0_taload_n (pc := 517) dL_law_517 rfl ?_
  refine V0_iload_n (pc := 518) dL_law_518 rfl ?_
  refine V0_iconst (pc := 519) (1) dL_law_519 (by decide) ?_
  refine V0_iadd (pc := 520) dL_law_520 ?_
  refine V_tald (pc := 521) (n := L) (f := xs) (i + 1) dL_law_521 rfl hL (show nI i + 1 = nI (i + 1) from qI_add i 1) (by omega) ?_
  refine V0_taload_n (pc := 522) dL_law_522 rfl ?_
  refine V0_iload_n (pc := 523) dL_law_523 rfl ?_
  refine V0_iconst (pc := 524) (2) dL_law_524 (by decide) ?_
  refine V0_iadd (pc := 525) dL_law_525 ?_
  refine V_tald (pc := 526) (n := L) (f := xs) (i + 2) dL_law_526 rfl hL (show nI i + 2 = nI (i + 2) from qI_add i 2) (by omega) ?_
  refine V_callV (pc := 527) (M' := mX12_lane) dL_law_527 mlL_60 okX12_lane rfl c2 rfl rfl rfl rfl ⟨Nat.le_of_ble_eq_true rfl, Nat.le_of_ble_eq_true rfl⟩ hc (Nat.le_of_ble_eq_true rfl) ?_
  intro r2 I2 J2 hh
  obtain ⟨e2, h2⟩ := hh
  rw [e2]
  clear e2 r2
  refine V0_icmp_eq (pc := 530) 1446 dL_law_530 (by decide) (fun _ => ?_) (fun q => absurd rfl q)
  exact lw_nx (next _ _ h2)
theorem lc_when {v : Int32} (hL : L < 2 ^ 31) (hi : i + 6 ≤ L) (hc : kc ≤ room_1.cells ∧ ks ≤ room_1.slots) (h : r_ex I J) (e : v = 11) (next : ∀ I' J', r_ex I' J' → lw_V l L xs kc ks 18 (i + 6) [] I' J') : lw_V l L xs kc ks 33 i [.int v] I J := by
  refine V_tabIn (pc := 33) (off := 502) (11) 535 dL_law_33 e (by decide) (by decide) (by decide) (by decide) ?_
  refine V0_aload_n (pc := 535) dL_law_535 rfl ?_
  refine V0_taload_n (pc := 536) dL_law_536 rfl ?_
  refine V0_iload_n (pc := 537) dL_law_537 rfl ?_
  refine V0_iconst (pc := 538) (1) dL_law_538 (by decide) ?_
  refine V0_iadd (pc := 539) dL_law_539 ?_
  refine V_tald (pc := 540) (n := L) (f := xs) (i + 1) dL_law_540 rfl hL (show nI i + 1 = nI (i + 1) from qI_add i 1) (by omega) ?_
  refine V0_taload_n (pc := 541) dL_law_541 rfl ?_
  refine V0_iload_n (pc := 542) dL_law_542 rfl ?_
  refine V0_iconst (pc := 543) (2) dL_law_543 (by decide) ?_
  refine V0_iadd (pc := 544) dL_law_544 ?_
  refine V_tald (pc := 545) (n := L) (f := xs) (i + 2) dL_law_545 rfl hL (show nI i + 2 = nI (i + 2) from qI_add i 2) (by omega) ?_
  refine V_callV (pc := 546) (M' := mX11_when) dL_law_546 mlL_61 okX11_when rfl (st_when (x := xs (i + 1)) (w := xs (i + 2)) h) rfl rfl rfl rfl ⟨Nat.le_of_ble_eq_true rfl, Nat.le_of_ble_eq_true rfl⟩ hc (Nat.le_of_ble_eq_true rfl) ?_
  intro r1 I1 J1 hh
  obtain ⟨x1, e1, c2⟩ := hh
  rw [e1]
  clear e1 r1
  refine V0_aload_n (pc := 549) dL_law_549 rfl ?_
  refine V0_taload_n (pc := 550) dL_law_550 rfl ?_
  refine V0_iload_n (pc := 551) dL_law_551 rfl ?_
  refine V0_iconst (pc := 552) (1) dL_law_552 (by decide) ?_
  refine V0_iadd (pc := 553) dL_law_553 ?_
  refine V_tald (pc := 554) (n := L) (f := xs) (i + 1) dL_law_554 rfl hL (show nI i + 1 = nI (i + 1) from qI_add i 1) (by omega) ?_
  refine V0_taload_n (pc := 555) dL_law_555 rfl ?_
  refine V0_iload_n (pc := 556) dL_law_556 rfl ?_
  refine V0_iconst (pc := 557) (2) dL_law_557 (by decide) ?_
  refine V0_iadd (pc := 558) dL_law_558 ?_
  refine V_tald (pc := 559) (n := L) (f := xs) (i + 2) dL_law_559 rfl hL (show nI i + 2 = nI (i + 2) from qI_add i 2) (by omega) ?_
  refine V_callV (pc := 560) (M' := mX12_when) dL_law_560 mlL_64 okX12_when rfl c2 rfl rfl rfl rfl ⟨Nat.le_of_ble_eq_true rfl, Nat.le_of_ble_eq_true rfl⟩ hc (Nat.le_of_ble_eq_true rfl) ?_
  intro r2 I2 J2 hh
  obtain ⟨e2, h2⟩ := hh
  rw [e2]
  clear e2 r2
  refine V0_icmp_eq (pc := 563) 1446 dL_law_563 (by decide) (fun _ => ?_) (fun q => absurd rfl q)
  exact lw_nx (next _ _ h2)
theorem lc_move {v : Int32} (hL : L < 2 ^ 31) (hi : i + 6 ≤ L) (hc : kc ≤ room_1.cells ∧ ks ≤ room_1.slots) (h : r_ex I J) (e : v = 12) (next : ∀ I' J', r_ex I' J' → lw_V l L xs kc ks 18 (i + 6) [] I' J') : lw_V l L xs kc ks 33 i [.int v] I J := by
  refine V_tabIn (pc := 33) (off := 535) (12) 568 dL_law_33 e (by decide) (by decide) (by decide) (by decide) ?_
  refine V0_aload_n (pc := 568) dL_law_568 rfl ?_
  refine V0_taload_n (pc := 569) dL_law_569 rfl ?_
  refine V0_iload_n (pc := 570) dL_law_570 rfl ?_
  refine V0_iconst (pc := 571) (1) dL_law_571 (by decide) ?_
  refine V0_iadd (pc := 572) dL_law_572 ?_
  refine V_tald (pc := 573) (n := L) (f := xs) (i + 1) dL_law_573 rfl hL (show nI i + 1 = nI (i + 1) from qI_add i 1) (by omega) ?_
  refine V0_taload_n (pc := 574) dL_law_574 rfl ?_
  refine V0_iload_n (pc := 575) dL_law_575 rfl ?_
  refine V0_iconst (pc := 576) (2) dL_law_576 (by decide) ?_
  refine V0_iadd (pc := 577) dL_law_577 ?_
  refine V_tald (pc := 578) (n := L) (f := xs) (i + 2) dL_law_578 rfl hL (show nI i + 2 = nI (i + 2) from qI_add i 2) (by omega) ?_
  refine V_callV (pc := 579) (M' := mX11_move) dL_law_579 mlL_65 okX11_move rfl (st_move (x := xs (i + 1)) (w := xs (i + 2)) h) rfl rfl rfl rfl ⟨Nat.le_of_ble_eq_true rfl, Nat.le_of_ble_eq_true rfl⟩ hc (Nat.le_of_ble_eq_true rfl) ?_
  intro r1 I1 J1 hh
  obtain ⟨x1, e1, c2⟩ := hh
  rw [e1]
  clear e1 r1
  refine V0_aload_n (pc := 582) dL_law_582 rfl ?_
  refine V0_taload_n (pc := 583) dL_law_583 rfl ?_
  refine V0_iload_n (pc := 584) dL_law_584 rfl ?_
  refine V0_iconst (pc := 585) (1) dL_law_585 (by decide) ?_
  refine V0_iadd (pc := 586) dL_law_586 ?_
  refine V_tald (pc := 587) (n := L) (f := xs) (i + 1) dL_law_587 rfl hL (show nI i + 1 = nI (i + 1) from qI_add i 1) (by omega) ?_
  refine V0_taload_n (pc := 588) dL_law_588 rfl ?_
  refine V0_iload_n (pc := 589) dL_law_589 rfl ?_
  refine V0_iconst (pc := 590) (2) dL_law_590 (by decide) ?_
  refine V0_iadd (pc := 591) dL_law_591 ?_
  refine V_tald (pc := 592) (n := L) (f := xs) (i + 2) dL_law_592 rfl hL (show nI i + 2 = nI (i + 2) from qI_add i 2) (by omega) ?_
  refine V_callV (pc := 593) (M' := mX12_move) dL_law_593 mlL_68 okX12_move rfl c2 rfl rfl rfl rfl ⟨Nat.le_of_ble_eq_true rfl, Nat.le_of_ble_eq_true rfl⟩ hc (Nat.le_of_ble_eq_true rfl) ?_
  intro r2 I2 J2 hh
  obtain ⟨e2, h2⟩ := hh
  rw [e2]
  clear e2 r2
  refine V0_icmp_eq (pc := 596) 1446 dL_law_596 (by decide) (fun _ => ?_) (fun q => absurd rfl q)
  exact lw_nx (next _ _ h2)
theorem lc_over {v : Int32} (hL : L < 2 ^ 31) (hi : i + 6 ≤ L) (hc : kc ≤ room_1.cells ∧ ks ≤ room_1.slots) (h : r_ex I J) (e : v = 13) (next : ∀ I' J', r_ex I' J' → lw_V l L xs kc ks 18 (i + 6) [] I' J') : lw_V l L xs kc ks 33 i [.int v] I J := by
  refine V_tabIn (pc := 33) (off := 568) (13) 601 dL_law_33 e (by decide) (by decide) (by decide) (by decide) ?_
  refine V0_aload_n (pc := 601) dL_law_601 rfl ?_
  refine V0_taload_n (pc := 602) dL_law_602 rfl ?_
  refine V0_iload_n (pc := 603) dL_law_603 rfl ?_
  refine V0_iconst (pc := 604) (1) dL_law_604 (by decide) ?_
  refine V0_iadd (pc := 605) dL_law_605 ?_
  refine V_tald (pc := 606) (n := L) (f := xs) (i + 1) dL_law_606 rfl hL (show nI i + 1 = nI (i + 1) from qI_add i 1) (by omega) ?_
  refine V_callV (pc := 607) (M' := mX11_over) dL_law_607 mlL_69 okX11_over rfl (st_over (v := xs (i + 1)) h) rfl rfl rfl rfl ⟨Nat.le_of_ble_eq_true rfl, Nat.le_of_ble_eq_true rfl⟩ hc (Nat.le_of_ble_eq_true rfl) ?_
  intro r1 I1 J1 hh
  obtain ⟨x1, e1, c2⟩ := hh
  rw [e1]
  clear e1 r1
  refine V0_aload_n (pc := 610) dL_law_610 rfl ?_
  refine V0_taload_n (pc := 611) dL_law_611 rfl ?_
  refine V0_iload_n (pc := 612) dL_law_612 rfl ?_
  refine V0_iconst (pc := 613) (1) dL_law_613 (by decide) ?_
  refine V0_iadd (pc := 614) dL_law_614 ?_
  refine V_tald (pc := 615) (n := L) (f := xs) (i + 1) dL_law_615 rfl hL (show nI i + 1 = nI (i + 1) from qI_add i 1) (by omega) ?_
  refine V_callV (pc := 616) (M' := mX12_over) dL_law_616 mlL_72 okX12_over rfl c2 rfl rfl rfl rfl ⟨Nat.le_of_ble_eq_true rfl, Nat.le_of_ble_eq_true rfl⟩ hc (Nat.le_of_ble_eq_true rfl) ?_
  intro r2 I2 J2 hh
  obtain ⟨e2, h2⟩ := hh
  rw [e2]
  clear e2 r2
  refine V0_icmp_eq (pc := 619) 1446 dL_law_619 (by decide) (fun _ => ?_) (fun q => absurd rfl q)
  exact lw_nx (next _ _ h2)
theorem lc_date {v : Int32} (hL : L < 2 ^ 31) (hi : i + 6 ≤ L) (hc : kc ≤ room_1.cells ∧ ks ≤ room_1.slots) (h : r_ex I J) (e : v = 14) (next : ∀ I' J', r_ex I' J' → lw_V l L xs kc ks 18 (i + 6) [] I' J') : lw_V l L xs kc ks 33 i [.int v] I J := by
  refine V_tabIn (pc := 33) (off := 591) (14) 624 dL_law_33 e (by decide) (by decide) (by decide) (by decide) ?_
  refine V0_aload_n (pc := 624) dL_law_624 rfl ?_
  refine V0_taload_n (pc := 625) dL_law_625 rfl ?_
  refine V0_iload_n (pc := 626) dL_law_626 rfl ?_
  refine V0_iconst (pc := 627) (1) dL_law_627 (by decide) ?_
  refine V0_iadd (pc := 628) dL_law_628 ?_
  refine V_tald (pc := 629) (n := L) (f := xs) (i + 1) dL_law_629 rfl hL (show nI i + 1 = nI (i + 1) from qI_add i 1) (by omega) ?_
  refine V0_taload_n (pc := 630) dL_law_630 rfl ?_
  refine V0_iload_n (pc := 631) dL_law_631 rfl ?_
  refine V0_iconst (pc := 632) (2) dL_law_632 (by decide) ?_
  refine V0_iadd (pc := 633) dL_law_633 ?_
  refine V_tald (pc := 634) (n := L) (f := xs) (i + 2) dL_law_634 rfl hL (show nI i + 2 = nI (i + 2) from qI_add i 2) (by omega) ?_
  refine V0_taload_n (pc := 635) dL_law_635 rfl ?_
  refine V0_iload_n (pc := 636) dL_law_636 rfl ?_
  refine V0_iconst (pc := 637) (3) dL_law_637 (by decide) ?_
  refine V0_iadd (pc := 638) dL_law_638 ?_
  refine V_tald (pc := 639) (n := L) (f := xs) (i + 3) dL_law_639 rfl hL (show nI i + 3 = nI (i + 3) from qI_add i 3) (by omega) ?_
  refine V_callV (pc := 640) (M' := mX11_date) dL_law_640 mlL_73 okX11_date rfl (st_date (x := xs (i + 1)) (y := xs (i + 2)) (w := xs (i + 3)) h) rfl rfl rfl rfl ⟨Nat.le_of_ble_eq_true rfl, Nat.le_of_ble_eq_true rfl⟩ hc (Nat.le_of_ble_eq_true rfl) ?_
  intro r1 I1 J1 hh
  obtain ⟨x1, e1, c2⟩ := hh
  rw [e1]
  clear e1 r1
  refine V0_aload_n (pc := 643) dL_law_643 rfl ?_
  refine V0_taload_n (pc := 644) dL_law_644 rfl ?_
  refine V0_iload_n (pc := 645) dL_law_645 rfl ?_
  refine V0_iconst (pc := 646) (1) dL_law_646 (by decide) ?_
  refine V0_iadd (pc := 647) dL_law_647 ?_
  refine V_tald (pc := 648) (n := L) (f := xs) (i + 1) dL_law_648 rfl hL (show nI i + 1 = nI (i + 1) from qI_add i 1) (by omega) ?_
  refine V0_taload_n (pc := 649) dL_law_649 rfl ?_
  refine V0_iload_n (pc := 650) dL_law_650 rfl ?_
  refine V0_iconst (pc := 651) (2) dL_law_651 (by decide) ?_
  refine V0_iadd (pc := 652) dL_law_652 ?_
  refine V_tald (pc := 653) (n := L) (f := xs) (i + 2) dL_law_653 rfl hL (show nI i + 2 = nI (i + 2) from qI_add i 2) (by omega) ?_
  refine V0_taload_n (pc := 654) dL_law_654 rfl ?_
  refine V0_iload_n (pc := 655) dL_law_655 rfl ?_
  refine V0_iconst (pc := 656) (3) dL_law_656 (by decide) ?_
  refine V0_iadd (pc := 657) dL_law_657 ?_
  refine V_tald (pc := 658) (n := L) (f := xs) (i + 3) dL_law_658 rfl hL (show nI i + 3 = nI (i + 3) from qI_add i 3) (by omega) ?_
  refine V_callV (pc := 659) (M' := mX12_date) dL_law_659 mlL_76 okX12_date rfl c2 rfl rfl rfl rfl ⟨Nat.le_of_ble_eq_true rfl, Nat.le_of_ble_eq_true rfl⟩ hc (Nat.le_of_ble_eq_true rfl) ?_
  intro r2 I2 J2 hh
  obtain ⟨e2, h2⟩ := hh
  rw [e2]
  clear e2 r2
  refine V0_icmp_eq (pc := 662) 1446 dL_law_662 (by decide) (fun _ => ?_) (fun q => absurd rfl q)
  exact lw_nx (next _ _ h2)
theorem lc_judge {v : Int32} (hL : L < 2 ^ 31) (hi : i + 6 ≤ L) (hc : kc ≤ room_1.cells ∧ ks ≤ room_1.slots) (h : r_ex I J) (e : v = 15) (next : ∀ I' J', r_ex I' J' → lw_V l L xs kc ks 18 (i + 6) [] I' J') : lw_V l L xs kc ks 33 i [.int v] I J := by
  refine V_tabIn (pc := 33) (off := 634) (15) 667 dL_law_33 e (by decide) (by decide) (by decide) (by decide) ?_
  refine V0_aload_n (pc := 667) dL_law_667 rfl ?_
  refine V0_taload_n (pc := 668) dL_law_668 rfl ?_
  refine V0_iload_n (pc := 669) dL_law_669 rfl ?_
  refine V0_iconst (pc := 670) (1) dL_law_670 (by decide) ?_
  refine V0_iadd (pc := 671) dL_law_671 ?_
  refine V_tald (pc := 672) (n := L) (f := xs) (i + 1) dL_law_672 rfl hL (show nI i + 1 = nI (i + 1) from qI_add i 1) (by omega) ?_
  refine V0_taload_n (pc := 673) dL_law_673 rfl ?_
  refine V0_iload_n (pc := 674) dL_law_674 rfl ?_
  refine V0_iconst (pc := 675) (2) dL_law_675 (by decide) ?_
  refine V0_iadd (pc := 676) dL_law_676 ?_
  refine V_tald (pc := 677) (n := L) (f := xs) (i + 2) dL_law_677 rfl hL (show nI i + 2 = nI (i + 2) from qI_add i 2) (by omega) ?_
  refine V_callV (pc := 678) (M' := mX11_judge) dL_law_678 mlL_77 okX11_judge rfl (st_judge (x := xs (i + 1)) (y := xs (i + 2)) h) rfl rfl rfl rfl ⟨Nat.le_of_ble_eq_true rfl, Nat.le_of_ble_eq_true rfl⟩ hc (Nat.le_of_ble_eq_true rfl) ?_
  intro r1 I1 J1 hh
  obtain ⟨x1, e1, c2⟩ := hh
  rw [e1]
  clear e1 r1
  refine V0_aload_n (pc := 681) dL_law_681 rfl ?_
  refine V0_taload_n (pc := 682) dL_law_682 rfl ?_
  refine V0_iload_n (pc := 683) dL_law_683 rfl ?_
  refine V0_iconst (pc := 684) (1) dL_law_684 (by decide) ?_
  refine V0_iadd (pc := 685) dL_law_685 ?_
  refine V_tald (pc := 686) (n := L) (f := xs) (i + 1) dL_law_686 rfl hL (show nI i + 1 = nI (i + 1) from qI_add i 1) (by omega) ?_
  refine V0_taload_n (pc := 687) dL_law_687 rfl ?_
  refine V0_iload_n (pc := 688) dL_law_688 rfl ?_
  refine V0_iconst (pc := 689) (2) dL_law_689 (by decide) ?_
  refine V0_iadd (pc := 690) dL_law_690 ?_
  refine V_tald (pc := 691) (n := L) (f := xs) (i + 2) dL_law_691 rfl hL (show nI i + 2 = nI (i + 2) from qI_add i 2) (by omega) ?_
  refine V_callV (pc := 692) (M' := mX12_judge) dL_law_692 mlL_80 okX12_judge rfl c2 rfl rfl rfl rfl ⟨Nat.le_of_ble_eq_true rfl, Nat.le_of_ble_eq_true rfl⟩ hc (Nat.le_of_ble_eq_true rfl) ?_
  intro r2 I2 J2 hh
  obtain ⟨e2, h2⟩ := hh
  rw [e2]
  clear e2 r2
  refine V0_icmp_eq (pc := 695) 1446 dL_law_695 (by decide) (fun _ => ?_) (fun q => absurd rfl q)
  exact lw_nx (next _ _ h2)
theorem lc_fits {v : Int32} (hL : L < 2 ^ 31) (hi : i + 6 ≤ L) (hc : kc ≤ room_1.cells ∧ ks ≤ room_1.slots) (h : r_ex I J) (e : v = 16) (next : ∀ I' J', r_ex I' J' → lw_V l L xs kc ks 18 (i + 6) [] I' J') : lw_V l L xs kc ks 33 i [.int v] I J := by
  refine V_tabIn (pc := 33) (off := 667) (16) 700 dL_law_33 e (by decide) (by decide) (by decide) (by decide) ?_
  refine V0_aload_n (pc := 700) dL_law_700 rfl ?_
  refine V0_taload_n (pc := 701) dL_law_701 rfl ?_
  refine V0_iload_n (pc := 702) dL_law_702 rfl ?_
  refine V0_iconst (pc := 703) (1) dL_law_703 (by decide) ?_
  refine V0_iadd (pc := 704) dL_law_704 ?_
  refine V_tald (pc := 705) (n := L) (f := xs) (i + 1) dL_law_705 rfl hL (show nI i + 1 = nI (i + 1) from qI_add i 1) (by omega) ?_
  refine V0_taload_n (pc := 706) dL_law_706 rfl ?_
  refine V0_iload_n (pc := 707) dL_law_707 rfl ?_
  refine V0_iconst (pc := 708) (2) dL_law_708 (by decide) ?_
  refine V0_iadd (pc := 709) dL_law_709 ?_
  refine V_tald (pc := 710) (n := L) (f := xs) (i + 2) dL_law_710 rfl hL (show nI i + 2 = nI (i + 2) from qI_add i 2) (by omega) ?_
  refine V0_taload_n (pc := 711) dL_law_711 rfl ?_
  refine V0_iload_n (pc := 712) dL_law_712 rfl ?_
  refine V0_iconst (pc := 713) (3) dL_law_713 (by decide) ?_
  refine V0_iadd (pc := 714) dL_law_714 ?_
  refine V_tald (pc := 715) (n := L) (f := xs) (i + 3) dL_law_715 rfl hL (show nI i + 3 = nI (i + 3) from qI_add i 3) (by omega) ?_
  refine V_callV (pc := 716) (M' := mX11_fits) dL_law_716 mlL_81 okX11_fits rfl (st_fits (x := xs (i + 1)) (y := xs (i + 2)) (w := xs (i + 3)) h) rfl rfl rfl rfl ⟨Nat.le_of_ble_eq_true rfl, Nat.le_of_ble_eq_true rfl⟩ hc (Nat.le_of_ble_eq_true rfl) ?_
  intro r1 I1 J1 hh
  obtain ⟨x1, e1, c2⟩ := hh
  rw [e1]
  clear e1 r1
  refine V0_aload_n (pc := 719) dL_law_719 rfl ?_
  refine V0_taload_n (pc := 720) dL_law_720 rfl ?_
  refine V0_iload_n (pc := 721) dL_law_721 rfl ?_
  refine V0_iconst (pc := 722) (1) dL_law_722 (by decide) ?_
  refine V0_iadd (pc := 723) dL_law_723 ?_
  refine V_tald (pc := 724) (n := L) (f := xs) (i + 1) dL_law_724 rfl hL (show nI i + 1 = nI (i + 1) from qI_add i 1) (by omega) ?_
  refine V0_taload_n (pc := 725) dL_law_725 rfl ?_
  refine V0_iload_n (pc := 726) dL_law_726 rfl ?_
  refine V0_iconst (pc := 727) (2) dL_law_727 (by decide) ?_
  refine V0_iadd (pc := 728) dL_law_728 ?_
  refine V_tald (pc := 729) (n := L) (f := xs) (i + 2) dL_law_729 rfl hL (show nI i + 2 = nI (i + 2) from qI_add i 2) (by omega) ?_
  refine V0_taload_n (pc := 730) dL_law_730 rfl ?_
  refine V0_iload_n (pc := 731) dL_law_731 rfl ?_
  refine V0_iconst (pc := 732) (3) dL_law_732 (by decide) ?_
  refine V0_iadd (pc := 733) dL_law_733 ?_
  refine V_tald (pc := 734) (n := L) (f := xs) (i + 3) dL_law_734 rfl hL (show nI i + 3 = nI (i + 3) from qI_add i 3) (by omega) ?_
  refine V_callV (pc := 735) (M' := mX12_fits) dL_law_735 mlL_84 okX12_fits rfl c2 rfl rfl rfl rfl ⟨Nat.le_of_ble_eq_true rfl, Nat.le_of_ble_eq_true rfl⟩ hc (Nat.le_of_ble_eq_true rfl) ?_
  intro r2 I2 J2 hh
  obtain ⟨e2, h2⟩ := hh
  rw [e2]
  clear e2 r2
  refine V0_icmp_eq (pc := 738) 1446 dL_law_738 (by decide) (fun _ => ?_) (fun q => absurd rfl q)
  exact lw_nx (next _ _ h2)
theorem lc_who {v : Int32} (hL : L < 2 ^ 31) (hi : i + 6 ≤ L) (hc : kc ≤ room_1.cells ∧ ks ≤ room_1.slots) (h : r_ex I J) (e : v = 17) (next : ∀ I' J', r_ex I' J' → lw_V l L xs kc ks 18 (i + 6) [] I' J') : lw_V l L xs kc ks 33 i [.int v] I J := by
  refine V_tabIn (pc := 33) (off := 710) (17) 743 dL_law_33 e (by decide) (by decide) (by decide) (by decide) ?_
  refine V0_aload_n (pc := 743) dL_law_743 rfl ?_
  refine V0_taload_n (pc := 744) dL_law_744 rfl ?_
  refine V0_iload_n (pc := 745) dL_law_745 rfl ?_
  refine V0_iconst (pc := 746) (1) dL_law_746 (by decide) ?_
  refine V0_iadd (pc := 747) dL_law_747 ?_
  refine V_tald (pc := 748) (n := L) (f := xs) (i + 1) dL_law_748 rfl hL (show nI i + 1 = nI (i + 1) from qI_add i 1) (by omega) ?_
  refine V_callV (pc := 749) (M' := mX11_who) dL_law_749 mlL_85 okX11_who rfl (st_who (x := xs (i + 1)) h) rfl rfl rfl rfl ⟨Nat.le_of_ble_eq_true rfl, Nat.le_of_ble_eq_true rfl⟩ hc (Nat.le_of_ble_eq_true rfl) ?_
  intro r1 I1 J1 hh
  obtain ⟨x1, e1, c2⟩ := hh
  rw [e1]
  clear e1 r1
  refine V0_aload_n (pc := 752) dL_law_752 rfl ?_
  refine V0_taload_n (pc := 753) dL_law_753 rfl ?_
  refine V0_iload_n (pc := 754) dL_law_754 rfl ?_
  refine V0_iconst (pc := 755) (1) dL_law_755 (by decide) ?_
  refine V0_iadd (pc := 756) dL_law_756 ?_
  refine V_tald (pc := 757) (n := L) (f := xs) (i + 1) dL_law_757 rfl hL (show nI i + 1 = nI (i + 1) from qI_add i 1) (by omega) ?_
  refine V_callV (pc := 758) (M' := mX12_who) dL_law_758 mlL_88 okX12_who rfl c2 rfl rfl rfl rfl ⟨Nat.le_of_ble_eq_true rfl, Nat.le_of_ble_eq_true rfl⟩ hc (Nat.le_of_ble_eq_true rfl) ?_
  intro r2 I2 J2 hh
  obtain ⟨e2, h2⟩ := hh
  rw [e2]
  clear e2 r2
  refine V0_icmp_eq (pc := 761) 1446 dL_law_761 (by decide) (fun _ => ?_) (fun q => absurd rfl q)
  exact lw_nx (next _ _ h2)
theorem lc_share {v : Int32} (hL : L < 2 ^ 31) (hi : i + 6 ≤ L) (hc : kc ≤ room_1.cells ∧ ks ≤ room_1.slots) (h : r_ex I J) (e : v = 18) (next : ∀ I' J', r_ex I' J' → lw_V l L xs kc ks 18 (i + 6) [] I' J') : lw_V l L xs kc ks 33 i [.int v] I J := by
  refine V_tabIn (pc := 33) (off := 733) (18) 766 dL_law_33 e (by decide) (by decide) (by decide) (by decide) ?_
  refine V0_aload_n (pc := 766) dL_law_766 rfl ?_
  refine V0_taload_n (pc := 767) dL_law_767 rfl ?_
  refine V0_iload_n (pc := 768) dL_law_768 rfl ?_
  refine V0_iconst (pc := 769) (1) dL_law_769 (by decide) ?_
  refine V0_iadd (pc := 770) dL_law_770 ?_
  refine V_tald (pc := 771) (n := L) (f := xs) (i + 1) dL_law_771 rfl hL (show nI i + 1 = nI (i + 1) from qI_add i 1) (by omega) ?_
  refine V0_taload_n (pc := 772) dL_law_772 rfl ?_
  refine V0_iload_n (pc := 773) dL_law_773 rfl ?_
  refine V0_iconst (pc := 774) (2) dL_law_774 (by decide) ?_
  refine V0_iadd (pc := 775) dL_law_775 ?_
  refine V_tald (pc := 776) (n := L) (f := xs) (i + 2) dL_law_776 rfl hL (show nI i + 2 = nI (i + 2) from qI_add i 2) (by omega) ?_
  refine V_callV (pc := 777) (M' := mX11_share) dL_law_777 mlL_89 okX11_share rfl (st_share (x := xs (i + 1)) (v := xs (i + 2)) h) rfl rfl rfl rfl ⟨Nat.le_of_ble_eq_true rfl, Nat.le_of_ble_eq_true rfl⟩ hc (Nat.le_of_ble_eq_true rfl) ?_
  intro r1 I1 J1 hh
  obtain ⟨x1, e1, c2⟩ := hh
  rw [e1]
  clear e1 r1
  refine V0_aload_n (pc := 780) dL_law_780 rfl ?_
  refine V0_taload_n (pc := 781) dL_law_781 rfl ?_
  refine V0_iload_n (pc := 782) dL_law_782 rfl ?_
  refine V0_iconst (pc := 783) (1) dL_law_783 (by decide) ?_
  refine V0_iadd (pc := 784) dL_law_784 ?_
  refine V_tald (pc := 785) (n := L) (f := xs) (i + 1) dL_law_785 rfl hL (show nI i + 1 = nI (i + 1) from qI_add i 1) (by omega) ?_
  refine V0_taload_n (pc := 786) dL_law_786 rfl ?_
  refine V0_iload_n (pc := 787) dL_law_787 rfl ?_
  refine V0_iconst (pc := 788) (2) dL_law_788 (by decide) ?_
  refine V0_iadd (pc := 789) dL_law_789 ?_
  refine V_tald (pc := 790) (n := L) (f := xs) (i + 2) dL_law_790 rfl hL (show nI i + 2 = nI (i + 2) from qI_add i 2) (by omega) ?_
  refine V_callV (pc := 791) (M' := mX12_share) dL_law_791 mlL_92 okX12_share rfl c2 rfl rfl rfl rfl ⟨Nat.le_of_ble_eq_true rfl, Nat.le_of_ble_eq_true rfl⟩ hc (Nat.le_of_ble_eq_true rfl) ?_
  intro r2 I2 J2 hh
  obtain ⟨e2, h2⟩ := hh
  rw [e2]
  clear e2 r2
  refine V0_icmp_eq (pc := 794) 1446 dL_law_794 (by decide) (fun _ => ?_) (fun q => absurd rfl q)
  exact lw_nx (next _ _ h2)
theorem lc_near {v : Int32} (hL : L < 2 ^ 31) (hi : i + 6 ≤ L) (hc : kc ≤ room_1.cells ∧ ks ≤ room_1.slots) (h : r_ex I J) (e : v = 19) (next : ∀ I' J', r_ex I' J' → lw_V l L xs kc ks 18 (i + 6) [] I' J') : lw_V l L xs kc ks 33 i [.int v] I J := by
  refine V_tabIn (pc := 33) (off := 766) (19) 799 dL_law_33 e (by decide) (by decide) (by decide) (by decide) ?_
  refine V0_aload_n (pc := 799) dL_law_799 rfl ?_
  refine V0_taload_n (pc := 800) dL_law_800 rfl ?_
  refine V0_iload_n (pc := 801) dL_law_801 rfl ?_
  refine V0_iconst (pc := 802) (1) dL_law_802 (by decide) ?_
  refine V0_iadd (pc := 803) dL_law_803 ?_
  refine V_tald (pc := 804) (n := L) (f := xs) (i + 1) dL_law_804 rfl hL (show nI i + 1 = nI (i + 1) from qI_add i 1) (by omega) ?_
  refine V_callV (pc := 805) (M' := mX11_near) dL_law_805 mlL_93 okX11_near rfl (st_near (x := xs (i + 1)) h) rfl rfl rfl rfl ⟨Nat.le_of_ble_eq_true rfl, Nat.le_of_ble_eq_true rfl⟩ hc (Nat.le_of_ble_eq_true rfl) ?_
  intro r1 I1 J1 hh
  obtain ⟨x1, e1, c2⟩ := hh
  rw [e1]
  clear e1 r1
  refine V0_aload_n (pc := 808) dL_law_808 rfl ?_
  refine V0_taload_n (pc := 809) dL_law_809 rfl ?_
  refine V0_iload_n (pc := 810) dL_law_810 rfl ?_
  refine V0_iconst (pc := 811) (1) dL_law_811 (by decide) ?_
  refine V0_iadd (pc := 812) dL_law_812 ?_
  refine V_tald (pc := 813) (n := L) (f := xs) (i + 1) dL_law_813 rfl hL (show nI i + 1 = nI (i + 1) from qI_add i 1) (by omega) ?_
  refine V_callV (pc := 814) (M' := mX12_near) dL_law_814 mlL_96 okX12_near rfl c2 rfl rfl rfl rfl ⟨Nat.le_of_ble_eq_true rfl, Nat.le_of_ble_eq_true rfl⟩ hc (Nat.le_of_ble_eq_true rfl) ?_
  intro r2 I2 J2 hh
  obtain ⟨e2, h2⟩ := hh
  rw [e2]
  clear e2 r2
  refine V0_icmp_eq (pc := 817) 1446 dL_law_817 (by decide) (fun _ => ?_) (fun q => absurd rfl q)
  exact lw_nx (next _ _ h2)
theorem lc_mates {v : Int32} (hL : L < 2 ^ 31) (hi : i + 6 ≤ L) (hc : kc ≤ room_1.cells ∧ ks ≤ room_1.slots) (h : r_ex I J) (e : v = 20) (next : ∀ I' J', r_ex I' J' → lw_V l L xs kc ks 18 (i + 6) [] I' J') : lw_V l L xs kc ks 33 i [.int v] I J := by
  refine V_tabIn (pc := 33) (off := 789) (20) 822 dL_law_33 e (by decide) (by decide) (by decide) (by decide) ?_
  refine V0_aload_n (pc := 822) dL_law_822 rfl ?_
  refine V0_taload_n (pc := 823) dL_law_823 rfl ?_
  refine V0_iload_n (pc := 824) dL_law_824 rfl ?_
  refine V0_iconst (pc := 825) (1) dL_law_825 (by decide) ?_
  refine V0_iadd (pc := 826) dL_law_826 ?_
  refine V_tald (pc := 827) (n := L) (f := xs) (i + 1) dL_law_827 rfl hL (show nI i + 1 = nI (i + 1) from qI_add i 1) (by omega) ?_
  obtain ⟨d9, hd9, cc⟩ := st_mates (l := l) (x := xs (i + 1)) h
  refine V_callV (pc := 828) (M' := mX11_mates) dL_law_828 mlL_97 okX11_mates rfl cc rfl rfl rfl rfl ⟨Nat.le_of_ble_eq_true rfl, Nat.le_of_ble_eq_true rfl⟩ hc (Nat.le_of_ble_eq_true rfl) ?_
  intro r1 I1 J1 hh
  obtain ⟨x1, e1, c2⟩ := hh
  rw [e1]
  clear e1 r1
  refine V0_aload_n (pc := 831) dL_law_831 rfl ?_
  refine V0_taload_n (pc := 832) dL_law_832 rfl ?_
  refine V0_iload_n (pc := 833) dL_law_833 rfl ?_
  refine V0_iconst (pc := 834) (1) dL_law_834 (by decide) ?_
  refine V0_iadd (pc := 835) dL_law_835 ?_
  refine V_tald (pc := 836) (n := L) (f := xs) (i + 1) dL_law_836 rfl hL (show nI i + 1 = nI (i + 1) from qI_add i 1) (by omega) ?_
  refine V_callV (pc := 837) (M' := mX12_mates) dL_law_837 mlL_100 okX12_mates rfl c2 rfl rfl rfl rfl ⟨by show d9 + 1 ≤ 2048; omega, by show 8 + (mX12_mates.2.2.1 + 11) + 41 * d9 ≤ 84000; have z9 : mX12_mates.2.2.1 ≤ 100 := Nat.le_of_ble_eq_true rfl; omega⟩ hc (Nat.le_of_ble_eq_true rfl) ?_
  intro r2 I2 J2 hh
  obtain ⟨e2, h2⟩ := hh
  rw [e2]
  clear e2 r2
  refine V0_icmp_eq (pc := 840) 1446 dL_law_840 (by decide) (fun _ => ?_) (fun q => absurd rfl q)
  exact lw_nx (next _ _ h2)
theorem lc_byTurns {v : Int32} (hL : L < 2 ^ 31) (hi : i + 6 ≤ L) (hc : kc ≤ room_1.cells ∧ ks ≤ room_1.slots) (h : r_ex I J) (e : v = 21) (next : ∀ I' J', r_ex I' J' → lw_V l L xs kc ks 18 (i + 6) [] I' J') : lw_V l L xs kc ks 33 i [.int v] I J := by
  refine V_tabIn (pc := 33) (off := 812) (21) 845 dL_law_33 e (by decide) (by decide) (by decide) (by decide) ?_
  refine V0_aload_n (pc := 845) dL_law_845 rfl ?_
  refine V0_taload_n (pc := 846) dL_law_846 rfl ?_
  refine V0_iload_n (pc := 847) dL_law_847 rfl ?_
  refine V0_iconst (pc := 848) (1) dL_law_848 (by decide) ?_
  refine V0_iadd (pc := 849) dL_law_849 ?_
  refine V_tald (pc := 850) (n := L) (f := xs) (i + 1) dL_law_850 rfl hL (show nI i + 1 = nI (i + 1) from qI_add i 1) (by omega) ?_
  refine V0_taload_n (pc := 851) dL_law_851 rfl ?_
  refine V0_iload_n (pc := 852) dL_law_852 rfl ?_
  refine V0_iconst (pc := 853) (2) dL_law_853 (by decide) ?_
  refine V0_iadd (pc := 854) dL_law_854 ?_
  refine V_tald (pc := 855) (n := L) (f := xs) (i + 2) dL_law_855 rfl hL (show nI i + 2 = nI (i + 2) from qI_add i 2) (by omega) ?_
  refine V_callV (pc := 856) (M' := mX11_byTurns) dL_law_856 mlL_101 okX11_byTurns rfl (st_byTurns (x := xs (i + 1)) (w := xs (i + 2)) h) rfl rfl rfl rfl ⟨Nat.le_of_ble_eq_true rfl, Nat.le_of_ble_eq_true rfl⟩ hc (Nat.le_of_ble_eq_true rfl) ?_
  intro r1 I1 J1 hh
  obtain ⟨x1, e1, c2⟩ := hh
  rw [e1]
  clear e1 r1
  refine V0_aload_n (pc := 859) dL_law_859 rfl ?_
  refine V0_taload_n (pc := 860) dL_law_860 rfl ?_
  refine V0_iload_n (pc := 861) dL_law_861 rfl ?_
  refine V0_iconst (pc := 862) (1) dL_law_862 (by decide) ?_
  refine V0_iadd (pc := 863) dL_law_863 ?_
  refine V_tald (pc := 864) (n := L) (f := xs) (i + 1) dL_law_864 rfl hL (show nI i + 1 = nI (i + 1) from qI_add i 1) (by omega) ?_
  refine V0_taload_n (pc := 865) dL_law_865 rfl ?_
  refine V0_iload_n (pc := 866) dL_law_866 rfl ?_
  refine V0_iconst (pc := 867) (2) dL_law_867 (by decide) ?_
  refine V0_iadd (pc := 868) dL_law_868 ?_
  refine V_tald (pc := 869) (n := L) (f := xs) (i + 2) dL_law_869 rfl hL (show nI i + 2 = nI (i + 2) from qI_add i 2) (by omega) ?_
  refine V_callV (pc := 870) (M' := mX12_byTurns) dL_law_870 mlL_104 okX12_byTurns rfl c2 rfl rfl rfl rfl ⟨Nat.le_of_ble_eq_true rfl, Nat.le_of_ble_eq_true rfl⟩ hc (Nat.le_of_ble_eq_true rfl) ?_
  intro r2 I2 J2 hh
  obtain ⟨e2, h2⟩ := hh
  rw [e2]
  clear e2 r2
  refine V0_icmp_eq (pc := 873) 1446 dL_law_873 (by decide) (fun _ => ?_) (fun q => absurd rfl q)
  exact lw_nx (next _ _ h2)
theorem lc_drawn {v : Int32} (hL : L < 2 ^ 31) (hi : i + 6 ≤ L) (hc : kc ≤ room_1.cells ∧ ks ≤ room_1.slots) (h : r_ex I J) (e : v = 22) (next : ∀ I' J', r_ex I' J' → lw_V l L xs kc ks 18 (i + 6) [] I' J') : lw_V l L xs kc ks 33 i [.int v] I J := by
  refine V_tabIn (pc := 33) (off := 845) (22) 878 dL_law_33 e (by decide) (by decide) (by decide) (by decide) ?_
  refine V0_aload_n (pc := 878) dL_law_878 rfl ?_
  refine V0_taload_n (pc := 879) dL_law_879 rfl ?_
  refine V0_iload_n (pc := 880) dL_law_880 rfl ?_
  refine V0_iconst (pc := 881) (1) dL_law_881 (by decide) ?_
  refine V0_iadd (pc := 882) dL_law_882 ?_
  refine V_tald (pc := 883) (n := L) (f := xs) (i + 1) dL_law_883 rfl hL (show nI i + 1 = nI (i + 1) from qI_add i 1) (by omega) ?_
  refine V0_taload_n (pc := 884) dL_law_884 rfl ?_
  refine V0_iload_n (pc := 885) dL_law_885 rfl ?_
  refine V0_iconst (pc := 886) (2) dL_law_886 (by decide) ?_
  refine V0_iadd (pc := 887) dL_law_887 ?_
  refine V_tald (pc := 888) (n := L) (f := xs) (i + 2) dL_law_888 rfl hL (show nI i + 2 = nI (i + 2) from qI_add i 2) (by omega) ?_
  refine V0_taload_n (pc := 889) dL_law_889 rfl ?_
  refine V0_iload_n (pc := 890) dL_law_890 rfl ?_
  refine V0_iconst (pc := 891) (3) dL_law_891 (by decide) ?_
  refine V0_iadd (pc := 892) dL_law_892 ?_
  refine V_tald (pc := 893) (n := L) (f := xs) (i + 3) dL_law_893 rfl hL (show nI i + 3 = nI (i + 3) from qI_add i 3) (by omega) ?_
  refine V_callV (pc := 894) (M' := mX11_drawn) dL_law_894 mlL_105 okX11_drawn rfl (st_drawn (sd := xs (i + 1)) (x := xs (i + 2)) (y := xs (i + 3)) h) rfl rfl rfl rfl ⟨Nat.le_of_ble_eq_true rfl, Nat.le_of_ble_eq_true rfl⟩ hc (Nat.le_of_ble_eq_true rfl) ?_
  intro r1 I1 J1 hh
  obtain ⟨x1, e1, c2⟩ := hh
  rw [e1]
  clear e1 r1
  refine V0_aload_n (pc := 897) dL_law_897 rfl ?_
  refine V0_taload_n (pc := 898) dL_law_898 rfl ?_
  refine V0_iload_n (pc := 899) dL_law_899 rfl ?_
  refine V0_iconst (pc := 900) (1) dL_law_900 (by decide) ?_
  refine V0_iadd (pc := 901) dL_law_901 ?_
  refine V_tald (pc := 902) (n := L) (f := xs) (i + 1) dL_law_902 rfl hL (show nI i + 1 = nI (i + 1) from qI_add i 1) (by omega) ?_
  refine V0_taload_n (pc := 903) dL_law_903 rfl ?_
  refine V0_iload_n (pc := 904) dL_law_904 rfl ?_
  refine V0_iconst (pc := 905) (2) dL_law_905 (by decide) ?_
  refine V0_iadd (pc := 906) dL_law_906 ?_
  refine V_tald (pc := 907) (n := L) (f := xs) (i + 2) dL_law_907 rfl hL (show nI i + 2 = nI (i + 2) from qI_add i 2) (by omega) ?_
  refine V0_taload_n (pc := 908) dL_law_908 rfl ?_
  refine V0_iload_n (pc := 909) dL_law_909 rfl ?_
  refine V0_iconst (pc := 910) (3) dL_law_910 (by decide) ?_
  refine V0_iadd (pc := 911) dL_law_911 ?_
  refine V_tald (pc := 912) (n := L) (f := xs) (i + 3) dL_law_912 rfl hL (show nI i + 3 = nI (i + 3) from qI_add i 3) (by omega) ?_
  refine V_callV (pc := 913) (M' := mX12_drawn) dL_law_913 mlL_108 okX12_drawn rfl c2 rfl rfl rfl rfl ⟨Nat.le_of_ble_eq_true rfl, Nat.le_of_ble_eq_true rfl⟩ hc (Nat.le_of_ble_eq_true rfl) ?_
  intro r2 I2 J2 hh
  obtain ⟨e2, h2⟩ := hh
  rw [e2]
  clear e2 r2
  refine V0_icmp_eq (pc := 916) 1446 dL_law_916 (by decide) (fun _ => ?_) (fun q => absurd rfl q)
  exact lw_nx (next _ _ h2)
theorem lc_moves {v : Int32} (hL : L < 2 ^ 31) (hi : i + 6 ≤ L) (hc : kc ≤ room_1.cells ∧ ks ≤ room_1.slots) (h : r_ex I J) (e : v = 23) (next : ∀ I' J', r_ex I' J' → lw_V l L xs kc ks 18 (i + 6) [] I' J') : lw_V l L xs kc ks 33 i [.int v] I J := by
  refine V_tabIn (pc := 33) (off := 888) (23) 921 dL_law_33 e (by decide) (by decide) (by decide) (by decide) ?_
  refine V0_aload_n (pc := 921) dL_law_921 rfl ?_
  refine V0_taload_n (pc := 922) dL_law_922 rfl ?_
  refine V0_iload_n (pc := 923) dL_law_923 rfl ?_
  refine V0_iconst (pc := 924) (1) dL_law_924 (by decide) ?_
  refine V0_iadd (pc := 925) dL_law_925 ?_
  refine V_tald (pc := 926) (n := L) (f := xs) (i + 1) dL_law_926 rfl hL (show nI i + 1 = nI (i + 1) from qI_add i 1) (by omega) ?_
  refine V0_taload_n (pc := 927) dL_law_927 rfl ?_
  refine V0_iload_n (pc := 928) dL_law_928 rfl ?_
  refine V0_iconst (pc := 929) (2) dL_law_929 (by decide) ?_
  refine V0_iadd (pc := 930) dL_law_930 ?_
  refine V_tald (pc := 931) (n := L) (f := xs) (i + 2) dL_law_931 rfl hL (show nI i + 2 = nI (i + 2) from qI_add i 2) (by omega) ?_
  refine V_callV (pc := 932) (M' := mX11_moves) dL_law_932 mlL_109 okX11_moves rfl (st_moves (x := xs (i + 1)) (v := xs (i + 2)) h) rfl rfl rfl rfl ⟨Nat.le_of_ble_eq_true rfl, Nat.le_of_ble_eq_true rfl⟩ hc (Nat.le_of_ble_eq_true rfl) ?_
  intro r1 I1 J1 hh
  obtain ⟨x1, e1, c2⟩ := hh
  rw [e1]
  clear e1 r1
  refine V0_aload_n (pc := 935) dL_law_935 rfl ?_
  refine V0_taload_n (pc := 936) dL_law_936 rfl ?_
  refine V0_iload_n (pc := 937) dL_law_937 rfl ?_
  refine V0_iconst (pc := 938) (1) dL_law_938 (by decide) ?_
  refine V0_iadd (pc := 939) dL_law_939 ?_
  refine V_tald (pc := 940) (n := L) (f := xs) (i + 1) dL_law_940 rfl hL (show nI i + 1 = nI (i + 1) from qI_add i 1) (by omega) ?_
  refine V0_taload_n (pc := 941) dL_law_941 rfl ?_
  refine V0_iload_n (pc := 942) dL_law_942 rfl ?_
  refine V0_iconst (pc := 943) (2) dL_law_943 (by decide) ?_
  refine V0_iadd (pc := 944) dL_law_944 ?_
  refine V_tald (pc := 945) (n := L) (f := xs) (i + 2) dL_law_945 rfl hL (show nI i + 2 = nI (i + 2) from qI_add i 2) (by omega) ?_
  refine V_callV (pc := 946) (M' := mX12_moves) dL_law_946 mlL_112 okX12_moves rfl c2 rfl rfl rfl rfl ⟨Nat.le_of_ble_eq_true rfl, Nat.le_of_ble_eq_true rfl⟩ hc (Nat.le_of_ble_eq_true rfl) ?_
  intro r2 I2 J2 hh
  obtain ⟨e2, h2⟩ := hh
  rw [e2]
  clear e2 r2
  refine V0_icmp_eq (pc := 949) 1446 dL_law_949 (by decide) (fun _ => ?_) (fun q => absurd rfl q)
  exact lw_nx (next _ _ h2)
theorem lc_day {v : Int32} (hL : L < 2 ^ 31) (hi : i + 6 ≤ L) (hc : kc ≤ room_1.cells ∧ ks ≤ room_1.slots) (h : r_ex I J) (e : v = 24) (next : ∀ I' J', r_ex I' J' → lw_V l L xs kc ks 18 (i + 6) [] I' J') : lw_V l L xs kc ks 33 i [.int v] I J := by
  refine V_tabIn (pc := 33) (off := 921) (24) 954 dL_law_33 e (by decide) (by decide) (by decide) (by decide) ?_
  refine V0_aload_n (pc := 954) dL_law_954 rfl ?_
  refine V_callV (pc := 955) (M' := mX11_day) dL_law_955 mlL_113 okX11_day rfl (st_day  h) rfl rfl rfl rfl ⟨Nat.le_of_ble_eq_true rfl, Nat.le_of_ble_eq_true rfl⟩ hc (Nat.le_of_ble_eq_true rfl) ?_
  intro r1 I1 J1 hh
  obtain ⟨x1, e1, c2⟩ := hh
  rw [e1]
  clear e1 r1
  refine V0_aload_n (pc := 958) dL_law_958 rfl ?_
  refine V_callV (pc := 959) (M' := mX12_day) dL_law_959 mlL_116 okX12_day rfl c2 rfl rfl rfl rfl ⟨Nat.le_of_ble_eq_true rfl, Nat.le_of_ble_eq_true rfl⟩ hc (Nat.le_of_ble_eq_true rfl) ?_
  intro r2 I2 J2 hh
  obtain ⟨e2, h2⟩ := hh
  rw [e2]
  clear e2 r2
  refine V0_icmp_eq (pc := 962) 1446 dL_law_962 (by decide) (fun _ => ?_) (fun q => absurd rfl q)
  exact lw_nx (next _ _ h2)
theorem lc_inspect {v : Int32} (hL : L < 2 ^ 31) (hi : i + 6 ≤ L) (hc : kc ≤ room_1.cells ∧ ks ≤ room_1.slots) (h : r_ex I J) (e : v = 25) (next : ∀ I' J', r_ex I' J' → lw_V l L xs kc ks 18 (i + 6) [] I' J') : lw_V l L xs kc ks 33 i [.int v] I J := by
  refine V_tabIn (pc := 33) (off := 934) (25) 967 dL_law_33 e (by decide) (by decide) (by decide) (by decide) ?_
  refine V0_aload_n (pc := 967) dL_law_967 rfl ?_
  refine V_callV (pc := 968) (M' := mX11_inspect) dL_law_968 mlL_117 okX11_inspect rfl (st_inspect  h) rfl rfl rfl rfl ⟨Nat.le_of_ble_eq_true rfl, Nat.le_of_ble_eq_true rfl⟩ hc (Nat.le_of_ble_eq_true rfl) ?_
  intro r1 I1 J1 hh
  obtain ⟨x1, e1, c2⟩ := hh
  rw [e1]
  clear e1 r1
  refine V0_aload_n (pc := 971) dL_law_971 rfl ?_
  refine V_callV (pc := 972) (M' := mX12_inspect) dL_law_972 mlL_120 okX12_inspect rfl c2 rfl rfl rfl rfl ⟨Nat.le_of_ble_eq_true rfl, Nat.le_of_ble_eq_true rfl⟩ hc (Nat.le_of_ble_eq_true rfl) ?_
  intro r2 I2 J2 hh
  obtain ⟨e2, h2⟩ := hh
  rw [e2]
  clear e2 r2
  refine V0_icmp_eq (pc := 975) 1446 dL_law_975 (by decide) (fun _ => ?_) (fun q => absurd rfl q)
  exact lw_nx (next _ _ h2)
theorem lc_led {v : Int32} (hL : L < 2 ^ 31) (hi : i + 6 ≤ L) (hc : kc ≤ room_1.cells ∧ ks ≤ room_1.slots) (h : r_ex I J) (e : v = 26) (next : ∀ I' J', r_ex I' J' → lw_V l L xs kc ks 18 (i + 6) [] I' J') : lw_V l L xs kc ks 33 i [.int v] I J := by
  refine V_tabIn (pc := 33) (off := 947) (26) 980 dL_law_33 e (by decide) (by decide) (by decide) (by decide) ?_
  refine V0_aload_n (pc := 980) dL_law_980 rfl ?_
  refine V0_taload_n (pc := 981) dL_law_981 rfl ?_
  refine V0_iload_n (pc := 982) dL_law_982 rfl ?_
  refine V0_iconst (pc := 983) (1) dL_law_983 (by decide) ?_
  refine V0_iadd (pc := 984) dL_law_984 ?_
  refine V_tald (pc := 985) (n := L) (f := xs) (i + 1) dL_law_985 rfl hL (show nI i + 1 = nI (i + 1) from qI_add i 1) (by omega) ?_
  refine V_callV (pc := 986) (M' := mX11_led) dL_law_986 mlL_121 okX11_led rfl (st_led (x := xs (i + 1)) h) rfl rfl rfl rfl ⟨Nat.le_of_ble_eq_true rfl, Nat.le_of_ble_eq_true rfl⟩ hc (Nat.le_of_ble_eq_true rfl) ?_
  intro r1 I1 J1 hh
  obtain ⟨x1, e1, c2⟩ := hh
  rw [e1]
  clear e1 r1
  refine V0_aload_n (pc := 989) dL_law_989 rfl ?_
  refine V0_taload_n (pc := 990) dL_law_990 rfl ?_
  refine V0_iload_n (pc := 991) dL_law_991 rfl ?_
  refine V0_iconst (pc := 992) (1) dL_law_992 (by decide) ?_
  refine V0_iadd (pc := 993) dL_law_993 ?_
  refine V_tald (pc := 994) (n := L) (f := xs) (i + 1) dL_law_994 rfl hL (show nI i + 1 = nI (i + 1) from qI_add i 1) (by omega) ?_
  refine V_callV (pc := 995) (M' := mX12_led) dL_law_995 mlL_124 okX12_led rfl c2 rfl rfl rfl rfl ⟨Nat.le_of_ble_eq_true rfl, Nat.le_of_ble_eq_true rfl⟩ hc (Nat.le_of_ble_eq_true rfl) ?_
  intro r2 I2 J2 hh
  obtain ⟨e2, h2⟩ := hh
  rw [e2]
  clear e2 r2
  refine V0_icmp_eq (pc := 998) 1446 dL_law_998 (by decide) (fun _ => ?_) (fun q => absurd rfl q)
  exact lw_nx (next _ _ h2)
theorem lc_image {v : Int32} (hL : L < 2 ^ 31) (hi : i + 6 ≤ L) (hc : kc ≤ room_1.cells ∧ ks ≤ room_1.slots) (h : r_ex I J) (e : v = 27) (next : ∀ I' J', r_ex I' J' → lw_V l L xs kc ks 18 (i + 6) [] I' J') : lw_V l L xs kc ks 33 i [.int v] I J := by
  refine V_tabIn (pc := 33) (off := 970) (27) 1003 dL_law_33 e (by decide) (by decide) (by decide) (by decide) ?_
  refine V0_aload_n (pc := 1003) dL_law_1003 rfl ?_
  refine V_callV (pc := 1004) (M' := mX11_image) dL_law_1004 mlL_125 okX11_image rfl (st_image  h) rfl rfl rfl rfl ⟨Nat.le_of_ble_eq_true rfl, Nat.le_of_ble_eq_true rfl⟩ hc (Nat.le_of_ble_eq_true rfl) ?_
  intro r1 I1 J1 hh
  obtain ⟨x1, e1, c2⟩ := hh
  rw [e1]
  clear e1 r1
  refine V0_aload_n (pc := 1007) dL_law_1007 rfl ?_
  refine V_callV (pc := 1008) (M' := mX12_image) dL_law_1008 mlL_128 okX12_image rfl c2 rfl rfl rfl rfl ⟨Nat.le_of_ble_eq_true rfl, Nat.le_of_ble_eq_true rfl⟩ hc (Nat.le_of_ble_eq_true rfl) ?_
  intro r2 I2 J2 hh
  obtain ⟨e2, h2⟩ := hh
  rw [e2]
  clear e2 r2
  refine V0_icmp_eq (pc := 1011) 1446 dL_law_1011 (by decide) (fun _ => ?_) (fun q => absurd rfl q)
  exact lw_nx (next _ _ h2)
theorem lc_back {v : Int32} (hL : L < 2 ^ 31) (hi : i + 6 ≤ L) (hc : kc ≤ room_1.cells ∧ ks ≤ room_1.slots) (h : r_ex I J) (e : v = 28) (next : ∀ I' J', r_ex I' J' → lw_V l L xs kc ks 18 (i + 6) [] I' J') : lw_V l L xs kc ks 33 i [.int v] I J := by
  refine V_tabIn (pc := 33) (off := 983) (28) 1016 dL_law_33 e (by decide) (by decide) (by decide) (by decide) ?_
  refine V0_aload_n (pc := 1016) dL_law_1016 rfl ?_
  refine V_callV (pc := 1017) (M' := mX11_back) dL_law_1017 mlL_129 okX11_back rfl (st_back  h) rfl rfl rfl rfl ⟨Nat.le_of_ble_eq_true rfl, Nat.le_of_ble_eq_true rfl⟩ hc (Nat.le_of_ble_eq_true rfl) ?_
  intro r1 I1 J1 hh
  obtain ⟨x1, e1, c2⟩ := hh
  rw [e1]
  clear e1 r1
  refine V0_aload_n (pc := 1020) dL_law_1020 rfl ?_
  refine V_callV (pc := 1021) (M' := mX12_back) dL_law_1021 mlL_132 okX12_back rfl c2 rfl rfl rfl rfl ⟨Nat.le_of_ble_eq_true rfl, Nat.le_of_ble_eq_true rfl⟩ hc (Nat.le_of_ble_eq_true rfl) ?_
  intro r2 I2 J2 hh
  obtain ⟨e2, h2⟩ := hh
  rw [e2]
  clear e2 r2
  refine V0_icmp_eq (pc := 1024) 1446 dL_law_1024 (by decide) (fun _ => ?_) (fun q => absurd rfl q)
  exact lw_nx (next _ _ h2)
theorem lc_undo {v : Int32} (hL : L < 2 ^ 31) (hi : i + 6 ≤ L) (hc : kc ≤ room_1.cells ∧ ks ≤ room_1.slots) (h : r_ex I J) (e : v = 29) (next : ∀ I' J', r_ex I' J' → lw_V l L xs kc ks 18 (i + 6) [] I' J') : lw_V l L xs kc ks 33 i [.int v] I J := by
  refine V_tabIn (pc := 33) (off := 996) (29) 1029 dL_law_33 e (by decide) (by decide) (by decide) (by decide) ?_
  refine V0_aload_n (pc := 1029) dL_law_1029 rfl ?_
  refine V_callV (pc := 1030) (M' := mX11_undo) dL_law_1030 mlL_133 okX11_undo rfl (st_undo  h) rfl rfl rfl rfl ⟨Nat.le_of_ble_eq_true rfl, Nat.le_of_ble_eq_true rfl⟩ hc (Nat.le_of_ble_eq_true rfl) ?_
  intro r1 I1 J1 hh
  obtain ⟨x1, e1, c2⟩ := hh
  rw [e1]
  clear e1 r1
  refine V0_aload_n (pc := 1033) dL_law_1033 rfl ?_
  refine V_callV (pc := 1034) (M' := mX12_undo) dL_law_1034 mlL_136 okX12_undo rfl c2 rfl rfl rfl rfl ⟨Nat.le_of_ble_eq_true rfl, Nat.le_of_ble_eq_true rfl⟩ hc (Nat.le_of_ble_eq_true rfl) ?_
  intro r2 I2 J2 hh
  obtain ⟨e2, h2⟩ := hh
  rw [e2]
  clear e2 r2
  refine V0_icmp_eq (pc := 1037) 1446 dL_law_1037 (by decide) (fun _ => ?_) (fun q => absurd rfl q)
  exact lw_nx (next _ _ h2)
theorem lc_redo {v : Int32} (hL : L < 2 ^ 31) (hi : i + 6 ≤ L) (hc : kc ≤ room_1.cells ∧ ks ≤ room_1.slots) (h : r_ex I J) (e : v = 30) (next : ∀ I' J', r_ex I' J' → lw_V l L xs kc ks 18 (i + 6) [] I' J') : lw_V l L xs kc ks 33 i [.int v] I J := by
  refine V_tabIn (pc := 33) (off := 1009) (30) 1042 dL_law_33 e (by decide) (by decide) (by decide) (by decide) ?_
  refine V0_aload_n (pc := 1042) dL_law_1042 rfl ?_
  refine V_callV (pc := 1043) (M' := mX11_redo) dL_law_1043 mlL_137 okX11_redo rfl (st_redo  h) rfl rfl rfl rfl ⟨Nat.le_of_ble_eq_true rfl, Nat.le_of_ble_eq_true rfl⟩ hc (Nat.le_of_ble_eq_true rfl) ?_
  intro r1 I1 J1 hh
  obtain ⟨x1, e1, c2⟩ := hh
  rw [e1]
  clear e1 r1
  refine V0_aload_n (pc := 1046) dL_law_1046 rfl ?_
  refine V_callV (pc := 1047) (M' := mX12_redo) dL_law_1047 mlL_140 okX12_redo rfl c2 rfl rfl rfl rfl ⟨Nat.le_of_ble_eq_true rfl, Nat.le_of_ble_eq_true rfl⟩ hc (Nat.le_of_ble_eq_true rfl) ?_
  intro r2 I2 J2 hh
  obtain ⟨e2, h2⟩ := hh
  rw [e2]
  clear e2 r2
  refine V0_icmp_eq (pc := 1050) 1446 dL_law_1050 (by decide) (fun _ => ?_) (fun q => absurd rfl q)
  exact lw_nx (next _ _ h2)
theorem lc_body {v : Int32} (hL : L < 2 ^ 31) (hi : i + 6 ≤ L) (hc : kc ≤ room_1.cells ∧ ks ≤ room_1.slots) (h : r_ex I J) (e : v = 31) (next : ∀ I' J', r_ex I' J' → lw_V l L xs kc ks 18 (i + 6) [] I' J') : lw_V l L xs kc ks 33 i [.int v] I J := by
  refine V_tabIn (pc := 33) (off := 1022) (31) 1055 dL_law_33 e (by decide) (by decide) (by decide) (by decide) ?_
  refine V0_aload_n (pc := 1055) dL_law_1055 rfl ?_
  refine V0_taload_n (pc := 1056) dL_law_1056 rfl ?_
  refine V0_iload_n (pc := 1057) dL_law_1057 rfl ?_
  refine V0_iconst (pc := 1058) (1) dL_law_1058 (by decide) ?_
  refine V0_iadd (pc := 1059) dL_law_1059 ?_
  refine V_tald (pc := 1060) (n := L) (f := xs) (i + 1) dL_law_1060 rfl hL (show nI i + 1 = nI (i + 1) from qI_add i 1) (by omega) ?_
  refine V_callV (pc := 1061) (M' := mX11_body) dL_law_1061 mlL_141 okX11_body rfl (st_body (x := xs (i + 1)) h) rfl rfl rfl rfl ⟨Nat.le_of_ble_eq_true rfl, Nat.le_of_ble_eq_true rfl⟩ hc (Nat.le_of_ble_eq_true rfl) ?_
  intro r1 I1 J1 hh
  obtain ⟨x1, e1, c2⟩ := hh
  rw [e1]
  clear e1 r1
  refine V0_aload_n (pc := 1064) dL_law_1064 rfl ?_
  refine V0_taload_n (pc := 1065) dL_law_1065 rfl ?_
  refine V0_iload_n (pc := 1066) dL_law_1066 rfl ?_
  refine V0_iconst (pc := 1067) (1) dL_law_1067 (by decide) ?_
  refine V0_iadd (pc := 1068) dL_law_1068 ?_
  refine V_tald (pc := 1069) (n := L) (f := xs) (i + 1) dL_law_1069 rfl hL (show nI i + 1 = nI (i + 1) from qI_add i 1) (by omega) ?_
  refine V_callV (pc := 1070) (M' := mX12_body) dL_law_1070 mlL_144 okX12_body rfl c2 rfl rfl rfl rfl ⟨Nat.le_of_ble_eq_true rfl, Nat.le_of_ble_eq_true rfl⟩ hc (Nat.le_of_ble_eq_true rfl) ?_
  intro r2 I2 J2 hh
  obtain ⟨e2, h2⟩ := hh
  rw [e2]
  clear e2 r2
  refine V0_icmp_eq (pc := 1073) 1446 dL_law_1073 (by decide) (fun _ => ?_) (fun q => absurd rfl q)
  exact lw_nx (next _ _ h2)
theorem lc_act {v : Int32} (hL : L < 2 ^ 31) (hi : i + 6 ≤ L) (hc : kc ≤ room_1.cells ∧ ks ≤ room_1.slots) (h : r_ex I J) (e : v = 32) (next : ∀ I' J', r_ex I' J' → lw_V l L xs kc ks 18 (i + 6) [] I' J') : lw_V l L xs kc ks 33 i [.int v] I J := by
  refine V_tabIn (pc := 33) (off := 1045) (32) 1078 dL_law_33 e (by decide) (by decide) (by decide) (by decide) ?_
  refine V0_aload_n (pc := 1078) dL_law_1078 rfl ?_
  refine V0_taload_n (pc := 1079) dL_law_1079 rfl ?_
  refine V0_iload_n (pc := 1080) dL_law_1080 rfl ?_
  refine V0_iconst (pc := 1081) (1) dL_law_1081 (by decide) ?_
  refine V0_iadd (pc := 1082) dL_law_1082 ?_
  refine V_tald (pc := 1083) (n := L) (f := xs) (i + 1) dL_law_1083 rfl hL (show nI i + 1 = nI (i + 1) from qI_add i 1) (by omega) ?_
  refine V0_taload_n (pc := 1084) dL_law_1084 rfl ?_
  refine V0_iload_n (pc := 1085) dL_law_1085 rfl ?_
  refine V0_iconst (pc := 1086) (2) dL_law_1086 (by decide) ?_
  refine V0_iadd (pc := 1087) dL_law_1087 ?_
  refine V_tald (pc := 1088) (n := L) (f := xs) (i + 2) dL_law_1088 rfl hL (show nI i + 2 = nI (i + 2) from qI_add i 2) (by omega) ?_
  refine V0_taload_n (pc := 1089) dL_law_1089 rfl ?_
  refine V0_iload_n (pc := 1090) dL_law_1090 rfl ?_
  refine V0_iconst (pc := 1091) (3) dL_law_1091 (by decide) ?_
  refine V0_iadd (pc := 1092) dL_law_1092 ?_
  refine V_tald (pc := 1093) (n := L) (f := xs) (i + 3) dL_law_1093 rfl hL (show nI i + 3 = nI (i + 3) from qI_add i 3) (by omega) ?_
  refine V_callV (pc := 1094) (M' := mX11_act) dL_law_1094 mlL_145 okX11_act rfl (st_act (b := xs (i + 1)) (ac := xs (i + 2)) (x := xs (i + 3)) h) rfl rfl rfl rfl ⟨Nat.le_of_ble_eq_true rfl, Nat.le_of_ble_eq_true rfl⟩ hc (Nat.le_of_ble_eq_true rfl) ?_
  intro r1 I1 J1 hh
  obtain ⟨x1, e1, c2⟩ := hh
  rw [e1]
  clear e1 r1
  refine V0_aload_n (pc := 1097) dL_law_1097 rfl ?_
  refine V0_taload_n (pc := 1098) dL_law_1098 rfl ?_
  refine V0_iload_n (pc := 1099) dL_law_1099 rfl ?_
  refine V0_iconst (pc := 1100) (1) dL_law_1100 (by decide) ?_
  refine V0_iadd (pc := 1101) dL_law_1101 ?_
  refine V_tald (pc := 1102) (n := L) (f := xs) (i + 1) dL_law_1102 rfl hL (show nI i + 1 = nI (i + 1) from qI_add i 1) (by omega) ?_
  refine V0_taload_n (pc := 1103) dL_law_1103 rfl ?_
  refine V0_iload_n (pc := 1104) dL_law_1104 rfl ?_
  refine V0_iconst (pc := 1105) (2) dL_law_1105 (by decide) ?_
  refine V0_iadd (pc := 1106) dL_law_1106 ?_
  refine V_tald (pc := 1107) (n := L) (f := xs) (i + 2) dL_law_1107 rfl hL (show nI i + 2 = nI (i + 2) from qI_add i 2) (by omega) ?_
  refine V0_taload_n (pc := 1108) dL_law_1108 rfl ?_
  refine V0_iload_n (pc := 1109) dL_law_1109 rfl ?_
  refine V0_iconst (pc := 1110) (3) dL_law_1110 (by decide) ?_
  refine V0_iadd (pc := 1111) dL_law_1111 ?_
  refine V_tald (pc := 1112) (n := L) (f := xs) (i + 3) dL_law_1112 rfl hL (show nI i + 3 = nI (i + 3) from qI_add i 3) (by omega) ?_
  refine V_callV (pc := 1113) (M' := mX12_act) dL_law_1113 mlL_148 okX12_act rfl c2 rfl rfl rfl rfl ⟨Nat.le_of_ble_eq_true rfl, Nat.le_of_ble_eq_true rfl⟩ hc (Nat.le_of_ble_eq_true rfl) ?_
  intro r2 I2 J2 hh
  obtain ⟨e2, h2⟩ := hh
  rw [e2]
  clear e2 r2
  refine V0_icmp_eq (pc := 1116) 1446 dL_law_1116 (by decide) (fun _ => ?_) (fun q => absurd rfl q)
  exact lw_nx (next _ _ h2)
theorem lc_trace {v : Int32} (hL : L < 2 ^ 31) (hi : i + 6 ≤ L) (hc : kc ≤ room_1.cells ∧ ks ≤ room_1.slots) (h : r_ex I J) (e : v = 33) (next : ∀ I' J', r_ex I' J' → lw_V l L xs kc ks 18 (i + 6) [] I' J') : lw_V l L xs kc ks 33 i [.int v] I J := by
  refine V_tabIn (pc := 33) (off := 1088) (33) 1121 dL_law_33 e (by decide) (by decide) (by decide) (by decide) ?_
  refine V0_aload_n (pc := 1121) dL_law_1121 rfl ?_
  refine V0_taload_n (pc := 1122) dL_law_1122 rfl ?_
  refine V0_iload_n (pc := 1123) dL_law_1123 rfl ?_
  refine V0_iconst (pc := 1124) (1) dL_law_1124 (by decide) ?_
  refine V0_iadd (pc := 1125) dL_law_1125 ?_
  refine V_tald (pc := 1126) (n := L) (f := xs) (i + 1) dL_law_1126 rfl hL (show nI i + 1 = nI (i + 1) from qI_add i 1) (by omega) ?_
  refine V_callV (pc := 1127) (M' := mX11_trace) dL_law_1127 mlL_149 okX11_trace rfl (st_trace (x := xs (i + 1)) h) rfl rfl rfl rfl ⟨Nat.le_of_ble_eq_true rfl, Nat.le_of_ble_eq_true rfl⟩ hc (Nat.le_of_ble_eq_true rfl) ?_
  intro r1 I1 J1 hh
  obtain ⟨x1, e1, c2⟩ := hh
  rw [e1]
  clear e1 r1
  refine V0_aload_n (pc := 1130) dL_law_1130 rfl ?_
  refine V0_taload_n (pc := 1131) dL_law_1131 rfl ?_
  refine V0_iload_n (pc := 1132) dL_law_1132 rfl ?_
  refine V0_iconst (pc := 1133) (1) dL_law_1133 (by decide) ?_
  refine V0_iadd (pc := 1134) dL_law_1134 ?_
  refine V_tald (pc := 1135) (n := L) (f := xs) (i + 1) dL_law_1135 rfl hL (show nI i + 1 = nI (i + 1) from qI_add i 1) (by omega) ?_
  refine V_callV (pc := 1136) (M' := mX12_trace) dL_law_1136 mlL_152 okX12_trace rfl c2 rfl rfl rfl rfl ⟨Nat.le_of_ble_eq_true rfl, Nat.le_of_ble_eq_true rfl⟩ hc (Nat.le_of_ble_eq_true rfl) ?_
  intro r2 I2 J2 hh
  obtain ⟨e2, h2⟩ := hh
  rw [e2]
  clear e2 r2
  refine V0_icmp_eq (pc := 1139) 1446 dL_law_1139 (by decide) (fun _ => ?_) (fun q => absurd rfl q)
  exact lw_nx (next _ _ h2)
theorem lc_keep {v : Int32} (hL : L < 2 ^ 31) (hi : i + 6 ≤ L) (hc : kc ≤ room_1.cells ∧ ks ≤ room_1.slots) (h : r_ex I J) (e : v = 34) (next : ∀ I' J', r_ex I' J' → lw_V l L xs kc ks 18 (i + 6) [] I' J') : lw_V l L xs kc ks 33 i [.int v] I J := by
  refine V_tabIn (pc := 33) (off := 1111) (34) 1144 dL_law_33 e (by decide) (by decide) (by decide) (by decide) ?_
  refine V0_aload_n (pc := 1144) dL_law_1144 rfl ?_
  refine V0_taload_n (pc := 1145) dL_law_1145 rfl ?_
  refine V0_iload_n (pc := 1146) dL_law_1146 rfl ?_
  refine V0_iconst (pc := 1147) (1) dL_law_1147 (by decide) ?_
  refine V0_iadd (pc := 1148) dL_law_1148 ?_
  refine V_tald (pc := 1149) (n := L) (f := xs) (i + 1) dL_law_1149 rfl hL (show nI i + 1 = nI (i + 1) from qI_add i 1) (by omega) ?_
  refine V0_taload_n (pc := 1150) dL_law_1150 rfl ?_
  refine V0_iload_n (pc := 1151) dL_law_1151 rfl ?_
  refine V0_iconst (pc := 1152) (2) dL_law_1152 (by decide) ?_
  refine V0_iadd (pc := 1153) dL_law_1153 ?_
  refine V_tald (pc := 1154) (n := L) (f := xs) (i + 2) dL_law_1154 rfl hL (show nI i + 2 = nI (i + 2) from qI_add i 2) (by omega) ?_
  refine V_callV (pc := 1155) (M' := mX11_keep) dL_law_1155 mlL_153 okX11_keep rfl (st_keep (x := xs (i + 1)) (b := xs (i + 2)) h) rfl rfl rfl rfl ⟨Nat.le_of_ble_eq_true rfl, Nat.le_of_ble_eq_true rfl⟩ hc (Nat.le_of_ble_eq_true rfl) ?_
  intro r1 I1 J1 hh
  obtain ⟨x1, e1, c2⟩ := hh
  rw [e1]
  clear e1 r1
  refine V0_aload_n (pc := 1158) dL_law_1158 rfl ?_
  refine V0_taload_n (pc := 1159) dL_law_1159 rfl ?_
  refine V0_iload_n (pc := 1160) dL_law_1160 rfl ?_
  refine V0_iconst (pc := 1161) (1) dL_law_1161 (by decide) ?_
  refine V0_iadd (pc := 1162) dL_law_1162 ?_
  refine V_tald (pc := 1163) (n := L) (f := xs) (i + 1) dL_law_1163 rfl hL (show nI i + 1 = nI (i + 1) from qI_add i 1) (by omega) ?_
  refine V0_taload_n (pc := 1164) dL_law_1164 rfl ?_
  refine V0_iload_n (pc := 1165) dL_law_1165 rfl ?_
  refine V0_iconst (pc := 1166) (2) dL_law_1166 (by decide) ?_
  refine V0_iadd (pc := 1167) dL_law_1167 ?_
  refine V_tald (pc := 1168) (n := L) (f := xs) (i + 2) dL_law_1168 rfl hL (show nI i + 2 = nI (i + 2) from qI_add i 2) (by omega) ?_
  refine V_callV (pc := 1169) (M' := mX12_keep) dL_law_1169 mlL_156 okX12_keep rfl c2 rfl rfl rfl rfl ⟨Nat.le_of_ble_eq_true rfl, Nat.le_of_ble_eq_true rfl⟩ hc (Nat.le_of_ble_eq_true rfl) ?_
  intro r2 I2 J2 hh
  obtain ⟨e2, h2⟩ := hh
  rw [e2]
  clear e2 r2
  refine V0_icmp_eq (pc := 1172) 1446 dL_law_1172 (by decide) (fun _ => ?_) (fun q => absurd rfl q)
  exact lw_nx (next _ _ h2)
theorem lc_row {v : Int32} (hL : L < 2 ^ 31) (hi : i + 6 ≤ L) (hc : kc ≤ room_1.cells ∧ ks ≤ room_1.slots) (h : r_ex I J) (e : v = 35) (next : ∀ I' J', r_ex I' J' → lw_V l L xs kc ks 18 (i + 6) [] I' J') : lw_V l L xs kc ks 33 i [.int v] I J := by
  refine V_tabIn (pc := 33) (off := 1144) (35) 1177 dL_law_33 e (by decide) (by decide) (by decide) (by decide) ?_
  refine V0_aload_n (pc := 1177) dL_law_1177 rfl ?_
  refine V0_taload_n (pc := 1178) dL_law_1178 rfl ?_
  refine V0_iload_n (pc := 1179) dL_law_1179 rfl ?_
  refine V0_iconst (pc := 1180) (1) dL_law_1180 (by decide) ?_
  refine V0_iadd (pc := 1181) dL_law_1181 ?_
  refine V_tald (pc := 1182) (n := L) (f := xs) (i + 1) dL_law_1182 rfl hL (show nI i + 1 = nI (i + 1) from qI_add i 1) (by omega) ?_
  refine V0_taload_n (pc := 1183) dL_law_1183 rfl ?_
  refine V0_iload_n (pc := 1184) dL_law_1184 rfl ?_
  refine V0_iconst (pc := 1185) (2) dL_law_1185 (by decide) ?_
  refine V0_iadd (pc := 1186) dL_law_1186 ?_
  refine V_tald (pc := 1187) (n := L) (f := xs) (i + 2) dL_law_1187 rfl hL (show nI i + 2 = nI (i + 2) from qI_add i 2) (by omega) ?_
  refine V0_taload_n (pc := 1188) dL_law_1188 rfl ?_
  refine V0_iload_n (pc := 1189) dL_law_1189 rfl ?_
  refine V0_iconst (pc := 1190) (3) dL_law_1190 (by decide) ?_
  refine V0_iadd (pc := 1191) dL_law_1191 ?_
  refine V_tald (pc := 1192) (n := L) (f := xs) (i + 3) dL_law_1192 rfl hL (show nI i + 3 = nI (i + 3) from qI_add i 3) (by omega) ?_
  refine V_callV (pc := 1193) (M' := mX11_row) dL_law_1193 mlL_157 okX11_row rfl (st_row (x := xs (i + 1)) (ty := xs (i + 2)) (v := xs (i + 3)) h) rfl rfl rfl rfl ⟨Nat.le_of_ble_eq_true rfl, Nat.le_of_ble_eq_true rfl⟩ hc (Nat.le_of_ble_eq_true rfl) ?_
  intro r1 I1 J1 hh
  obtain ⟨x1, e1, c2⟩ := hh
  rw [e1]
  clear e1 r1
  refine V0_aload_n (pc := 1196) dL_law_1196 rfl ?_
  refine V0_taload_n (pc := 1197) dL_law_1197 rfl ?_
  refine V0_iload_n (pc := 1198) dL_law_1198 rfl ?_
  refine V0_iconst (pc := 1199) (1) dL_law_1199 (by decide) ?_
  refine V0_iadd (pc := 1200) dL_law_1200 ?_
  refine V_tald (pc := 1201) (n := L) (f := xs) (i + 1) dL_law_1201 rfl hL (show nI i + 1 = nI (i + 1) from qI_add i 1) (by omega) ?_
  refine V0_taload_n (pc := 1202) dL_law_1202 rfl ?_
  refine V0_iload_n (pc := 1203) dL_law_1203 rfl ?_
  refine V0_iconst (pc := 1204) (2) dL_law_1204 (by decide) ?_
  refine V0_iadd (pc := 1205) dL_law_1205 ?_
  refine V_tald (pc := 1206) (n := L) (f := xs) (i + 2) dL_law_1206 rfl hL (show nI i + 2 = nI (i + 2) from qI_add i 2) (by omega) ?_
  refine V0_taload_n (pc := 1207) dL_law_1207 rfl ?_
  refine V0_iload_n (pc := 1208) dL_law_1208 rfl ?_
  refine V0_iconst (pc := 1209) (3) dL_law_1209 (by decide) ?_
  refine V0_iadd (pc := 1210) dL_law_1210 ?_
  refine V_tald (pc := 1211) (n := L) (f := xs) (i + 3) dL_law_1211 rfl hL (show nI i + 3 = nI (i + 3) from qI_add i 3) (by omega) ?_
  refine V_callV (pc := 1212) (M' := mX12_row) dL_law_1212 mlL_160 okX12_row rfl c2 rfl rfl rfl rfl ⟨Nat.le_of_ble_eq_true rfl, Nat.le_of_ble_eq_true rfl⟩ hc (Nat.le_of_ble_eq_true rfl) ?_
  intro r2 I2 J2 hh
  obtain ⟨e2, h2⟩ := hh
  rw [e2]
  clear e2 r2
  refine V0_icmp_eq (pc := 1215) 1446 dL_law_1215 (by decide) (fun _ => ?_) (fun q => absurd rfl q)
  exact lw_nx (next _ _ h2)
theorem lc_put {v : Int32} (hL : L < 2 ^ 31) (hi : i + 6 ≤ L) (hc : kc ≤ room_1.cells ∧ ks ≤ room_1.slots) (h : r_ex I J) (e : v = 36) (next : ∀ I' J', r_ex I' J' → lw_V l L xs kc ks 18 (i + 6) [] I' J') : lw_V l L xs kc ks 33 i [.int v] I J := by
  refine V_tabIn (pc := 33) (off := 1187) (36) 1220 dL_law_33 e (by decide) (by decide) (by decide) (by decide) ?_
  refine V0_aload_n (pc := 1220) dL_law_1220 rfl ?_
  refine V0_taload_n (pc := 1221) dL_law_1221 rfl ?_
  refine V0_iload_n (pc := 1222) dL_law_1222 rfl ?_
  refine V0_iconst (pc := 1223) (1) dL_law_1223 (by decide) ?_
  refine V0_iadd (pc := 1224) dL_law_1224 ?_
  refine V_tald (pc := 1225) (n := L) (f := xs) (i + 1) dL_law_1225 rfl hL (show nI i + 1 = nI (i + 1) from qI_add i 1) (by omega) ?_
  refine V0_taload_n (pc := 1226) dL_law_1226 rfl ?_
  refine V0_iload_n (pc := 1227) dL_law_1227 rfl ?_
  refine V0_iconst (pc := 1228) (2) dL_law_1228 (by decide) ?_
  refine V0_iadd (pc := 1229) dL_law_1229 ?_
  refine V_tald (pc := 1230) (n := L) (f := xs) (i + 2) dL_law_1230 rfl hL (show nI i + 2 = nI (i + 2) from qI_add i 2) (by omega) ?_
  refine V0_taload_n (pc := 1231) dL_law_1231 rfl ?_
  refine V0_iload_n (pc := 1232) dL_law_1232 rfl ?_
  refine V0_iconst (pc := 1233) (3) dL_law_1233 (by decide) ?_
  refine V0_iadd (pc := 1234) dL_law_1234 ?_
  refine V_tald (pc := 1235) (n := L) (f := xs) (i + 3) dL_law_1235 rfl hL (show nI i + 3 = nI (i + 3) from qI_add i 3) (by omega) ?_
  refine V0_i2l (pc := 1236) dL_law_1236 ?_
  refine V0_bipush (pc := 1237) (32) dL_law_1237 (by decide) ?_
  refine V0_lshl (pc := 1239) dL_law_1239 ?_
  refine V0_taload_n (pc := 1240) dL_law_1240 rfl ?_
  refine V0_iload_n (pc := 1241) dL_law_1241 rfl ?_
  refine V0_iconst (pc := 1242) (4) dL_law_1242 (by decide) ?_
  refine V0_iadd (pc := 1243) dL_law_1243 ?_
  refine V_tald (pc := 1244) (n := L) (f := xs) (i + 4) dL_law_1244 rfl hL (show nI i + 4 = nI (i + 4) from qI_add i 4) (by omega) ?_
  refine V0_i2l (pc := 1245) dL_law_1245 ?_
  refine V0_ldc2 (pc := 1246) dL_law_1246 csL_161 ?_
  refine V0_land (pc := 1249) dL_law_1249 ?_
  refine V0_lor (pc := 1250) dL_law_1250 ?_
  refine V_callV (pc := 1251) (M' := mX11_put) dL_law_1251 mlL_163 okX11_put rfl (st_put (x := xs (i + 1)) (i := xs (i + 2)) h) rfl rfl rfl rfl ⟨Nat.le_of_ble_eq_true rfl, Nat.le_of_ble_eq_true rfl⟩ hc (Nat.le_of_ble_eq_true rfl) ?_
  intro r1 I1 J1 hh
  obtain ⟨x1, e1, c2⟩ := hh
  rw [e1]
  clear e1 r1
  refine V0_aload_n (pc := 1254) dL_law_1254 rfl ?_
  refine V0_taload_n (pc := 1255) dL_law_1255 rfl ?_
  refine V0_iload_n (pc := 1256) dL_law_1256 rfl ?_
  refine V0_iconst (pc := 1257) (1) dL_law_1257 (by decide) ?_
  refine V0_iadd (pc := 1258) dL_law_1258 ?_
  refine V_tald (pc := 1259) (n := L) (f := xs) (i + 1) dL_law_1259 rfl hL (show nI i + 1 = nI (i + 1) from qI_add i 1) (by omega) ?_
  refine V0_taload_n (pc := 1260) dL_law_1260 rfl ?_
  refine V0_iload_n (pc := 1261) dL_law_1261 rfl ?_
  refine V0_iconst (pc := 1262) (2) dL_law_1262 (by decide) ?_
  refine V0_iadd (pc := 1263) dL_law_1263 ?_
  refine V_tald (pc := 1264) (n := L) (f := xs) (i + 2) dL_law_1264 rfl hL (show nI i + 2 = nI (i + 2) from qI_add i 2) (by omega) ?_
  refine V0_taload_n (pc := 1265) dL_law_1265 rfl ?_
  refine V0_iload_n (pc := 1266) dL_law_1266 rfl ?_
  refine V0_iconst (pc := 1267) (3) dL_law_1267 (by decide) ?_
  refine V0_iadd (pc := 1268) dL_law_1268 ?_
  refine V_tald (pc := 1269) (n := L) (f := xs) (i + 3) dL_law_1269 rfl hL (show nI i + 3 = nI (i + 3) from qI_add i 3) (by omega) ?_
  refine V0_i2l (pc := 1270) dL_law_1270 ?_
  refine V0_bipush (pc := 1271) (32) dL_law_1271 (by decide) ?_
  refine V0_lshl (pc := 1273) dL_law_1273 ?_
  refine V0_taload_n (pc := 1274) dL_law_1274 rfl ?_
  refine V0_iload_n (pc := 1275) dL_law_1275 rfl ?_
  refine V0_iconst (pc := 1276) (4) dL_law_1276 (by decide) ?_
  refine V0_iadd (pc := 1277) dL_law_1277 ?_
  refine V_tald (pc := 1278) (n := L) (f := xs) (i + 4) dL_law_1278 rfl hL (show nI i + 4 = nI (i + 4) from qI_add i 4) (by omega) ?_
  refine V0_i2l (pc := 1279) dL_law_1279 ?_
  refine V0_ldc2 (pc := 1280) dL_law_1280 csL_161 ?_
  refine V0_land (pc := 1283) dL_law_1283 ?_
  refine V0_lor (pc := 1284) dL_law_1284 ?_
  refine V_callV (pc := 1285) (M' := mX12_put) dL_law_1285 mlL_167 okX12_put rfl c2 rfl rfl rfl rfl ⟨Nat.le_of_ble_eq_true rfl, Nat.le_of_ble_eq_true rfl⟩ hc (Nat.le_of_ble_eq_true rfl) ?_
  intro r2 I2 J2 hh
  obtain ⟨e2, h2⟩ := hh
  rw [e2]
  clear e2 r2
  refine V0_icmp_eq (pc := 1288) 1446 dL_law_1288 (by decide) (fun _ => ?_) (fun q => absurd rfl q)
  exact lw_nx (next _ _ h2)
theorem lc_element {v : Int32} (hL : L < 2 ^ 31) (hi : i + 6 ≤ L) (hc : kc ≤ room_1.cells ∧ ks ≤ room_1.slots) (h : r_ex I J) (e : v = 37) (next : ∀ I' J', r_ex I' J' → lw_V l L xs kc ks 18 (i + 6) [] I' J') : lw_V l L xs kc ks 33 i [.int v] I J := by
  refine V_tabIn (pc := 33) (off := 1260) (37) 1293 dL_law_33 e (by decide) (by decide) (by decide) (by decide) ?_
  refine V0_aload_n (pc := 1293) dL_law_1293 rfl ?_
  refine V0_taload_n (pc := 1294) dL_law_1294 rfl ?_
  refine V0_iload_n (pc := 1295) dL_law_1295 rfl ?_
  refine V0_iconst (pc := 1296) (1) dL_law_1296 (by decide) ?_
  refine V0_iadd (pc := 1297) dL_law_1297 ?_
  refine V_tald (pc := 1298) (n := L) (f := xs) (i + 1) dL_law_1298 rfl hL (show nI i + 1 = nI (i + 1) from qI_add i 1) (by omega) ?_
  refine V0_taload_n (pc := 1299) dL_law_1299 rfl ?_
  refine V0_iload_n (pc := 1300) dL_law_1300 rfl ?_
  refine V0_iconst (pc := 1301) (2) dL_law_1301 (by decide) ?_
  refine V0_iadd (pc := 1302) dL_law_1302 ?_
  refine V_tald (pc := 1303) (n := L) (f := xs) (i + 2) dL_law_1303 rfl hL (show nI i + 2 = nI (i + 2) from qI_add i 2) (by omega) ?_
  refine V_callV (pc := 1304) (M' := mX11_element) dL_law_1304 mlL_168 okX11_element rfl (st_element (x := xs (i + 1)) (i := xs (i + 2)) h) rfl rfl rfl rfl ⟨Nat.le_of_ble_eq_true rfl, Nat.le_of_ble_eq_true rfl⟩ hc (Nat.le_of_ble_eq_true rfl) ?_
  intro r1 I1 J1 hh
  obtain ⟨x1, e1, c2⟩ := hh
  rw [e1]
  clear e1 r1
  refine V0_aload_n (pc := 1307) dL_law_1307 rfl ?_
  refine V0_taload_n (pc := 1308) dL_law_1308 rfl ?_
  refine V0_iload_n (pc := 1309) dL_law_1309 rfl ?_
  refine V0_iconst (pc := 1310) (1) dL_law_1310 (by decide) ?_
  refine V0_iadd (pc := 1311) dL_law_1311 ?_
  refine V_tald (pc := 1312) (n := L) (f := xs) (i + 1) dL_law_1312 rfl hL (show nI i + 1 = nI (i + 1) from qI_add i 1) (by omega) ?_
  refine V0_taload_n (pc := 1313) dL_law_1313 rfl ?_
  refine V0_iload_n (pc := 1314) dL_law_1314 rfl ?_
  refine V0_iconst (pc := 1315) (2) dL_law_1315 (by decide) ?_
  refine V0_iadd (pc := 1316) dL_law_1316 ?_
  refine V_tald (pc := 1317) (n := L) (f := xs) (i + 2) dL_law_1317 rfl hL (show nI i + 2 = nI (i + 2) from qI_add i 2) (by omega) ?_
  refine V_callV (pc := 1318) (M' := mX12_element) dL_law_1318 mlL_172 okX12_element rfl c2 rfl rfl rfl rfl ⟨Nat.le_of_ble_eq_true rfl, Nat.le_of_ble_eq_true rfl⟩ hc (Nat.le_of_ble_eq_true rfl) ?_
  intro r2 I2 J2 hh
  obtain ⟨e2, h2⟩ := hh
  rw [e2]
  clear e2 r2
  refine V0_lcmp (pc := 1321) dL_law_1321 ?_
  refine V0_if_eq (pc := 1322) 1446 dL_law_1322 (by decide) (fun _ => ?_) (fun q => absurd (lg_eq.mpr rfl) q)
  exact lw_nx (next _ _ h2)
theorem lc_shift {v : Int32} (hL : L < 2 ^ 31) (hi : i + 6 ≤ L) (hc : kc ≤ room_1.cells ∧ ks ≤ room_1.slots) (h : r_ex I J) (e : v = 38) (next : ∀ I' J', r_ex I' J' → lw_V l L xs kc ks 18 (i + 6) [] I' J') : lw_V l L xs kc ks 33 i [.int v] I J := by
  refine V_tabIn (pc := 33) (off := 1294) (38) 1327 dL_law_33 e (by decide) (by decide) (by decide) (by decide) ?_
  refine V0_aload_n (pc := 1327) dL_law_1327 rfl ?_
  refine V0_taload_n (pc := 1328) dL_law_1328 rfl ?_
  refine V0_iload_n (pc := 1329) dL_law_1329 rfl ?_
  refine V0_iconst (pc := 1330) (1) dL_law_1330 (by decide) ?_
  refine V0_iadd (pc := 1331) dL_law_1331 ?_
  refine V_tald (pc := 1332) (n := L) (f := xs) (i + 1) dL_law_1332 rfl hL (show nI i + 1 = nI (i + 1) from qI_add i 1) (by omega) ?_
  refine V0_taload_n (pc := 1333) dL_law_1333 rfl ?_
  refine V0_iload_n (pc := 1334) dL_law_1334 rfl ?_
  refine V0_iconst (pc := 1335) (2) dL_law_1335 (by decide) ?_
  refine V0_iadd (pc := 1336) dL_law_1336 ?_
  refine V_tald (pc := 1337) (n := L) (f := xs) (i + 2) dL_law_1337 rfl hL (show nI i + 2 = nI (i + 2) from qI_add i 2) (by omega) ?_
  refine V0_taload_n (pc := 1338) dL_law_1338 rfl ?_
  refine V0_iload_n (pc := 1339) dL_law_1339 rfl ?_
  refine V0_iconst (pc := 1340) (3) dL_law_1340 (by decide) ?_
  refine V0_iadd (pc := 1341) dL_law_1341 ?_
  refine V_tald (pc := 1342) (n := L) (f := xs) (i + 3) dL_law_1342 rfl hL (show nI i + 3 = nI (i + 3) from qI_add i 3) (by omega) ?_
  refine V0_taload_n (pc := 1343) dL_law_1343 rfl ?_
  refine V0_iload_n (pc := 1344) dL_law_1344 rfl ?_
  refine V0_iconst (pc := 1345) (4) dL_law_1345 (by decide) ?_
  refine V0_iadd (pc := 1346) dL_law_1346 ?_
  refine V_tald (pc := 1347) (n := L) (f := xs) (i + 4) dL_law_1347 rfl hL (show nI i + 4 = nI (i + 4) from qI_add i 4) (by omega) ?_
  refine V0_taload_n (pc := 1348) dL_law_1348 rfl ?_
  refine V0_iload_n (pc := 1349) dL_law_1349 rfl ?_
  refine V0_iconst (pc := 1350) (5) dL_law_1350 (by decide) ?_
  refine V0_iadd (pc := 1351) dL_law_1351 ?_
  refine V_tald (pc := 1352) (n := L) (f := xs) (i + 5) dL_law_1352 rfl hL (show nI i + 5 = nI (i + 5) from qI_add i 5) (by omega) ?_
  refine V_callV (pc := 1353) (M' := mX11_shift) dL_law_1353 mlL_173 okX11_shift rfl (st_shift (x := xs (i + 1)) (i := xs (i + 2)) (y := xs (i + 3)) (j := xs (i + 4)) (v := xs (i + 5)) h) rfl rfl rfl rfl ⟨Nat.le_of_ble_eq_true rfl, Nat.le_of_ble_eq_true rfl⟩ hc (Nat.le_of_ble_eq_true rfl) ?_
  intro r1 I1 J1 hh
  obtain ⟨x1, e1, c2⟩ := hh
  rw [e1]
  clear e1 r1
  refine V0_aload_n (pc := 1356) dL_law_1356 rfl ?_
  refine V0_taload_n (pc := 1357) dL_law_1357 rfl ?_
  refine V0_iload_n (pc := 1358) dL_law_1358 rfl ?_
  refine V0_iconst (pc := 1359) (1) dL_law_1359 (by decide) ?_
  refine V0_iadd (pc := 1360) dL_law_1360 ?_
  refine V_tald (pc := 1361) (n := L) (f := xs) (i + 1) dL_law_1361 rfl hL (show nI i + 1 = nI (i + 1) from qI_add i 1) (by omega) ?_
  refine V0_taload_n (pc := 1362) dL_law_1362 rfl ?_
  refine V0_iload_n (pc := 1363) dL_law_1363 rfl ?_
  refine V0_iconst (pc := 1364) (2) dL_law_1364 (by decide) ?_
  refine V0_iadd (pc := 1365) dL_law_1365 ?_
  refine V_tald (pc := 1366) (n := L) (f := xs) (i + 2) dL_law_1366 rfl hL (show nI i + 2 = nI (i + 2) from qI_add i 2) (by omega) ?_
  refine V0_taload_n (pc := 1367) dL_law_1367 rfl ?_
  refine V0_iload_n (pc := 1368) dL_law_1368 rfl ?_
  refine V0_iconst (pc := 1369) (3) dL_law_1369 (by decide) ?_
  refine V0_iadd (pc := 1370) dL_law_1370 ?_
  refine V_tald (pc := 1371) (n := L) (f := xs) (i + 3) dL_law_1371 rfl hL (show nI i + 3 = nI (i + 3) from qI_add i 3) (by omega) ?_
  refine V0_taload_n (pc := 1372) dL_law_1372 rfl ?_
  refine V0_iload_n (pc := 1373) dL_law_1373 rfl ?_
  refine V0_iconst (pc := 1374) (4) dL_law_1374 (by decide) ?_
  refine V0_iadd (pc := 1375) dL_law_1375 ?_
  refine V_tald (pc := 1376) (n := L) (f := xs) (i + 4) dL_law_1376 rfl hL (show nI i + 4 = nI (i + 4) from qI_add i 4) (by omega) ?_
  refine V0_taload_n (pc := 1377) dL_law_1377 rfl ?_
  refine V0_iload_n (pc := 1378) dL_law_1378 rfl ?_
  refine V0_iconst (pc := 1379) (5) dL_law_1379 (by decide) ?_
  refine V0_iadd (pc := 1380) dL_law_1380 ?_
  refine V_tald (pc := 1381) (n := L) (f := xs) (i + 5) dL_law_1381 rfl hL (show nI i + 5 = nI (i + 5) from qI_add i 5) (by omega) ?_
  refine V_callV (pc := 1382) (M' := mX12_shift) dL_law_1382 mlL_177 okX12_shift rfl c2 rfl rfl rfl rfl ⟨Nat.le_of_ble_eq_true rfl, Nat.le_of_ble_eq_true rfl⟩ hc (Nat.le_of_ble_eq_true rfl) ?_
  intro r2 I2 J2 hh
  obtain ⟨e2, h2⟩ := hh
  rw [e2]
  clear e2 r2
  refine V0_icmp_eq (pc := 1385) 1446 dL_law_1385 (by decide) (fun _ => ?_) (fun q => absurd rfl q)
  exact lw_nx (next _ _ h2)
theorem lc_taken {v : Int32} (hL : L < 2 ^ 31) (hi : i + 6 ≤ L) (hc : kc ≤ room_1.cells ∧ ks ≤ room_1.slots) (h : r_ex I J) (e : v = 39) (next : ∀ I' J', r_ex I' J' → lw_V l L xs kc ks 18 (i + 6) [] I' J') : lw_V l L xs kc ks 33 i [.int v] I J := by
  refine V_tabIn (pc := 33) (off := 1357) (39) 1390 dL_law_33 e (by decide) (by decide) (by decide) (by decide) ?_
  refine V0_aload_n (pc := 1390) dL_law_1390 rfl ?_
  refine V0_taload_n (pc := 1391) dL_law_1391 rfl ?_
  refine V0_iload_n (pc := 1392) dL_law_1392 rfl ?_
  refine V0_iconst (pc := 1393) (1) dL_law_1393 (by decide) ?_
  refine V0_iadd (pc := 1394) dL_law_1394 ?_
  refine V_tald (pc := 1395) (n := L) (f := xs) (i + 1) dL_law_1395 rfl hL (show nI i + 1 = nI (i + 1) from qI_add i 1) (by omega) ?_
  refine V0_taload_n (pc := 1396) dL_law_1396 rfl ?_
  refine V0_iload_n (pc := 1397) dL_law_1397 rfl ?_
  refine V0_iconst (pc := 1398) (2) dL_law_1398 (by decide) ?_
  refine V0_iadd (pc := 1399) dL_law_1399 ?_
  refine V_tald (pc := 1400) (n := L) (f := xs) (i + 2) dL_law_1400 rfl hL (show nI i + 2 = nI (i + 2) from qI_add i 2) (by omega) ?_
  refine V_callV (pc := 1401) (M' := mX11_taken) dL_law_1401 mlL_178 okX11_taken rfl (st_taken (x := xs (i + 1)) (k := xs (i + 2)) h) rfl rfl rfl rfl ⟨Nat.le_of_ble_eq_true rfl, Nat.le_of_ble_eq_true rfl⟩ hc (Nat.le_of_ble_eq_true rfl) ?_
  intro r1 I1 J1 hh
  obtain ⟨x1, e1, c2⟩ := hh
  rw [e1]
  clear e1 r1
  refine V0_aload_n (pc := 1404) dL_law_1404 rfl ?_
  refine V0_taload_n (pc := 1405) dL_law_1405 rfl ?_
  refine V0_iload_n (pc := 1406) dL_law_1406 rfl ?_
  refine V0_iconst (pc := 1407) (1) dL_law_1407 (by decide) ?_
  refine V0_iadd (pc := 1408) dL_law_1408 ?_
  refine V_tald (pc := 1409) (n := L) (f := xs) (i + 1) dL_law_1409 rfl hL (show nI i + 1 = nI (i + 1) from qI_add i 1) (by omega) ?_
  refine V0_taload_n (pc := 1410) dL_law_1410 rfl ?_
  refine V0_iload_n (pc := 1411) dL_law_1411 rfl ?_
  refine V0_iconst (pc := 1412) (2) dL_law_1412 (by decide) ?_
  refine V0_iadd (pc := 1413) dL_law_1413 ?_
  refine V_tald (pc := 1414) (n := L) (f := xs) (i + 2) dL_law_1414 rfl hL (show nI i + 2 = nI (i + 2) from qI_add i 2) (by omega) ?_
  refine V_callV (pc := 1415) (M' := mX12_taken) dL_law_1415 mlL_181 okX12_taken rfl c2 rfl rfl rfl rfl ⟨Nat.le_of_ble_eq_true rfl, Nat.le_of_ble_eq_true rfl⟩ hc (Nat.le_of_ble_eq_true rfl) ?_
  intro r2 I2 J2 hh
  obtain ⟨e2, h2⟩ := hh
  rw [e2]
  clear e2 r2
  refine V0_icmp_eq (pc := 1418) 1446 dL_law_1418 (by decide) (fun _ => ?_) (fun q => absurd rfl q)
  exact lw_nx (next _ _ h2)
theorem lc_count {v : Int32} (hL : L < 2 ^ 31) (hi : i + 6 ≤ L) (hc : kc ≤ room_1.cells ∧ ks ≤ room_1.slots) (h : r_ex I J) (e : v = 40) (next : ∀ I' J', r_ex I' J' → lw_V l L xs kc ks 18 (i + 6) [] I' J') : lw_V l L xs kc ks 33 i [.int v] I J := by
  refine V_tabIn (pc := 33) (off := 1390) (40) 1423 dL_law_33 e (by decide) (by decide) (by decide) (by decide) ?_
  refine V0_aload_n (pc := 1423) dL_law_1423 rfl ?_
  refine V0_taload_n (pc := 1424) dL_law_1424 rfl ?_
  refine V0_iload_n (pc := 1425) dL_law_1425 rfl ?_
  refine V0_iconst (pc := 1426) (1) dL_law_1426 (by decide) ?_
  refine V0_iadd (pc := 1427) dL_law_1427 ?_
  refine V_tald (pc := 1428) (n := L) (f := xs) (i + 1) dL_law_1428 rfl hL (show nI i + 1 = nI (i + 1) from qI_add i 1) (by omega) ?_
  refine V_callV (pc := 1429) (M' := mX11_count) dL_law_1429 mlL_182 okX11_count rfl (st_count (x := xs (i + 1)) h) rfl rfl rfl rfl ⟨Nat.le_of_ble_eq_true rfl, Nat.le_of_ble_eq_true rfl⟩ hc (Nat.le_of_ble_eq_true rfl) ?_
  intro r1 I1 J1 hh
  obtain ⟨x1, e1, c2⟩ := hh
  rw [e1]
  clear e1 r1
  refine V0_aload_n (pc := 1432) dL_law_1432 rfl ?_
  refine V0_taload_n (pc := 1433) dL_law_1433 rfl ?_
  refine V0_iload_n (pc := 1434) dL_law_1434 rfl ?_
  refine V0_iconst (pc := 1435) (1) dL_law_1435 (by decide) ?_
  refine V0_iadd (pc := 1436) dL_law_1436 ?_
  refine V_tald (pc := 1437) (n := L) (f := xs) (i + 1) dL_law_1437 rfl hL (show nI i + 1 = nI (i + 1) from qI_add i 1) (by omega) ?_
  refine V_callV (pc := 1438) (M' := mX12_count) dL_law_1438 mlL_185 okX12_count rfl c2 rfl rfl rfl rfl ⟨Nat.le_of_ble_eq_true rfl, Nat.le_of_ble_eq_true rfl⟩ hc (Nat.le_of_ble_eq_true rfl) ?_
  intro r2 I2 J2 hh
  obtain ⟨e2, h2⟩ := hh
  rw [e2]
  clear e2 r2
  refine V0_icmp_eq (pc := 1441) 1446 dL_law_1441 (by decide) (fun _ => ?_) (fun q => absurd rfl q)
  exact lw_nx (next _ _ h2)
theorem lc_all {v : Int32} (hL : L < 2 ^ 31) (hi : i + 6 ≤ L) (hc : kc ≤ room_1.cells ∧ ks ≤ room_1.slots) (h : r_ex I J) (next : ∀ I' J', r_ex I' J' → lw_V l L xs kc ks 18 (i + 6) [] I' J') : lw_V l L xs kc ks 33 i [.int v] I J := by
  by_cases s0 : v = 0
  · exact lc_person hL hi hc h s0 next
  by_cases s1 : v = 1
  · exact lc_joy hL hi hc h s1 next
  by_cases s2 : v = 2
  · exact lc_joys hL hi hc h s2 next
  by_cases s3 : v = 3
  · exact lc_mend hL hi hc h s3 next
  by_cases s4 : v = 4
  · exact lc_of hL hi hc h s4 next
  by_cases s5 : v = 5
  · exact lc_feed hL hi hc h s5 next
  by_cases s6 : v = 6
  · exact lc_law hL hi hc h s6 next
  by_cases s7 : v = 7
  · exact lc_smell hL hi hc h s7 next
  by_cases s8 : v = 8
  · exact lc_smelt hL hi hc h s8 next
  by_cases s9 : v = 9
  · exact lc_shut hL hi hc h s9 next
  by_cases s10 : v = 10
  · exact lc_lane hL hi hc h s10 next
  by_cases s11 : v = 11
  · exact lc_when hL hi hc h s11 next
  by_cases s12 : v = 12
  · exact lc_move hL hi hc h s12 next
  by_cases s13 : v = 13
  · exact lc_over hL hi hc h s13 next
  by_cases s14 : v = 14
  · exact lc_date hL hi hc h s14 next
  by_cases s15 : v = 15
  · exact lc_judge hL hi hc h s15 next
  by_cases s16 : v = 16
  · exact lc_fits hL hi hc h s16 next
  by_cases s17 : v = 17
  · exact lc_who hL hi hc h s17 next
  by_cases s18 : v = 18
  · exact lc_share hL hi hc h s18 next
  by_cases s19 : v = 19
  · exact lc_near hL hi hc h s19 next
  by_cases s20 : v = 20
  · exact lc_mates hL hi hc h s20 next
  by_cases s21 : v = 21
  · exact lc_byTurns hL hi hc h s21 next
  by_cases s22 : v = 22
  · exact lc_drawn hL hi hc h s22 next
  by_cases s23 : v = 23
  · exact lc_moves hL hi hc h s23 next
  by_cases s24 : v = 24
  · exact lc_day hL hi hc h s24 next
  by_cases s25 : v = 25
  · exact lc_inspect hL hi hc h s25 next
  by_cases s26 : v = 26
  · exact lc_led hL hi hc h s26 next
  by_cases s27 : v = 27
  · exact lc_image hL hi hc h s27 next
  by_cases s28 : v = 28
  · exact lc_back hL hi hc h s28 next
  by_cases s29 : v = 29
  · exact lc_undo hL hi hc h s29 next
  by_cases s30 : v = 30
  · exact lc_redo hL hi hc h s30 next
  by_cases s31 : v = 31
  · exact lc_body hL hi hc h s31 next
  by_cases s32 : v = 32
  · exact lc_act hL hi hc h s32 next
  by_cases s33 : v = 33
  · exact lc_trace hL hi hc h s33 next
  by_cases s34 : v = 34
  · exact lc_keep hL hi hc h s34 next
  by_cases s35 : v = 35
  · exact lc_row hL hi hc h s35 next
  by_cases s36 : v = 36
  · exact lc_put hL hi hc h s36 next
  by_cases s37 : v = 37
  · exact lc_element hL hi hc h s37 next
  by_cases s38 : v = 38
  · exact lc_shift hL hi hc h s38 next
  by_cases s39 : v = 39
  · exact lc_taken hL hi hc h s39 next
  by_cases s40 : v = 40
  · exact lc_count hL hi hc h s40 next
  refine V_tabOut (pc := 33) 1446 dL_law_33 (by have g0 := px_ne s0 (k := 0) (by decide); have g1 := px_ne s1 (k := 1) (by decide); have g2 := px_ne s2 (k := 2) (by decide); have g3 := px_ne s3 (k := 3) (by decide); have g4 := px_ne s4 (k := 4) (by decide); have g5 := px_ne s5 (k := 5) (by decide); have g6 := px_ne s6 (k := 6) (by decide); have g7 := px_ne s7 (k := 7) (by decide); have g8 := px_ne s8 (k := 8) (by decide); have g9 := px_ne s9 (k := 9) (by decide); have g10 := px_ne s10 (k := 10) (by decide); have g11 := px_ne s11 (k := 11) (by decide); have g12 := px_ne s12 (k := 12) (by decide); have g13 := px_ne s13 (k := 13) (by decide); have g14 := px_ne s14 (k := 14) (by decide); have g15 := px_ne s15 (k := 15) (by decide); have g16 := px_ne s16 (k := 16) (by decide); have g17 := px_ne s17 (k := 17) (by decide); have g18 := px_ne s18 (k := 18) (by decide); have g19 := px_ne s19 (k := 19) (by decide); have g20 := px_ne s20 (k := 20) (by decide); have g21 := px_ne s21 (k := 21) (by decide); have g22 := px_ne s22 (k := 22) (by decide); have g23 := px_ne s23 (k := 23) (by decide); have g24 := px_ne s24 (k := 24) (by decide); have g25 := px_ne s25 (k := 25) (by decide); have g26 := px_ne s26 (k := 26) (by decide); have g27 := px_ne s27 (k := 27) (by decide); have g28 := px_ne s28 (k := 28) (by decide); have g29 := px_ne s29 (k := 29) (by decide); have g30 := px_ne s30 (k := 30) (by decide); have g31 := px_ne s31 (k := 31) (by decide); have g32 := px_ne s32 (k := 32) (by decide); have g33 := px_ne s33 (k := 33) (by decide); have g34 := px_ne s34 (k := 34) (by decide); have g35 := px_ne s35 (k := 35) (by decide); have g36 := px_ne s36 (k := 36) (by decide); have g37 := px_ne s37 (k := 37) (by decide); have g38 := px_ne s38 (k := 38) (by decide); have g39 := px_ne s39 (k := 39) (by decide); have g40 := px_ne s40 (k := 40) (by decide); omega) (by decide) ?_
  exact lw_nx (next _ _ h)
theorem lw_head (hL : L ≤ 3072) (hi : i ≤ L + 6) (body : i + 6 ≤ L → lw_V l L xs kc ks 27 i [] I J) : lw_V l L xs kc ks 18 i [] I J := by
  have e6 : (nI L - 6).toInt = (L : Int) - 6 := by
    rw [Int32.toInt_sub, nI_toInt (by omega), show (6 : Int32).toInt = 6 from by decide]
    rw [Int.bmod_def]; split <;> omega
  have ei : (nI i).toInt = (i : Int) := nI_toInt (by omega)
  refine V0_iload_n (pc := 18) dL_law_18 rfl ?_
  refine V0_taload_n (pc := 19) dL_law_19 rfl ?_
  refine V0_talen (pc := 20) (n := L) (f := xs) dL_law_20 rfl ?_
  refine V0_bipush (pc := 21) (6) dL_law_21 (by decide) ?_
  refine V0_isub (pc := 23) dL_law_23 ?_
  refine V0_icmp_gt (pc := 24) 1452 dL_law_24 (by decide) (fun h24 => ?_) (fun h24 => ?_)
  · refine V0_iconst (pc := 1452) (1) dL_law_1452 (by decide) ?_
    exact V_retz (pc := 1453) 1 dL_law_1453 rfl (Or.inr rfl) rfl
  · refine body ?_
    have h24' : ¬ nI L - 6 < nI i := h24
    rw [Int32.lt_iff_toInt_lt, e6, ei] at h24'
    omega
theorem lw_body (hL : L ≤ 3072) (hi : i + 6 ≤ L) (hc : kc ≤ room_1.cells ∧ ks ≤ room_1.slots) (h : r_ex I J) (next : ∀ I' J', r_ex I' J' → lw_V l L xs kc ks 18 (i + 6) [] I' J') : lw_V l L xs kc ks 27 i [] I J := by
  refine V0_taload_n (pc := 27) dL_law_27 rfl ?_
  refine V0_iload_n (pc := 28) dL_law_28 rfl ?_
  refine V_tald (pc := 29) (n := L) (f := xs) i dL_law_29 rfl (by omega) rfl (by omega) ?_
  refine V0_bipush (pc := 30) (63) dL_law_30 (by decide) ?_
  refine V0_iand (pc := 32) dL_law_32 ?_
  exact lc_all (by omega) hi hc h next
end LC
theorem lw_loop {l : Launch} {L : Nat} {xs : Nat → Int32} {kc ks : Nat} (hL : L ≤ 3072) (hc : kc ≤ room_1.cells ∧ ks ≤ room_1.slots) : ∀ (n i : Nat) (I : px_I) (J : px_J), L + 1 ≤ i + n → i ≤ L + 6 → r_ex I J → lw_V l L xs kc ks 18 i [] I J := by
  intro n
  induction n with
  | zero =>
    intro i I J h1 h2 h
    exact lw_head hL h2 (fun q => absurd q (by omega))
  | succ n ih =>
    intro i I J h1 h2 h
    exact lw_head hL h2 (fun q => lw_body hL q hc h (fun I' J' h' => ih (i + 6) I' J' (by omega) (by omega) h'))

