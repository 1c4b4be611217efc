theorem lc_hand {g : gG} {d : Nat} {T : mT} {n : Nat} {I : mI} {J : mJ} {F : mF} {Q : mQ} {b x k i t N : Nat} {A : Ab} {xs : Nat → Int32} (hXs : va_X b N xs (gs g) (gs g).heap) (hbs : b < (gs g).heap.size) (hiN : i + 7 ≤ N) (hN : N ≤ 3584) (hLI : LI x A k T n I J F) (kk : ∀ (A' : Ab) (k' : Nat) (T' : mT) (n' : Nat) (I' : mI) (J' : mJ) (F' : mF), LI x A' k' T' n' I' J' F' → V g mL_law (d + 60) Q (3 * t) (420 * t + phi k') 1530 [some (.ref b), some (.ref x), some (.ref (x + 90)), some (.int (nI i))] [] T' n' I' J' F') : V g mL_law (d + 60) Q (3 * t + 3) (420 * t + 420 + phi k) 212 [some (.ref b), some (.ref x), some (.ref (x + 90)), some (.int (nI i))] [] T n I J F := by
  obtain ⟨hX, hR, hM, hRM, hA, hLK, hn⟩ := id hLI
  have hTx := hX.o
  refine V.aload_n (pc := 212) dL_law_212 rfl ?_
  refine V.aload_n (pc := 213) dL_law_213 rfl ?_
  refine V.iload_n (pc := 214) dL_law_214 rfl ?_
  refine V.iconst (v := 1) (pc := 215) dL_law_215 (by decide) ?_
  refine V.iadd (pc := 216) dL_law_216 ?_
  refine V.sld (k := i + 1) hXs hbs (pc := 217) dL_law_217 (by rw [show (1 : Int32) = nI 1 from rfl, nI_add]) (by omega) (by omega) ?_
  refine V.invV0 (as := [_]) (pc := 218) dL_law_218 lL_13 bX11_hand nX11_hand (ci := 10) rfl eX11_hand (by assumption) (y_hand (d := d + 55) _ hX hA hR) (by omega) rfl (Nat.le_of_ble_eq_true rfl) ?_
  rintro r1 T1 n1 I1 J1 F1 q1
  obtain ⟨rfl, L1⟩ := hLI.cls (q1.qs hLK)
  have hTm := L1.2.2.1.o
  refine V.aload_n (pc := 221) dL_law_221 rfl ?_
  refine V.aload_n (pc := 222) dL_law_222 rfl ?_
  refine V.iload_n (pc := 223) dL_law_223 rfl ?_
  refine V.iconst (v := 1) (pc := 224) dL_law_224 (by decide) ?_
  refine V.iadd (pc := 225) dL_law_225 ?_
  refine V.sld (k := i + 1) hXs hbs (pc := 226) dL_law_226 (by rw [show (1 : Int32) = nI 1 from rfl, nI_add]) (by omega) (by omega) ?_
  refine V.invV0 (as := [_]) (pc := 227) dL_law_227 lL_17 bX12_hand nX12_hand (ci := 11) rfl eX12_hand (by assumption) (p_hand (d := d + 56) _ L1.2.2.1 L1.2.2.2.2.1 L1.2.2.2.1) (by omega) rfl (Nat.le_of_ble_eq_true rfl) ?_
  rintro r2 T2 n2 I2 J2 F2 q2
  obtain ⟨rfl, L2⟩ := L1.ref (ab_hand hA) q2
  refine V.icmp_eq 1530 (pc := 230) dL_law_230 (by decide) (fun h230 => ?_) (fun h230 => absurd rfl h230)
  refine V.room (bc := 3 * t) (bs := 420 * t + phi k) (by omega) (by omega) ?_
  exact kk _ k _ _ _ _ _ L2
theorem lc_put {g : gG} {d : Nat} {T : mT} {n : Nat} {I : mI} {J : mJ} {F : mF} {Q : mQ} {b x k i t N : Nat} {A : Ab} {xs : Nat → Int32} (hXs : va_X b N xs (gs g) (gs g).heap) (hbs : b < (gs g).heap.size) (hiN : i + 7 ≤ N) (hN : N ≤ 3584) (hLI : LI x A k T n I J F) (kk : ∀ (A' : Ab) (k' : Nat) (T' : mT) (n' : Nat) (I' : mI) (J' : mJ) (F' : mF), LI x A' k' T' n' I' J' F' → V g mL_law (d + 60) Q (3 * t) (420 * t + phi k') 1530 [some (.ref b), some (.ref x), some (.ref (x + 90)), some (.int (nI i))] [] T' n' I' J' F') : V g mL_law (d + 60) Q (3 * t + 3) (420 * t + 420 + phi k) 235 [some (.ref b), some (.ref x), some (.ref (x + 90)), some (.int (nI i))] [] T n I J F := by
  obtain ⟨hX, hR, hM, hRM, hA, hLK, hn⟩ := id hLI
  have hTx := hX.o
  refine V.aload_n (pc := 235) dL_law_235 rfl ?_
  refine V.aload_n (pc := 236) dL_law_236 rfl ?_
  refine V.iload_n (pc := 237) dL_law_237 rfl ?_
  refine V.iconst (v := 1) (pc := 238) dL_law_238 (by decide) ?_
  refine V.iadd (pc := 239) dL_law_239 ?_
  refine V.sld (k := i + 1) hXs hbs (pc := 240) dL_law_240 (by rw [show (1 : Int32) = nI 1 from rfl, nI_add]) (by omega) (by omega) ?_
  refine V.aload_n (pc := 241) dL_law_241 rfl ?_
  refine V.iload_n (pc := 242) dL_law_242 rfl ?_
  refine V.iconst (v := 2) (pc := 243) dL_law_243 (by decide) ?_
  refine V.iadd (pc := 244) dL_law_244 ?_
  refine V.sld (k := i + 2) hXs hbs (pc := 245) dL_law_245 (by rw [show (2 : Int32) = nI 2 from rfl, nI_add]) (by omega) (by omega) ?_
  refine V.aload_n (pc := 246) dL_law_246 rfl ?_
  refine V.iload_n (pc := 247) dL_law_247 rfl ?_
  refine V.iconst (v := 3) (pc := 248) dL_law_248 (by decide) ?_
  refine V.iadd (pc := 249) dL_law_249 ?_
  refine V.sld (k := i + 3) hXs hbs (pc := 250) dL_law_250 (by rw [show (3 : Int32) = nI 3 from rfl, nI_add]) (by omega) (by omega) ?_
  refine V.invV0 (as := [_, _, _]) (pc := 251) dL_law_251 lL_18 bX11_put nX11_put (ci := 10) rfl eX11_put (by assumption) (y_put (d := d + 55) _ _ _ hX hA hR) (by omega) rfl (Nat.le_of_ble_eq_true rfl) ?_
  rintro r1 T1 n1 I1 J1 F1 q1
  obtain ⟨rfl, L1⟩ := hLI.cls (q1.qs hLK)
  have hTm := L1.2.2.1.o
  refine V.aload_n (pc := 254) dL_law_254 rfl ?_
  refine V.aload_n (pc := 255) dL_law_255 rfl ?_
  refine V.iload_n (pc := 256) dL_law_256 rfl ?_
  refine V.iconst (v := 1) (pc := 257) dL_law_257 (by decide) ?_
  refine V.iadd (pc := 258) dL_law_258 ?_
  refine V.sld (k := i + 1) hXs hbs (pc := 259) dL_law_259 (by rw [show (1 : Int32) = nI 1 from rfl, nI_add]) (by omega) (by omega) ?_
  refine V.aload_n (pc := 260) dL_law_260 rfl ?_
  refine V.iload_n (pc := 261) dL_law_261 rfl ?_
  refine V.iconst (v := 2) (pc := 262) dL_law_262 (by decide) ?_
  refine V.iadd (pc := 263) dL_law_263 ?_
  refine V.sld (k := i + 2) hXs hbs (pc := 264) dL_law_264 (by rw [show (2 : Int32) = nI 2 from rfl, nI_add]) (by omega) (by omega) ?_
  refine V.aload_n (pc := 265) dL_law_265 rfl ?_
  refine V.iload_n (pc := 266) dL_law_266 rfl ?_
  refine V.iconst (v := 3) (pc := 267) dL_law_267 (by decide) ?_
  refine V.iadd (pc := 268) dL_law_268 ?_
  refine V.sld (k := i + 3) hXs hbs (pc := 269) dL_law_269 (by rw [show (3 : Int32) = nI 3 from rfl, nI_add]) (by omega) (by omega) ?_
  refine V.invV0 (as := [_, _, _]) (pc := 270) dL_law_270 lL_22 bX12_put nX12_put (ci := 11) rfl eX12_put (by assumption) (p_put (d := d + 56) _ _ _ L1.2.2.1 L1.2.2.2.2.1 L1.2.2.2.1) (by omega) rfl (Nat.le_of_ble_eq_true rfl) ?_
  rintro r2 T2 n2 I2 J2 F2 q2
  obtain ⟨rfl, L2⟩ := L1.ref (ab_put hA) q2
  refine V.icmp_eq 1530 (pc := 273) dL_law_273 (by decide) (fun h273 => ?_) (fun h273 => absurd rfl h273)
  refine V.room (bc := 3 * t) (bs := 420 * t + phi k) (by omega) (by omega) ?_
  exact kk _ k _ _ _ _ _ L2
theorem lc_pair {g : gG} {d : Nat} {T : mT} {n : Nat} {I : mI} {J : mJ} {F : mF} {Q : mQ} {b x k i t N : Nat} {A : Ab} {xs : Nat → Int32} (hXs : va_X b N xs (gs g) (gs g).heap) (hbs : b < (gs g).heap.size) (hiN : i + 7 ≤ N) (hN : N ≤ 3584) (hLI : LI x A k T n I J F) (kk : ∀ (A' : Ab) (k' : Nat) (T' : mT) (n' : Nat) (I' : mI) (J' : mJ) (F' : mF), LI x A' k' T' n' I' J' F' → V g mL_law (d + 60) Q (3 * t) (420 * t + phi k') 1530 [some (.ref b), some (.ref x), some (.ref (x + 90)), some (.int (nI i))] [] T' n' I' J' F') : V g mL_law (d + 60) Q (3 * t + 3) (420 * t + 420 + phi k) 278 [some (.ref b), some (.ref x), some (.ref (x + 90)), some (.int (nI i))] [] T n I J F := by
  obtain ⟨hX, hR, hM, hRM, hA, hLK, hn⟩ := id hLI
  have hTx := hX.o
  refine V.aload_n (pc := 278) dL_law_278 rfl ?_
  refine V.aload_n (pc := 279) dL_law_279 rfl ?_
  refine V.iload_n (pc := 280) dL_law_280 rfl ?_
  refine V.iconst (v := 1) (pc := 281) dL_law_281 (by decide) ?_
  refine V.iadd (pc := 282) dL_law_282 ?_
  refine V.sld (k := i + 1) hXs hbs (pc := 283) dL_law_283 (by rw [show (1 : Int32) = nI 1 from rfl, nI_add]) (by omega) (by omega) ?_
  refine V.aload_n (pc := 284) dL_law_284 rfl ?_
  refine V.iload_n (pc := 285) dL_law_285 rfl ?_
  refine V.iconst (v := 2) (pc := 286) dL_law_286 (by decide) ?_
  refine V.iadd (pc := 287) dL_law_287 ?_
  refine V.sld (k := i + 2) hXs hbs (pc := 288) dL_law_288 (by rw [show (2 : Int32) = nI 2 from rfl, nI_add]) (by omega) (by omega) ?_
  refine V.aload_n (pc := 289) dL_law_289 rfl ?_
  refine V.iload_n (pc := 290) dL_law_290 rfl ?_
  refine V.iconst (v := 3) (pc := 291) dL_law_291 (by decide) ?_
  refine V.iadd (pc := 292) dL_law_292 ?_
  refine V.sld (k := i + 3) hXs hbs (pc := 293) dL_law_293 (by rw [show (3 : Int32) = nI 3 from rfl, nI_add]) (by omega) (by omega) ?_
  refine V.invV0 (as := [_, _, _]) (pc := 294) dL_law_294 lL_23 bX11_pair nX11_pair (ci := 10) rfl eX11_pair (by assumption) (y_pair (d := d + 55) _ _ _ hX hA hR) (by omega) rfl (Nat.le_of_ble_eq_true rfl) ?_
  rintro r1 T1 n1 I1 J1 F1 q1
  obtain ⟨rfl, L1⟩ := hLI.cls (q1.qs hLK)
  have hTm := L1.2.2.1.o
  refine V.aload_n (pc := 297) dL_law_297 rfl ?_
  refine V.aload_n (pc := 298) dL_law_298 rfl ?_
  refine V.iload_n (pc := 299) dL_law_299 rfl ?_
  refine V.iconst (v := 1) (pc := 300) dL_law_300 (by decide) ?_
  refine V.iadd (pc := 301) dL_law_301 ?_
  refine V.sld (k := i + 1) hXs hbs (pc := 302) dL_law_302 (by rw [show (1 : Int32) = nI 1 from rfl, nI_add]) (by omega) (by omega) ?_
  refine V.aload_n (pc := 303) dL_law_303 rfl ?_
  refine V.iload_n (pc := 304) dL_law_304 rfl ?_
  refine V.iconst (v := 2) (pc := 305) dL_law_305 (by decide) ?_
  refine V.iadd (pc := 306) dL_law_306 ?_
  refine V.sld (k := i + 2) hXs hbs (pc := 307) dL_law_307 (by rw [show (2 : Int32) = nI 2 from rfl, nI_add]) (by omega) (by omega) ?_
  refine V.aload_n (pc := 308) dL_law_308 rfl ?_
  refine V.iload_n (pc := 309) dL_law_309 rfl ?_
  refine V.iconst (v := 3) (pc := 310) dL_law_310 (by decide) ?_
  refine V.iadd (pc := 311) dL_law_311 ?_
  refine V.sld (k := i + 3) hXs hbs (pc := 312) dL_law_312 (by rw [show (3 : Int32) = nI 3 from rfl, nI_add]) (by omega) (by omega) ?_
  refine V.invV0 (as := [_, _, _]) (pc := 313) dL_law_313 lL_26 bX12_pair nX12_pair (ci := 11) rfl eX12_pair (by assumption) (p_pair (d := d + 56) _ _ _ L1.2.2.1 L1.2.2.2.2.1 L1.2.2.2.1) (by omega) rfl (Nat.le_of_ble_eq_true rfl) ?_
  rintro r2 T2 n2 I2 J2 F2 q2
  obtain ⟨rfl, L2⟩ := L1.ref (ab_pair hA) q2
  refine V.icmp_eq 1530 (pc := 316) dL_law_316 (by decide) (fun h316 => ?_) (fun h316 => absurd rfl h316)
  refine V.room (bc := 3 * t) (bs := 420 * t + phi k) (by omega) (by omega) ?_
  exact kk _ k _ _ _ _ _ L2
theorem lc_strip {g : gG} {d : Nat} {T : mT} {n : Nat} {I : mI} {J : mJ} {F : mF} {Q : mQ} {b x k i t N : Nat} {A : Ab} {xs : Nat → Int32} (hXs : va_X b N xs (gs g) (gs g).heap) (hbs : b < (gs g).heap.size) (hiN : i + 7 ≤ N) (hN : N ≤ 3584) (hLI : LI x A k T n I J F) (kk : ∀ (A' : Ab) (k' : Nat) (T' : mT) (n' : Nat) (I' : mI) (J' : mJ) (F' : mF), LI x A' k' T' n' I' J' F' → V g mL_law (d + 60) Q (3 * t) (420 * t + phi k') 1530 [some (.ref b), some (.ref x), some (.ref (x + 90)), some (.int (nI i))] [] T' n' I' J' F') : V g mL_law (d + 60) Q (3 * t + 3) (420 * t + 420 + phi k) 321 [some (.ref b), some (.ref x), some (.ref (x + 90)), some (.int (nI i))] [] T n I J F := by
  obtain ⟨hX, hR, hM, hRM, hA, hLK, hn⟩ := id hLI
  have hTx := hX.o
  refine V.aload_n (pc := 321) dL_law_321 rfl ?_
  refine V.aload_n (pc := 322) dL_law_322 rfl ?_
  refine V.iload_n (pc := 323) dL_law_323 rfl ?_
  refine V.iconst (v := 1) (pc := 324) dL_law_324 (by decide) ?_
  refine V.iadd (pc := 325) dL_law_325 ?_
  refine V.sld (k := i + 1) hXs hbs (pc := 326) dL_law_326 (by rw [show (1 : Int32) = nI 1 from rfl, nI_add]) (by omega) (by omega) ?_
  refine V.invV0 (as := [_]) (pc := 327) dL_law_327 lL_27 bX11_strip nX11_strip (ci := 10) rfl eX11_strip (by assumption) (y_strip (d := d + 55) _ hX hA hR) (by omega) rfl (Nat.le_of_ble_eq_true rfl) ?_
  rintro r1 T1 n1 I1 J1 F1 q1
  obtain ⟨rfl, L1⟩ := hLI.cls (q1.qs hLK)
  have hTm := L1.2.2.1.o
  refine V.aload_n (pc := 330) dL_law_330 rfl ?_
  refine V.aload_n (pc := 331) dL_law_331 rfl ?_
  refine V.iload_n (pc := 332) dL_law_332 rfl ?_
  refine V.iconst (v := 1) (pc := 333) dL_law_333 (by decide) ?_
  refine V.iadd (pc := 334) dL_law_334 ?_
  refine V.sld (k := i + 1) hXs hbs (pc := 335) dL_law_335 (by rw [show (1 : Int32) = nI 1 from rfl, nI_add]) (by omega) (by omega) ?_
  refine V.invV0 (as := [_]) (pc := 336) dL_law_336 lL_30 bX12_strip nX12_strip (ci := 11) rfl eX12_strip (by assumption) (p_strip (d := d + 56) _ L1.2.2.1 L1.2.2.2.2.1 L1.2.2.2.1) (by omega) rfl (Nat.le_of_ble_eq_true rfl) ?_
  rintro r2 T2 n2 I2 J2 F2 q2
  obtain ⟨rfl, L2⟩ := L1.ref (ab_strip hA) q2
  refine V.icmp_eq 1530 (pc := 339) dL_law_339 (by decide) (fun h339 => ?_) (fun h339 => absurd rfl h339)
  refine V.room (bc := 3 * t) (bs := 420 * t + phi k) (by omega) (by omega) ?_
  exact kk _ k _ _ _ _ _ L2
theorem lc_of {g : gG} {d : Nat} {T : mT} {n : Nat} {I : mI} {J : mJ} {F : mF} {Q : mQ} {b x k i t N : Nat} {A : Ab} {xs : Nat → Int32} (hXs : va_X b N xs (gs g) (gs g).heap) (hbs : b < (gs g).heap.size) (hiN : i + 7 ≤ N) (hN : N ≤ 3584) (hLI : LI x A k T n I J F) (kk : ∀ (A' : Ab) (k' : Nat) (T' : mT) (n' : Nat) (I' : mI) (J' : mJ) (F' : mF), LI x A' k' T' n' I' J' F' → V g mL_law (d + 60) Q (3 * t) (420 * t + phi k') 1530 [some (.ref b), some (.ref x), some (.ref (x + 90)), some (.int (nI i))] [] T' n' I' J' F') : V g mL_law (d + 60) Q (3 * t + 3) (420 * t + 420 + phi k) 344 [some (.ref b), some (.ref x), some (.ref (x + 90)), some (.int (nI i))] [] T n I J F := by
  obtain ⟨hX, hR, hM, hRM, hA, hLK, hn⟩ := id hLI
  have hTx := hX.o
  refine V.aload_n (pc := 344) dL_law_344 rfl ?_
  refine V.aload_n (pc := 345) dL_law_345 rfl ?_
  refine V.iload_n (pc := 346) dL_law_346 rfl ?_
  refine V.iconst (v := 1) (pc := 347) dL_law_347 (by decide) ?_
  refine V.iadd (pc := 348) dL_law_348 ?_
  refine V.sld (k := i + 1) hXs hbs (pc := 349) dL_law_349 (by rw [show (1 : Int32) = nI 1 from rfl, nI_add]) (by omega) (by omega) ?_
  refine V.aload_n (pc := 350) dL_law_350 rfl ?_
  refine V.iload_n (pc := 351) dL_law_351 rfl ?_
  refine V.iconst (v := 2) (pc := 352) dL_law_352 (by decide) ?_
  refine V.iadd (pc := 353) dL_law_353 ?_
  refine V.sld (k := i + 2) hXs hbs (pc := 354) dL_law_354 (by rw [show (2 : Int32) = nI 2 from rfl, nI_add]) (by omega) (by omega) ?_
  refine V.invV0 (as := [_, _]) (pc := 355) dL_law_355 lL_31 bX11_of nX11_of (ci := 10) rfl eX11_of (by assumption) (y_of (d := d + 55) _ _ hX hA hR) (by omega) rfl (Nat.le_of_ble_eq_true rfl) ?_
  rintro r1 T1 n1 I1 J1 F1 q1
  obtain ⟨rfl, L1⟩ := hLI.cls (q1.qs hLK)
  have hTm := L1.2.2.1.o
  refine V.aload_n (pc := 358) dL_law_358 rfl ?_
  refine V.aload_n (pc := 359) dL_law_359 rfl ?_
  refine V.iload_n (pc := 360) dL_law_360 rfl ?_
  refine V.iconst (v := 1) (pc := 361) dL_law_361 (by decide) ?_
  refine V.iadd (pc := 362) dL_law_362 ?_
  refine V.sld (k := i + 1) hXs hbs (pc := 363) dL_law_363 (by rw [show (1 : Int32) = nI 1 from rfl, nI_add]) (by omega) (by omega) ?_
  refine V.aload_n (pc := 364) dL_law_364 rfl ?_
  refine V.iload_n (pc := 365) dL_law_365 rfl ?_
  refine V.iconst (v := 2) (pc := 366) dL_law_366 (by decide) ?_
  refine V.iadd (pc := 367) dL_law_367 ?_
  refine V.sld (k := i + 2) hXs hbs (pc := 368) dL_law_368 (by rw [show (2 : Int32) = nI 2 from rfl, nI_add]) (by omega) (by omega) ?_
  refine V.invV0 (as := [_, _]) (pc := 369) dL_law_369 lL_35 bX12_of nX12_of (ci := 11) rfl eX12_of (by assumption) (p_of (d := d + 56) _ _ L1.2.2.1 L1.2.2.2.2.1 L1.2.2.2.1) (by omega) rfl (Nat.le_of_ble_eq_true rfl) ?_
  rintro r2 T2 n2 I2 J2 F2 q2
  obtain ⟨rfl, L2⟩ := L1.ref hA q2
  refine V.icmp_eq 1530 (pc := 372) dL_law_372 (by decide) (fun h372 => ?_) (fun h372 => absurd rfl h372)
  refine V.room (bc := 3 * t) (bs := 420 * t + phi k) (by omega) (by omega) ?_
  exact kk _ k _ _ _ _ _ L2
theorem lc_wheel {g : gG} {d : Nat} {T : mT} {n : Nat} {I : mI} {J : mJ} {F : mF} {Q : mQ} {b x k i t N : Nat} {A : Ab} {xs : Nat → Int32} (hXs : va_X b N xs (gs g) (gs g).heap) (hbs : b < (gs g).heap.size) (hiN : i + 7 ≤ N) (hN : N ≤ 3584) (hLI : LI x A k T n I J F) (kk : ∀ (A' : Ab) (k' : Nat) (T' : mT) (n' : Nat) (I' : mI) (J' : mJ) (F' : mF), LI x A' k' T' n' I' J' F' → V g mL_law (d + 60) Q (3 * t) (420 * t + phi k') 1530 [some (.ref b), some (.ref x), some (.ref (x + 90)), some (.int (nI i))] [] T' n' I' J' F') : V g mL_law (d + 60) Q (3 * t + 3) (420 * t + 420 + phi k) 377 [some (.ref b), some (.ref x), some (.ref (x + 90)), some (.int (nI i))] [] T n I J F := by
  obtain ⟨hX, hR, hM, hRM, hA, hLK, hn⟩ := id hLI
  have hTx := hX.o
  refine V.aload_n (pc := 377) dL_law_377 rfl ?_
  refine V.aload_n (pc := 378) dL_law_378 rfl ?_
  refine V.iload_n (pc := 379) dL_law_379 rfl ?_
  refine V.iconst (v := 1) (pc := 380) dL_law_380 (by decide) ?_
  refine V.iadd (pc := 381) dL_law_381 ?_
  refine V.sld (k := i + 1) hXs hbs (pc := 382) dL_law_382 (by rw [show (1 : Int32) = nI 1 from rfl, nI_add]) (by omega) (by omega) ?_
  refine V.invV0 (as := [_]) (pc := 383) dL_law_383 lL_36 bX11_wheel nX11_wheel (ci := 10) rfl eX11_wheel (by assumption) (y_wheel (d := d + 55) _ hX hA hR) (by omega) rfl (Nat.le_of_ble_eq_true rfl) ?_
  rintro r1 T1 n1 I1 J1 F1 q1
  obtain ⟨rfl, L1⟩ := hLI.cls (q1.qs hLK)
  have hTm := L1.2.2.1.o
  refine V.aload_n (pc := 386) dL_law_386 rfl ?_
  refine V.aload_n (pc := 387) dL_law_387 rfl ?_
  refine V.iload_n (pc := 388) dL_law_388 rfl ?_
  refine V.iconst (v := 1) (pc := 389) dL_law_389 (by decide) ?_
  refine V.iadd (pc := 390) dL_law_390 ?_
  refine V.sld (k := i + 1) hXs hbs (pc := 391) dL_law_391 (by rw [show (1 : Int32) = nI 1 from rfl, nI_add]) (by omega) (by omega) ?_
  refine V.invV0 (as := [_]) (pc := 392) dL_law_392 lL_39 bX12_wheel nX12_wheel (ci := 11) rfl eX12_wheel (by assumption) (p_wheel (d := d + 56) _ L1.2.2.1 L1.2.2.2.2.1 L1.2.2.2.1) (by omega) rfl (Nat.le_of_ble_eq_true rfl) ?_
  rintro r2 T2 n2 I2 J2 F2 q2
  obtain ⟨rfl, L2⟩ := L1.ref (ab_wheel hA) q2
  refine V.icmp_eq 1530 (pc := 395) dL_law_395 (by decide) (fun h395 => ?_) (fun h395 => absurd rfl h395)
  refine V.room (bc := 3 * t) (bs := 420 * t + phi k) (by omega) (by omega) ?_
  exact kk _ k _ _ _ _ _ L2
theorem lc_drop {g : gG} {d : Nat} {T : mT} {n : Nat} {I : mI} {J : mJ} {F : mF} {Q : mQ} {b x k i t N : Nat} {A : Ab} {xs : Nat → Int32} (hXs : va_X b N xs (gs g) (gs g).heap) (hbs : b < (gs g).heap.size) (hiN : i + 7 ≤ N) (hN : N ≤ 3584) (hLI : LI x A k T n I J F) (kk : ∀ (A' : Ab) (k' : Nat) (T' : mT) (n' : Nat) (I' : mI) (J' : mJ) (F' : mF), LI x A' k' T' n' I' J' F' → V g mL_law (d + 60) Q (3 * t) (420 * t + phi k') 1530 [some (.ref b), some (.ref x), some (.ref (x + 90)), some (.int (nI i))] [] T' n' I' J' F') : V g mL_law (d + 60) Q (3 * t + 3) (420 * t + 420 + phi k) 400 [some (.ref b), some (.ref x), some (.ref (x + 90)), some (.int (nI i))] [] T n I J F := by
  obtain ⟨hX, hR, hM, hRM, hA, hLK, hn⟩ := id hLI
  have hTx := hX.o
  refine V.aload_n (pc := 400) dL_law_400 rfl ?_
  refine V.aload_n (pc := 401) dL_law_401 rfl ?_
  refine V.iload_n (pc := 402) dL_law_402 rfl ?_
  refine V.iconst (v := 1) (pc := 403) dL_law_403 (by decide) ?_
  refine V.iadd (pc := 404) dL_law_404 ?_
  refine V.sld (k := i + 1) hXs hbs (pc := 405) dL_law_405 (by rw [show (1 : Int32) = nI 1 from rfl, nI_add]) (by omega) (by omega) ?_
  refine V.invV0 (as := [_]) (pc := 406) dL_law_406 lL_40 bX11_drop nX11_drop (ci := 10) rfl eX11_drop (by assumption) (y_drop (d := d + 55) _ hX hA hR) (by omega) rfl (Nat.le_of_ble_eq_true rfl) ?_
  rintro r1 T1 n1 I1 J1 F1 q1
  obtain ⟨rfl, L1⟩ := hLI.cls (q1.qs hLK)
  have hTm := L1.2.2.1.o
  refine V.aload_n (pc := 409) dL_law_409 rfl ?_
  refine V.aload_n (pc := 410) dL_law_410 rfl ?_
  refine V.iload_n (pc := 411) dL_law_411 rfl ?_
  refine V.iconst (v := 1) (pc := 412) dL_law_412 (by decide) ?_
  refine V.iadd (pc := 413) dL_law_413 ?_
  refine V.sld (k := i + 1) hXs hbs (pc := 414) dL_law_414 (by rw [show (1 : Int32) = nI 1 from rfl, nI_add]) (by omega) (by omega) ?_
  refine V.invV0 (as := [_]) (pc := 415) dL_law_415 lL_43 bX12_drop nX12_drop (ci := 11) rfl eX12_drop (by assumption) (p_drop (d := d + 56) _ L1.2.2.1 L1.2.2.2.2.1 L1.2.2.2.1) (by omega) rfl (Nat.le_of_ble_eq_true rfl) ?_
  rintro r2 T2 n2 I2 J2 F2 q2
  obtain ⟨rfl, L2⟩ := L1.ref (ab_drop hA) q2
  refine V.icmp_eq 1530 (pc := 418) dL_law_418 (by decide) (fun h418 => ?_) (fun h418 => absurd rfl h418)
  refine V.room (bc := 3 * t) (bs := 420 * t + phi k) (by omega) (by omega) ?_
  exact kk _ k _ _ _ _ _ L2
theorem lc_teeth {g : gG} {d : Nat} {T : mT} {n : Nat} {I : mI} {J : mJ} {F : mF} {Q : mQ} {b x k i t N : Nat} {A : Ab} {xs : Nat → Int32} (hXs : va_X b N xs (gs g) (gs g).heap) (hbs : b < (gs g).heap.size) (hiN : i + 7 ≤ N) (hN : N ≤ 3584) (hLI : LI x A k T n I J F) (kk : ∀ (A' : Ab) (k' : Nat) (T' : mT) (n' : Nat) (I' : mI) (J' : mJ) (F' : mF), LI x A' k' T' n' I' J' F' → V g mL_law (d + 60) Q (3 * t) (420 * t + phi k') 1530 [some (.ref b), some (.ref x), some (.ref (x + 90)), some (.int (nI i))] [] T' n' I' J' F') : V g mL_law (d + 60) Q (3 * t + 3) (420 * t + 420 + phi k) 423 [some (.ref b), some (.ref x), some (.ref (x + 90)), some (.int (nI i))] [] T n I J F := by
  obtain ⟨hX, hR, hM, hRM, hA, hLK, hn⟩ := id hLI
  have hTx := hX.o
  refine V.aload_n (pc := 423) dL_law_423 rfl ?_
  refine V.aload_n (pc := 424) dL_law_424 rfl ?_
  refine V.iload_n (pc := 425) dL_law_425 rfl ?_
  refine V.iconst (v := 1) (pc := 426) dL_law_426 (by decide) ?_
  refine V.iadd (pc := 427) dL_law_427 ?_
  refine V.sld (k := i + 1) hXs hbs (pc := 428) dL_law_428 (by rw [show (1 : Int32) = nI 1 from rfl, nI_add]) (by omega) (by omega) ?_
  refine V.invV0 (as := [_]) (pc := 429) dL_law_429 lL_44 bX11_teeth nX11_teeth (ci := 10) rfl eX11_teeth (by assumption) (y_teeth (d := d + 55) _ hX hA hR) (by omega) rfl (Nat.le_of_ble_eq_true rfl) ?_
  rintro r1 T1 n1 I1 J1 F1 q1
  obtain ⟨rfl, L1⟩ := hLI.cls (q1.qs hLK)
  have hTm := L1.2.2.1.o
  refine V.aload_n (pc := 432) dL_law_432 rfl ?_
  refine V.aload_n (pc := 433) dL_law_433 rfl ?_
  refine V.iload_n (pc := 434) dL_law_434 rfl ?_
  refine V.iconst (v := 1) (pc := 435) dL_law_435 (by decide) ?_
  refine V.iadd (pc := 436) dL_law_436 ?_
  refine V.sld (k := i + 1) hXs hbs (pc := 437) dL_law_437 (by rw [show (1 : Int32) = nI 1 from rfl, nI_add]) (by omega) (by omega) ?_
  refine V.invV0 (as := [_]) (pc := 438) dL_law_438 lL_47 bX12_teeth nX12_teeth (ci := 11) rfl eX12_teeth (by assumption) (p_teeth (d := d + 56) _ L1.2.2.1 L1.2.2.2.2.1 L1.2.2.2.1) (by omega) rfl (Nat.le_of_ble_eq_true rfl) ?_
  rintro r2 T2 n2 I2 J2 F2 q2
  obtain ⟨rfl, L2⟩ := L1.ref hA q2
  refine V.icmp_eq 1530 (pc := 441) dL_law_441 (by decide) (fun h441 => ?_) (fun h441 => absurd rfl h441)
  refine V.room (bc := 3 * t) (bs := 420 * t + phi k) (by omega) (by omega) ?_
  exact kk _ k _ _ _ _ _ L2
theorem lc_terms {g : gG} {d : Nat} {T : mT} {n : Nat} {I : mI} {J : mJ} {F : mF} {Q : mQ} {b x k i t N : Nat} {A : Ab} {xs : Nat → Int32} (hXs : va_X b N xs (gs g) (gs g).heap) (hbs : b < (gs g).heap.size) (hiN : i + 7 ≤ N) (hN : N ≤ 3584) (hLI : LI x A k T n I J F) (kk : ∀ (A' : Ab) (k' : Nat) (T' : mT) (n' : Nat) (I' : mI) (J' : mJ) (F' : mF), LI x A' k' T' n' I' J' F' → V g mL_law (d + 60) Q (3 * t) (420 * t + phi k') 1530 [some (.ref b), some (.ref x), some (.ref (x + 90)), some (.int (nI i))] [] T' n' I' J' F') : V g mL_law (d + 60) Q (3 * t + 3) (420 * t + 420 + phi k) 446 [some (.ref b), some (.ref x), some (.ref (x + 90)), some (.int (nI i))] [] T n I J F := by
  obtain ⟨hX, hR, hM, hRM, hA, hLK, hn⟩ := id hLI
  have hTx := hX.o
  refine V.aload_n (pc := 446) dL_law_446 rfl ?_
  refine V.aload_n (pc := 447) dL_law_447 rfl ?_
  refine V.iload_n (pc := 448) dL_law_448 rfl ?_
  refine V.iconst (v := 1) (pc := 449) dL_law_449 (by decide) ?_
  refine V.iadd (pc := 450) dL_law_450 ?_
  refine V.sld (k := i + 1) hXs hbs (pc := 451) dL_law_451 (by rw [show (1 : Int32) = nI 1 from rfl, nI_add]) (by omega) (by omega) ?_
  refine V.aload_n (pc := 452) dL_law_452 rfl ?_
  refine V.iload_n (pc := 453) dL_law_453 rfl ?_
  refine V.iconst (v := 2) (pc := 454) dL_law_454 (by decide) ?_
  refine V.iadd (pc := 455) dL_law_455 ?_
  refine V.sld (k := i + 2) hXs hbs (pc := 456) dL_law_456 (by rw [show (2 : Int32) = nI 2 from rfl, nI_add]) (by omega) (by omega) ?_
  refine V.invV0 (as := [_, _]) (pc := 457) dL_law_457 lL_48 bX11_terms nX11_terms (ci := 10) rfl eX11_terms (by assumption) (y_terms (d := d + 55) _ _ hX hA hR) (by omega) rfl (Nat.le_of_ble_eq_true rfl) ?_
  rintro r1 T1 n1 I1 J1 F1 q1
  obtain ⟨rfl, L1⟩ := hLI.cls (q1.qs hLK)
  have hTm := L1.2.2.1.o
  refine V.aload_n (pc := 460) dL_law_460 rfl ?_
  refine V.aload_n (pc := 461) dL_law_461 rfl ?_
  refine V.iload_n (pc := 462) dL_law_462 rfl ?_
  refine V.iconst (v := 1) (pc := 463) dL_law_463 (by decide) ?_
  refine V.iadd (pc := 464) dL_law_464 ?_
  refine V.sld (k := i + 1) hXs hbs (pc := 465) dL_law_465 (by rw [show (1 : Int32) = nI 1 from rfl, nI_add]) (by omega) (by omega) ?_
  refine V.aload_n (pc := 466) dL_law_466 rfl ?_
  refine V.iload_n (pc := 467) dL_law_467 rfl ?_
  refine V.iconst (v := 2) (pc := 468) dL_law_468 (by decide) ?_
  refine V.iadd (pc := 469) dL_law_469 ?_
  refine V.sld (k := i + 2) hXs hbs (pc := 470) dL_law_470 (by rw [show (2 : Int32) = nI 2 from rfl, nI_add]) (by omega) (by omega) ?_
  refine V.invV0 (as := [_, _]) (pc := 471) dL_law_471 lL_51 bX12_terms nX12_terms (ci := 11) rfl eX12_terms (by assumption) (p_terms (d := d + 56) _ _ L1.2.2.1 L1.2.2.2.2.1 L1.2.2.2.1) (by omega) rfl (Nat.le_of_ble_eq_true rfl) ?_
  rintro r2 T2 n2 I2 J2 F2 q2
  obtain ⟨rfl, L2⟩ := L1.ref (ab_terms hA) q2
  refine V.icmp_eq 1530 (pc := 474) dL_law_474 (by decide) (fun h474 => ?_) (fun h474 => absurd rfl h474)
  refine V.room (bc := 3 * t) (bs := 420 * t + phi k) (by omega) (by omega) ?_
  exact kk _ k _ _ _ _ _ L2
theorem lc_feed {g : gG} {d : Nat} {T : mT} {n : Nat} {I : mI} {J : mJ} {F : mF} {Q : mQ} {b x k i t N : Nat} {A : Ab} {xs : Nat → Int32} (hXs : va_X b N xs (gs g) (gs g).heap) (hbs : b < (gs g).heap.size) (hiN : i + 7 ≤ N) (hN : N ≤ 3584) (hLI : LI x A k T n I J F) (kk : ∀ (A' : Ab) (k' : Nat) (T' : mT) (n' : Nat) (I' : mI) (J' : mJ) (F' : mF), LI x A' k' T' n' I' J' F' → V g mL_law (d + 60) Q (3 * t) (420 * t + phi k') 1530 [some (.ref b), some (.ref x), some (.ref (x + 90)), some (.int (nI i))] [] T' n' I' J' F') : V g mL_law (d + 60) Q (3 * t + 3) (420 * t + 420 + phi k) 479 [some (.ref b), some (.ref x), some (.ref (x + 90)), some (.int (nI i))] [] T n I J F := by
  obtain ⟨hX, hR, hM, hRM, hA, hLK, hn⟩ := id hLI
  have hTx := hX.o
  refine V.aload_n (pc := 479) dL_law_479 rfl ?_
  refine V.aload_n (pc := 480) dL_law_480 rfl ?_
  refine V.iload_n (pc := 481) dL_law_481 rfl ?_
  refine V.iconst (v := 1) (pc := 482) dL_law_482 (by decide) ?_
  refine V.iadd (pc := 483) dL_law_483 ?_
  refine V.sld (k := i + 1) hXs hbs (pc := 484) dL_law_484 (by rw [show (1 : Int32) = nI 1 from rfl, nI_add]) (by omega) (by omega) ?_
  refine V.aload_n (pc := 485) dL_law_485 rfl ?_
  refine V.iload_n (pc := 486) dL_law_486 rfl ?_
  refine V.iconst (v := 2) (pc := 487) dL_law_487 (by decide) ?_
  refine V.iadd (pc := 488) dL_law_488 ?_
  refine V.sld (k := i + 2) hXs hbs (pc := 489) dL_law_489 (by rw [show (2 : Int32) = nI 2 from rfl, nI_add]) (by omega) (by omega) ?_
  refine V.aload_n (pc := 490) dL_law_490 rfl ?_
  refine V.iload_n (pc := 491) dL_law_491 rfl ?_
  refine V.iconst (v := 3) (pc := 492) dL_law_492 (by decide) ?_
  refine V.iadd (pc := 493) dL_law_493 ?_
  refine V.sld (k := i + 3) hXs hbs (pc := 494) dL_law_494 (by rw [show (3 : Int32) = nI 3 from rfl, nI_add]) (by omega) (by omega) ?_
  refine V.aload_n (pc := 495) dL_law_495 rfl ?_
  refine V.iload_n (pc := 496) dL_law_496 rfl ?_
  refine V.iconst (v := 4) (pc := 497) dL_law_497 (by decide) ?_
  refine V.iadd (pc := 498) dL_law_498 ?_
  refine V.sld (k := i + 4) hXs hbs (pc := 499) dL_law_499 (by rw [show (4 : Int32) = nI 4 from rfl, nI_add]) (by omega) (by omega) ?_
  refine V.aload_n (pc := 500) dL_law_500 rfl ?_
  refine V.iload_n (pc := 501) dL_law_501 rfl ?_
  refine V.iconst (v := 5) (pc := 502) dL_law_502 (by decide) ?_
  refine V.iadd (pc := 503) dL_law_503 ?_
  refine V.sld (k := i + 5) hXs hbs (pc := 504) dL_law_504 (by rw [show (5 : Int32) = nI 5 from rfl, nI_add]) (by omega) (by omega) ?_
  refine V.invV0 (as := [_, _, _, _, _]) (pc := 505) dL_law_505 lL_52 bX11_feed nX11_feed (ci := 10) rfl eX11_feed (by assumption) (y_feed (d := d + 55) _ _ _ _ _ hX hA hR) (by omega) rfl (Nat.le_of_ble_eq_true rfl) ?_
  rintro r1 T1 n1 I1 J1 F1 q1
  obtain ⟨rfl, L1⟩ := hLI.cls (q1.qs hLK)
  have hTm := L1.2.2.1.o
  refine V.aload_n (pc := 508) dL_law_508 rfl ?_
  refine V.aload_n (pc := 509) dL_law_509 rfl ?_
  refine V.iload_n (pc := 510) dL_law_510 rfl ?_
  refine V.iconst (v := 1) (pc := 511) dL_law_511 (by decide) ?_
  refine V.iadd (pc := 512) dL_law_512 ?_
  refine V.sld (k := i + 1) hXs hbs (pc := 513) dL_law_513 (by rw [show (1 : Int32) = nI 1 from rfl, nI_add]) (by omega) (by omega) ?_
  refine V.aload_n (pc := 514) dL_law_514 rfl ?_
  refine V.iload_n (pc := 515) dL_law_515 rfl ?_
  refine V.iconst (v := 2) (pc := 516) dL_law_516 (by decide) ?_
  refine V.iadd (pc := 517) dL_law_517 ?_
  refine V.sld (k := i + 2) hXs hbs (pc := 518) dL_law_518 (by rw [show (2 : Int32) = nI 2 from rfl, nI_add]) (by omega) (by omega) ?_
  refine V.aload_n (pc := 519) dL_law_519 rfl ?_
  refine V.iload_n (pc := 520) dL_law_520 rfl ?_
  refine V.iconst (v := 3) (pc := 521) dL_law_521 (by decide) ?_
  refine V.iadd (pc := 522) dL_law_522 ?_
  refine V.sld (k := i + 3) hXs hbs (pc := 523) dL_law_523 (by rw [show (3 : Int32) = nI 3 from rfl, nI_add]) (by omega) (by omega) ?_
  refine V.aload_n (pc := 524) dL_law_524 rfl ?_
  refine V.iload_n (pc := 525) dL_law_525 rfl ?_
  refine V.iconst (v := 4) (pc := 526) dL_law_526 (by decide) ?_
  refine V.iadd (pc := 527) dL_law_527 ?_
  refine V.sld (k := i + 4) hXs hbs (pc := 528) dL_law_528 (by rw [show (4 : Int32) = nI 4 from rfl, nI_add]) (by omega) (by omega) ?_
  refine V.aload_n (pc := 529) dL_law_529 rfl ?_
  refine V.iload_n (pc := 530) dL_law_530 rfl ?_
  refine V.iconst (v := 5) (pc := 531) dL_law_531 (by decide) ?_
  refine V.iadd (pc := 532) dL_law_532 ?_
  refine V.sld (k := i + 5) hXs hbs (pc := 533) dL_law_533 (by rw [show (5 : Int32) = nI 5 from rfl, nI_add]) (by omega) (by omega) ?_
  refine V.invV0 (as := [_, _, _, _, _]) (pc := 534) dL_law_534 lL_56 bX12_feed nX12_feed (ci := 11) rfl eX12_feed (by assumption) (p_feed (d := d + 56) _ _ _ _ _ L1.2.2.1 L1.2.2.2.2.1 L1.2.2.2.1) (by omega) rfl (Nat.le_of_ble_eq_true rfl) ?_
  rintro r2 T2 n2 I2 J2 F2 q2
  obtain ⟨rfl, L2⟩ := L1.ref (ab_feed hA) q2
  refine V.icmp_eq 1530 (pc := 537) dL_law_537 (by decide) (fun h537 => ?_) (fun h537 => absurd rfl h537)
  refine V.room (bc := 3 * t) (bs := 420 * t + phi k) (by omega) (by omega) ?_
  exact kk _ k _ _ _ _ _ L2
theorem lc_end {g : gG} {d : Nat} {T : mT} {n : Nat} {I : mI} {J : mJ} {F : mF} {Q : mQ} {b x k i t N : Nat} {A : Ab} {xs : Nat → Int32} (hXs : va_X b N xs (gs g) (gs g).heap) (hbs : b < (gs g).heap.size) (hiN : i + 7 ≤ N) (hN : N ≤ 3584) (hLI : LI x A k T n I J F) (kk : ∀ (A' : Ab) (k' : Nat) (T' : mT) (n' : Nat) (I' : mI) (J' : mJ) (F' : mF), LI x A' k' T' n' I' J' F' → V g mL_law (d + 60) Q (3 * t) (420 * t + phi k') 1530 [some (.ref b), some (.ref x), some (.ref (x + 90)), some (.int (nI i))] [] T' n' I' J' F') : V g mL_law (d + 60) Q (3 * t + 3) (420 * t + 420 + phi k) 542 [some (.ref b), some (.ref x), some (.ref (x + 90)), some (.int (nI i))] [] T n I J F := by
  obtain ⟨hX, hR, hM, hRM, hA, hLK, hn⟩ := id hLI
  have hTx := hX.o
  refine V.aload_n (pc := 542) dL_law_542 rfl ?_
  refine V.aload_n (pc := 543) dL_law_543 rfl ?_
  refine V.iload_n (pc := 544) dL_law_544 rfl ?_
  refine V.iconst (v := 1) (pc := 545) dL_law_545 (by decide) ?_
  refine V.iadd (pc := 546) dL_law_546 ?_
  refine V.sld (k := i + 1) hXs hbs (pc := 547) dL_law_547 (by rw [show (1 : Int32) = nI 1 from rfl, nI_add]) (by omega) (by omega) ?_
  refine V.invV0 (as := [_]) (pc := 548) dL_law_548 lL_57 bX11_end nX11_end (ci := 10) rfl eX11_end (by assumption) (y_end (d := d + 55) _ hX hA hR) (by omega) rfl (Nat.le_of_ble_eq_true rfl) ?_
  rintro r1 T1 n1 I1 J1 F1 q1
  obtain ⟨rfl, L1⟩ := hLI.cls (q1.qs hLK)
  have hTm := L1.2.2.1.o
  refine V.aload_n (pc := 551) dL_law_551 rfl ?_
  refine V.aload_n (pc := 552) dL_law_552 rfl ?_
  refine V.iload_n (pc := 553) dL_law_553 rfl ?_
  refine V.iconst (v := 1) (pc := 554) dL_law_554 (by decide) ?_
  refine V.iadd (pc := 555) dL_law_555 ?_
  refine V.sld (k := i + 1) hXs hbs (pc := 556) dL_law_556 (by rw [show (1 : Int32) = nI 1 from rfl, nI_add]) (by omega) (by omega) ?_
  refine V.invV0 (as := [_]) (pc := 557) dL_law_557 lL_60 bX12_end nX12_end (ci := 11) rfl eX12_end (by assumption) (p_end (d := d + 56) _ L1.2.2.1 L1.2.2.2.2.1 L1.2.2.2.1) (by omega) rfl (Nat.le_of_ble_eq_true rfl) ?_
  rintro r2 T2 n2 I2 J2 F2 q2
  obtain ⟨rfl, L2⟩ := L1.ref (ab_end hA) q2
  refine V.icmp_eq 1530 (pc := 560) dL_law_560 (by decide) (fun h560 => ?_) (fun h560 => absurd rfl h560)
  refine V.room (bc := 3 * t) (bs := 420 * t + phi k) (by omega) (by omega) ?_
  exact kk _ k _ _ _ _ _ L2
