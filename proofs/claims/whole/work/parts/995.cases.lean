/-! THE LAW'S CASES -/
theorem kw_addItem : gKWs yL_addItem cL_addItem 7 (some .int) hL_addItem 6 := ⟨(gt_2 (i := 100) rfl rfl), (gt_1 (i := 0) rfl rfl), (gt_2 (i := 101) rfl rfl), by decide +kernel⟩
set_option maxHeartbeats 4000000 in
set_option maxRecDepth 100000 in
theorem lc_0 {p : Program} {l : Launch} {e : Env} {s : State} {m : MethodId} {args : Array Value} {below : List Frame} {meth : Method} {c : Code} {D : va_G} {dA : Nat → ClassId} {zp : Nat → Nat} {A : Nat → Prop} {Q : State → Prop} {b' L : Nat} {xs : Nat → Int32} {a b : Nat → Nat} {i : Int32} {ads : gAd} {fo : Nat → Int64} {fd : Nat → UInt64} {σ : MS} {τ : RS} {H : Heap} {locs : List Loc} {ls : Array Slot} {cells slots : Nat}
    (C : lwC p l s m c args D dA zp A b' L xs) (h1 : vp_in (i + 1) L) (h2 : vp_in (i + 2) L) (h3 : vp_in (i + 3) L) (h4 : vp_in (i + 4) L) (hI : mOK σ τ) (hP : va_P D vwCl (wX dA b a ads fo fd σ τ) H) (hD : va_D A (wX dA b a ads fo fd σ τ)) (hS : va_S A s.heap H locs) (hl : lv_has ls 9 (lwL b' a b i)) (hcs : cells + 16 ≤ room_1.cells ∧ slots + 1300 ≤ room_1.slots)
    (K : lwK p l e s m args below meth c D dA A Q b' a b i 2394 (cells + 16) (slots + 1300)) : W p l e room_1 s m args below meth c H locs cells slots Q (F0 m 212 ls []) := by
  obtain ⟨S, hgK, hN, hK, hA, hZ, hfl, hX, hbl, hbA⟩ := C
  have S : CallFix p m c cL_law 9 s args gT RL := S
  obtain ⟨hx, hb, hml, hown, hts⟩ := id S
  have hl : lv_has ls 9 [(0, .ref b'), (1, .ref (a 0)), (2, .ref (b 0)), (3, .ref (b 8)), (4, .ref (b 9)), (5, .int i)] := hl
  obtain ⟨v, σ', res, em, er, ea⟩ := e_addItem hI (xs (i + 1).toNatClampNeg) (xs (i + 2).toNatClampNeg) (xs (i + 3).toNatClampNeg) (xs (i + 4).toNatClampNeg)
  have ht : ∀ E τ1, res = .inl (E, τ1) → E = eIOB ∨ E = eIAE ∨ E = eISE := fun E τ1 h9 => mem3 (ansE ea E τ1 h9)
  refine lv_aload_n hx hb dL_law_212 rfl (lv_at hl 1 rfl) ?_
  refine g_arg (k := 1) (k0 := 0) (k5 := 5) hx hb hX hbl hbA hS hl rfl rfl h1 dL_law_213 dL_law_214 dL_law_216 rfl dL_law_217 dL_law_218 ?_
  refine g_arg (k := 2) (k0 := 0) (k5 := 5) hx hb hX hbl hbA hS hl rfl rfl h2 dL_law_219 dL_law_220 dL_law_222 rfl dL_law_223 dL_law_224 ?_
  refine g_arg (k := 3) (k0 := 0) (k5 := 5) hx hb hX hbl hbA hS hl rfl rfl h3 dL_law_225 dL_law_226 dL_law_228 rfl dL_law_229 dL_law_230 ?_
  refine g_arg (k := 4) (k0 := 0) (k5 := 5) hx hb hX hbl hbA hS hl rfl rfl h4 dL_law_231 dL_law_232 dL_law_234 rfl dL_law_235 dL_law_236 ?_
  refine lv_aload_n hx hb dL_law_237 rfl (lv_at hl 3 rfl) ?_
  refine gLx (gLS S hgK hN hK hP hD hS hA hZ (c_L_addItem l D dA zp hfl b a ads fo fd σ τ (xs (i + 1).toNatClampNeg) (xs (i + 2).toNatClampNeg) (xs (i + 3).toNatClampNeg) (xs (i + 4).toNatClampNeg) H.size res er ht) kw_addItem (gt_2 (i := 99) rfl rfl) rfl hl.1 rfl ⟨rfl, rfl, Nat.le_of_ble_eq_true rfl, Nat.le_of_ble_eq_true rfl⟩ ⟨hcs.1, hcs.2⟩ (Nat.le_of_ble_eq_true rfl) dL_law_238) hD hS hA (fun r u ads H locs hp hP hD hS => ?_)
  obtain ⟨τ1, fo1, fd1⟩ := u
  obtain ⟨ht1, hI1, hg1⟩ := lans (tOne_u (by decide +kernel)) (tOne_z (by decide +kernel)) (fun _ => rfl) ea hp
  have hP : va_P D vwCl (wX dA b a ads fo1 fd1 σ τ1) H := hP
  have hD : va_D A (wX dA b a ads fo1 fd1 σ τ1) := hD
  refine lv_istore (lv' := [(6, .int r), (0, .ref b'), (1, .ref (a 0)), (2, .ref (b 0)), (3, .ref (b 8)), (4, .ref (b 9)), (5, .int i)]) hx hb dL_law_241 hl (by decide) rfl (fun ls hl => ?_)
  refine lv_aload_n hx hb dL_law_243 rfl (lv_at hl 3 rfl) ?_
  refine g_arg (k := 1) (k0 := 1) (k5 := 6) hx hb hX hbl hbA hS hl rfl rfl h1 dL_law_244 dL_law_245 dL_law_247 rfl dL_law_248 dL_law_249 ?_
  refine g_arg (k := 2) (k0 := 1) (k5 := 6) hx hb hX hbl hbA hS hl rfl rfl h2 dL_law_250 dL_law_251 dL_law_253 rfl dL_law_254 dL_law_255 ?_
  refine g_arg (k := 3) (k0 := 1) (k5 := 6) hx hb hX hbl hbA hS hl rfl rfl h3 dL_law_256 dL_law_257 dL_law_259 rfl dL_law_260 dL_law_261 ?_
  refine g_arg (k := 4) (k0 := 1) (k5 := 6) hx hb hX hbl hbA hS hl rfl rfl h4 dL_law_262 dL_law_263 dL_law_265 rfl dL_law_266 dL_law_267 ?_
  refine gmi (w1 := wX dA b a ads fo1 fd1 σ' τ1) (gmV S hgK hK hP hD hS hA hZ (gGri (ws' := wX dA b a ads fo1 fd1 σ' τ1) (c_m_addItem l D dA zp b σ (xs (i + 1).toNatClampNeg) (xs (i + 2).toNatClampNeg) (xs (i + 3).toNatClampNeg) (xs (i + 4).toNatClampNeg) H.size v σ' em) wX_M wX_M) k_X9_addItem (gt_7 (i := 111) rfl rfl) 2 rfl rfl rfl hl.1 rfl ⟨rfl, rfl, Nat.le_of_ble_eq_true rfl, Nat.le_of_ble_eq_true rfl⟩ ⟨hcs.1, hcs.2⟩ (Nat.le_of_ble_eq_true rfl) dL_law_268) hD hS hA (fun H locs hP hD hS => ?_)
  refine lv_istore (lv' := [(7, .int v), (6, .int r), (0, .ref b'), (1, .ref (a 0)), (2, .ref (b 0)), (3, .ref (b 8)), (4, .ref (b 9)), (5, .int i)]) hx hb dL_law_271 hl (by decide) rfl (fun ls hl => ?_)
  refine lv_aload_n hx hb dL_law_273 rfl (lv_at hl 4 rfl) ?_
  refine gci (gcV S hgK hK hP hS hZ (gGrR (c_m_thrown l D dA zp b σ' r (by rw [← ht1]; rfl)) wX_M) k_X9_thrown (gt_7 (i := 107) rfl rfl) 2 rfl rfl rfl hl.1 rfl ⟨rfl, rfl, Nat.le_of_ble_eq_true rfl, Nat.le_of_ble_eq_true rfl⟩ ⟨hcs.1, hcs.2⟩ (Nat.le_of_ble_eq_true rfl) dL_law_274) ?_
  refine lv_iload hx hb dL_law_277 (lv_at hl 1 rfl) ?_
  refine lv_icmp_eq (tgt := 284) hx hb dL_law_279 (by decide) (fun _ => ?_) (fun h9 => absurd rfl h9)
  refine lv_iload hx hb dL_law_284 (lv_at hl 1 rfl) ?_
  refine lv_if_ne (tgt := 301) hx hb dL_law_286 (by decide) (fun hne => ?_) (fun heq => ?_)
  · refine lv_goto (tgt := 2394) hx hb dL_law_301 (by decide) ?_
    exact K _ _ _ _ _ _ _ _ hI1 hP hD hS (lv_sub hl [2, 3, 4, 5, 6, 7] rfl)
  · obtain rfl : fo1 = vp_updL fo 0 v.toInt64 := congrArg (fun z => z.2.1) (hg1 heq)
    refine lv_aload_n hx hb dL_law_289 rfl (lv_at hl 5 rfl) ?_
    refine lv_iconst (v := 0) hx hb dL_law_290 (by decide) ?_
    refine g_lald (k := 0) hx hb hK hP 0 1 rfl rfl (by decide) (by decide) dL_law_291 ?_
    refine lv_iload hx hb dL_law_292 (lv_at hl 0 rfl) ?_
    refine lv_i2l (v := v.toInt64) hx hb dL_law_294 rfl ?_
    refine gl_eq (tgt := 301) hx hb dL_law_295 dL_law_296 (by decide) (fun _ => ?_) (fun h9 => absurd (if_pos rfl) h9)
    refine lv_goto (tgt := 2394) hx hb dL_law_301 (by decide) ?_
    exact K _ _ _ _ _ _ _ _ hI1 hP hD hS (lv_sub hl [2, 3, 4, 5, 6, 7] rfl)
theorem kw_set : gKWs yL_set cL_set 6 (some .int) hL_set 5 := ⟨(gt_3 (i := 24) rfl rfl), (gt_1 (i := 0) rfl rfl), (gt_3 (i := 25) rfl rfl), by decide +kernel⟩
set_option maxHeartbeats 4000000 in
set_option maxRecDepth 100000 in
theorem lc_1 {p : Program} {l : Launch} {e : Env} {s : State} {m : MethodId} {args : Array Value} {below : List Frame} {meth : Method} {c : Code} {D : va_G} {dA : Nat → ClassId} {zp : Nat → Nat} {A : Nat → Prop} {Q : State → Prop} {b' L : Nat} {xs : Nat → Int32} {a b : Nat → Nat} {i : Int32} {ads : gAd} {fo : Nat → Int64} {fd : Nat → UInt64} {σ : MS} {τ : RS} {H : Heap} {locs : List Loc} {ls : Array Slot} {cells slots : Nat}
    (C : lwC p l s m c args D dA zp A b' L xs) (h1 : vp_in (i + 1) L) (h2 : vp_in (i + 2) L) (h3 : vp_in (i + 3) L) (h4 : vp_in (i + 4) L) (hI : mOK σ τ) (hP : va_P D vwCl (wX dA b a ads fo fd σ τ) H) (hD : va_D A (wX dA b a ads fo fd σ τ)) (hS : va_S A s.heap H locs) (hl : lv_has ls 9 (lwL b' a b i)) (hcs : cells + 16 ≤ room_1.cells ∧ slots + 1300 ≤ room_1.slots)
    (K : lwK p l e s m args below meth c D dA A Q b' a b i 2394 (cells + 16) (slots + 1300)) : W p l e room_1 s m args below meth c H locs cells slots Q (F0 m 304 ls []) := by
  obtain ⟨S, hgK, hN, hK, hA, hZ, hfl, hX, hbl, hbA⟩ := C
  have S : CallFix p m c cL_law 9 s args gT RL := S
  obtain ⟨hx, hb, hml, hown, hts⟩ := id S
  have hl : lv_has ls 9 [(0, .ref b'), (1, .ref (a 0)), (2, .ref (b 0)), (3, .ref (b 8)), (4, .ref (b 9)), (5, .int i)] := hl
  obtain ⟨v, σ', res, em, er, ea⟩ := e_set hI (xs (i + 1).toNatClampNeg) (xs (i + 2).toNatClampNeg) (xs (i + 3).toNatClampNeg)
  have ht : ∀ E τ1, res = .inl (E, τ1) → E = eIOB ∨ E = eIAE := fun E τ1 h9 => mem2 (ansE ea E τ1 h9)
  refine lv_aload_n hx hb dL_law_304 rfl (lv_at hl 1 rfl) ?_
  refine g_arg (k := 1) (k0 := 0) (k5 := 5) hx hb hX hbl hbA hS hl rfl rfl h1 dL_law_305 dL_law_306 dL_law_308 rfl dL_law_309 dL_law_310 ?_
  refine g_arg (k := 2) (k0 := 0) (k5 := 5) hx hb hX hbl hbA hS hl rfl rfl h2 dL_law_311 dL_law_312 dL_law_314 rfl dL_law_315 dL_law_316 ?_
  refine g_arg (k := 3) (k0 := 0) (k5 := 5) hx hb hX hbl hbA hS hl rfl rfl h3 dL_law_317 dL_law_318 dL_law_320 rfl dL_law_321 dL_law_322 ?_
  refine lv_aload_n hx hb dL_law_323 rfl (lv_at hl 3 rfl) ?_
  refine gLx (gLS S hgK hN hK hP hD hS hA hZ (c_L_set l D dA zp hfl b a ads fo fd σ τ (xs (i + 1).toNatClampNeg) (xs (i + 2).toNatClampNeg) (xs (i + 3).toNatClampNeg) H.size res er ht) kw_set (gt_3 (i := 23) rfl rfl) rfl hl.1 rfl ⟨rfl, rfl, Nat.le_of_ble_eq_true rfl, Nat.le_of_ble_eq_true rfl⟩ ⟨hcs.1, hcs.2⟩ (Nat.le_of_ble_eq_true rfl) dL_law_324) hD hS hA (fun r u ads H locs hp hP hD hS => ?_)
  obtain ⟨τ1, fo1, fd1⟩ := u
  obtain ⟨ht1, hI1, hg1⟩ := lans (tOne_u (by decide +kernel)) (tOne_z (by decide +kernel)) (fun _ => rfl) ea hp
  have hP : va_P D vwCl (wX dA b a ads fo1 fd1 σ τ1) H := hP
  have hD : va_D A (wX dA b a ads fo1 fd1 σ τ1) := hD
  refine lv_istore (lv' := [(6, .int r), (0, .ref b'), (1, .ref (a 0)), (2, .ref (b 0)), (3, .ref (b 8)), (4, .ref (b 9)), (5, .int i)]) hx hb dL_law_327 hl (by decide) rfl (fun ls hl => ?_)
  refine lv_aload_n hx hb dL_law_329 rfl (lv_at hl 3 rfl) ?_
  refine g_arg (k := 1) (k0 := 1) (k5 := 6) hx hb hX hbl hbA hS hl rfl rfl h1 dL_law_330 dL_law_331 dL_law_333 rfl dL_law_334 dL_law_335 ?_
  refine g_arg (k := 2) (k0 := 1) (k5 := 6) hx hb hX hbl hbA hS hl rfl rfl h2 dL_law_336 dL_law_337 dL_law_339 rfl dL_law_340 dL_law_341 ?_
  refine g_arg (k := 3) (k0 := 1) (k5 := 6) hx hb hX hbl hbA hS hl rfl rfl h3 dL_law_342 dL_law_343 dL_law_345 rfl dL_law_346 dL_law_347 ?_
  refine gmi (w1 := wX dA b a ads fo1 fd1 σ' τ1) (gmV S hgK hK hP hD hS hA hZ (gGri (ws' := wX dA b a ads fo1 fd1 σ' τ1) (c_m_set l D dA zp b σ (xs (i + 1).toNatClampNeg) (xs (i + 2).toNatClampNeg) (xs (i + 3).toNatClampNeg) H.size v σ' em) wX_M wX_M) k_X9_set (gt_7 (i := 143) rfl rfl) 2 rfl rfl rfl hl.1 rfl ⟨rfl, rfl, Nat.le_of_ble_eq_true rfl, Nat.le_of_ble_eq_true rfl⟩ ⟨hcs.1, hcs.2⟩ (Nat.le_of_ble_eq_true rfl) dL_law_348) hD hS hA (fun H locs hP hD hS => ?_)
  refine lv_istore (lv' := [(7, .int v), (6, .int r), (0, .ref b'), (1, .ref (a 0)), (2, .ref (b 0)), (3, .ref (b 8)), (4, .ref (b 9)), (5, .int i)]) hx hb dL_law_351 hl (by decide) rfl (fun ls hl => ?_)
  refine lv_aload_n hx hb dL_law_353 rfl (lv_at hl 4 rfl) ?_
  refine gci (gcV S hgK hK hP hS hZ (gGrR (c_m_thrown l D dA zp b σ' r (by rw [← ht1]; rfl)) wX_M) k_X9_thrown (gt_7 (i := 107) rfl rfl) 2 rfl rfl rfl hl.1 rfl ⟨rfl, rfl, Nat.le_of_ble_eq_true rfl, Nat.le_of_ble_eq_true rfl⟩ ⟨hcs.1, hcs.2⟩ (Nat.le_of_ble_eq_true rfl) dL_law_354) ?_
  refine lv_iload hx hb dL_law_357 (lv_at hl 1 rfl) ?_
  refine lv_icmp_eq (tgt := 364) hx hb dL_law_359 (by decide) (fun _ => ?_) (fun h9 => absurd rfl h9)
  refine lv_iload hx hb dL_law_364 (lv_at hl 1 rfl) ?_
  refine lv_if_ne (tgt := 381) hx hb dL_law_366 (by decide) (fun hne => ?_) (fun heq => ?_)
  · refine lv_goto (tgt := 2394) hx hb dL_law_381 (by decide) ?_
    exact K _ _ _ _ _ _ _ _ hI1 hP hD hS (lv_sub hl [2, 3, 4, 5, 6, 7] rfl)
  · obtain rfl : fo1 = vp_updL fo 0 v.toInt64 := congrArg (fun z => z.2.1) (hg1 heq)
    refine lv_aload_n hx hb dL_law_369 rfl (lv_at hl 5 rfl) ?_
    refine lv_iconst (v := 0) hx hb dL_law_370 (by decide) ?_
    refine g_lald (k := 0) hx hb hK hP 0 1 rfl rfl (by decide) (by decide) dL_law_371 ?_
    refine lv_iload hx hb dL_law_372 (lv_at hl 0 rfl) ?_
    refine lv_i2l (v := v.toInt64) hx hb dL_law_374 rfl ?_
    refine gl_eq (tgt := 381) hx hb dL_law_375 dL_law_376 (by decide) (fun _ => ?_) (fun h9 => absurd (if_pos rfl) h9)
    refine lv_goto (tgt := 2394) hx hb dL_law_381 (by decide) ?_
    exact K _ _ _ _ _ _ _ _ hI1 hP hD hS (lv_sub hl [2, 3, 4, 5, 6, 7] rfl)
theorem kw_item : gKWs yL_item cL_item 5 (some .int) hL_item 4 := ⟨(gt_3 (i := 46) rfl rfl), (gt_1 (i := 0) rfl rfl), (gt_3 (i := 47) rfl rfl), by decide +kernel⟩
set_option maxHeartbeats 4000000 in
set_option maxRecDepth 100000 in
theorem lc_2 {p : Program} {l : Launch} {e : Env} {s : State} {m : MethodId} {args : Array Value} {below : List Frame} {meth : Method} {c : Code} {D : va_G} {dA : Nat → ClassId} {zp : Nat → Nat} {A : Nat → Prop} {Q : State → Prop} {b' L : Nat} {xs : Nat → Int32} {a b : Nat → Nat} {i : Int32} {ads : gAd} {fo : Nat → Int64} {fd : Nat → UInt64} {σ : MS} {τ : RS} {H : Heap} {locs : List Loc} {ls : Array Slot} {cells slots : Nat}
    (C : lwC p l s m c args D dA zp A b' L xs) (h1 : vp_in (i + 1) L) (h2 : vp_in (i + 2) L) (h3 : vp_in (i + 3) L) (h4 : vp_in (i + 4) L) (hI : mOK σ τ) (hP : va_P D vwCl (wX dA b a ads fo fd σ τ) H) (hD : va_D A (wX dA b a ads fo fd σ τ)) (hS : va_S A s.heap H locs) (hl : lv_has ls 9 (lwL b' a b i)) (hcs : cells + 16 ≤ room_1.cells ∧ slots + 1300 ≤ room_1.slots)
    (K : lwK p l e s m args below meth c D dA A Q b' a b i 2394 (cells + 16) (slots + 1300)) : W p l e room_1 s m args below meth c H locs cells slots Q (F0 m 384 ls []) := by
  obtain ⟨S, hgK, hN, hK, hA, hZ, hfl, hX, hbl, hbA⟩ := C
  have S : CallFix p m c cL_law 9 s args gT RL := S
  obtain ⟨hx, hb, hml, hown, hts⟩ := id S
  have hl : lv_has ls 9 [(0, .ref b'), (1, .ref (a 0)), (2, .ref (b 0)), (3, .ref (b 8)), (4, .ref (b 9)), (5, .int i)] := hl
  obtain ⟨v, σ', res, em, er, ea⟩ := e_item hI (xs (i + 1).toNatClampNeg) (xs (i + 2).toNatClampNeg)
  have ht : ∀ E τ1, res = .inl (E, τ1) → E = eIOB ∨ E = eIAE := fun E τ1 h9 => mem2 (ansE ea E τ1 h9)
  refine lv_aload_n hx hb dL_law_384 rfl (lv_at hl 1 rfl) ?_
  refine g_arg (k := 1) (k0 := 0) (k5 := 5) hx hb hX hbl hbA hS hl rfl rfl h1 dL_law_385 dL_law_386 dL_law_388 rfl dL_law_389 dL_law_390 ?_
  refine g_arg (k := 2) (k0 := 0) (k5 := 5) hx hb hX hbl hbA hS hl rfl rfl h2 dL_law_391 dL_law_392 dL_law_394 rfl dL_law_395 dL_law_396 ?_
  refine lv_aload_n hx hb dL_law_397 rfl (lv_at hl 3 rfl) ?_
  refine gLx (gLS S hgK hN hK hP hD hS hA hZ (c_L_item l D dA zp hfl b a ads fo fd σ τ (xs (i + 1).toNatClampNeg) (xs (i + 2).toNatClampNeg) H.size res er ht) kw_item (gt_3 (i := 45) rfl rfl) rfl hl.1 rfl ⟨rfl, rfl, Nat.le_of_ble_eq_true rfl, Nat.le_of_ble_eq_true rfl⟩ ⟨hcs.1, hcs.2⟩ (Nat.le_of_ble_eq_true rfl) dL_law_398) hD hS hA (fun r u ads H locs hp hP hD hS => ?_)
  obtain ⟨τ1, fo1, fd1⟩ := u
  obtain ⟨ht1, hI1, hg1⟩ := lans (tOne_u (by decide +kernel)) (tOne_z (by decide +kernel)) (fun _ => rfl) ea hp
  have hP : va_P D vwCl (wX dA b a ads fo1 fd1 σ τ1) H := hP
  have hD : va_D A (wX dA b a ads fo1 fd1 σ τ1) := hD
  refine lv_istore (lv' := [(6, .int r), (0, .ref b'), (1, .ref (a 0)), (2, .ref (b 0)), (3, .ref (b 8)), (4, .ref (b 9)), (5, .int i)]) hx hb dL_law_401 hl (by decide) rfl (fun ls hl => ?_)
  refine lv_aload_n hx hb dL_law_403 rfl (lv_at hl 3 rfl) ?_
  refine g_arg (k := 1) (k0 := 1) (k5 := 6) hx hb hX hbl hbA hS hl rfl rfl h1 dL_law_404 dL_law_405 dL_law_407 rfl dL_law_408 dL_law_409 ?_
  refine g_arg (k := 2) (k0 := 1) (k5 := 6) hx hb hX hbl hbA hS hl rfl rfl h2 dL_law_410 dL_law_411 dL_law_413 rfl dL_law_414 dL_law_415 ?_
  refine gmi (w1 := wX dA b a ads fo1 fd1 σ' τ1) (gmV S hgK hK hP hD hS hA hZ (gGri (ws' := wX dA b a ads fo1 fd1 σ' τ1) (c_m_item l D dA zp b σ (xs (i + 1).toNatClampNeg) (xs (i + 2).toNatClampNeg) H.size v σ' em) wX_M wX_M) k_X9_item (gt_7 (i := 158) rfl rfl) 2 rfl rfl rfl hl.1 rfl ⟨rfl, rfl, Nat.le_of_ble_eq_true rfl, Nat.le_of_ble_eq_true rfl⟩ ⟨hcs.1, hcs.2⟩ (Nat.le_of_ble_eq_true rfl) dL_law_416) hD hS hA (fun H locs hP hD hS => ?_)
  refine lv_istore (lv' := [(7, .int v), (6, .int r), (0, .ref b'), (1, .ref (a 0)), (2, .ref (b 0)), (3, .ref (b 8)), (4, .ref (b 9)), (5, .int i)]) hx hb dL_law_419 hl (by decide) rfl (fun ls hl => ?_)
  refine lv_aload_n hx hb dL_law_421 rfl (lv_at hl 4 rfl) ?_
  refine gci (gcV S hgK hK hP hS hZ (gGrR (c_m_thrown l D dA zp b σ' r (by rw [← ht1]; rfl)) wX_M) k_X9_thrown (gt_7 (i := 107) rfl rfl) 2 rfl rfl rfl hl.1 rfl ⟨rfl, rfl, Nat.le_of_ble_eq_true rfl, Nat.le_of_ble_eq_true rfl⟩ ⟨hcs.1, hcs.2⟩ (Nat.le_of_ble_eq_true rfl) dL_law_422) ?_
  refine lv_iload hx hb dL_law_425 (lv_at hl 1 rfl) ?_
  refine lv_icmp_eq (tgt := 432) hx hb dL_law_427 (by decide) (fun _ => ?_) (fun h9 => absurd rfl h9)
  refine lv_iload hx hb dL_law_432 (lv_at hl 1 rfl) ?_
  refine lv_if_ne (tgt := 449) hx hb dL_law_434 (by decide) (fun hne => ?_) (fun heq => ?_)
  · refine lv_goto (tgt := 2394) hx hb dL_law_449 (by decide) ?_
    exact K _ _ _ _ _ _ _ _ hI1 hP hD hS (lv_sub hl [2, 3, 4, 5, 6, 7] rfl)
  · obtain rfl : fo1 = vp_updL fo 0 v.toInt64 := congrArg (fun z => z.2.1) (hg1 heq)
    refine lv_aload_n hx hb dL_law_437 rfl (lv_at hl 5 rfl) ?_
    refine lv_iconst (v := 0) hx hb dL_law_438 (by decide) ?_
    refine g_lald (k := 0) hx hb hK hP 0 1 rfl rfl (by decide) (by decide) dL_law_439 ?_
    refine lv_iload hx hb dL_law_440 (lv_at hl 0 rfl) ?_
    refine lv_i2l (v := v.toInt64) hx hb dL_law_442 rfl ?_
    refine gl_eq (tgt := 449) hx hb dL_law_443 dL_law_444 (by decide) (fun _ => ?_) (fun h9 => absurd (if_pos rfl) h9)
    refine lv_goto (tgt := 2394) hx hb dL_law_449 (by decide) ?_
    exact K _ _ _ _ _ _ _ _ hI1 hP hD hS (lv_sub hl [2, 3, 4, 5, 6, 7] rfl)
theorem kw_pass : gKWs yL_pass cL_pass 4 (some .int) hL_pass 3 := ⟨(gt_3 (i := 105) rfl rfl), (gt_1 (i := 0) rfl rfl), (gt_3 (i := 106) rfl rfl), by decide +kernel⟩
set_option maxHeartbeats 4000000 in
set_option maxRecDepth 100000 in
theorem lc_3 {p : Program} {l : Launch} {e : Env} {s : State} {m : MethodId} {args : Array Value} {below : List Frame} {meth : Method} {c : Code} {D : va_G} {dA : Nat → ClassId} {zp : Nat → Nat} {A : Nat → Prop} {Q : State → Prop} {b' L : Nat} {xs : Nat → Int32} {a b : Nat → Nat} {i : Int32} {ads : gAd} {fo : Nat → Int64} {fd : Nat → UInt64} {σ : MS} {τ : RS} {H : Heap} {locs : List Loc} {ls : Array Slot} {cells slots : Nat}
    (C : lwC p l s m c args D dA zp A b' L xs) (h1 : vp_in (i + 1) L) (h2 : vp_in (i + 2) L) (h3 : vp_in (i + 3) L) (h4 : vp_in (i + 4) L) (hI : mOK σ τ) (hP : va_P D vwCl (wX dA b a ads fo fd σ τ) H) (hD : va_D A (wX dA b a ads fo fd σ τ)) (hS : va_S A s.heap H locs) (hl : lv_has ls 9 (lwL b' a b i)) (hcs : cells + 16 ≤ room_1.cells ∧ slots + 1300 ≤ room_1.slots)
    (K : lwK p l e s m args below meth c D dA A Q b' a b i 2394 (cells + 16) (slots + 1300)) : W p l e room_1 s m args below meth c H locs cells slots Q (F0 m 452 ls []) := by
  obtain ⟨S, hgK, hN, hK, hA, hZ, hfl, hX, hbl, hbA⟩ := C
  have S : CallFix p m c cL_law 9 s args gT RL := S
  obtain ⟨hx, hb, hml, hown, hts⟩ := id S
  have hl : lv_has ls 9 [(0, .ref b'), (1, .ref (a 0)), (2, .ref (b 0)), (3, .ref (b 8)), (4, .ref (b 9)), (5, .int i)] := hl
  obtain ⟨v, σ', res, em, er, ea⟩ := e_pass hI (xs (i + 1).toNatClampNeg)
  have ht : ∀ E τ1, res = .inl (E, τ1) → E = eIAE ∨ E = eISE := fun E τ1 h9 => mem2 (ansE ea E τ1 h9)
  refine lv_aload_n hx hb dL_law_452 rfl (lv_at hl 1 rfl) ?_
  refine g_arg (k := 1) (k0 := 0) (k5 := 5) hx hb hX hbl hbA hS hl rfl rfl h1 dL_law_453 dL_law_454 dL_law_456 rfl dL_law_457 dL_law_458 ?_
  refine lv_aload_n hx hb dL_law_459 rfl (lv_at hl 3 rfl) ?_
  refine gLx (gLS S hgK hN hK hP hD hS hA hZ (c_L_pass l D dA zp hfl b a ads fo fd σ τ (xs (i + 1).toNatClampNeg) H.size res er ht) kw_pass (gt_3 (i := 104) rfl rfl) rfl hl.1 rfl ⟨rfl, rfl, Nat.le_of_ble_eq_true rfl, Nat.le_of_ble_eq_true rfl⟩ ⟨hcs.1, hcs.2⟩ (Nat.le_of_ble_eq_true rfl) dL_law_460) hD hS hA (fun r u ads H locs hp hP hD hS => ?_)
  obtain ⟨τ1, fo1, fd1⟩ := u
  obtain ⟨ht1, hI1, hg1⟩ := lans (tOne_u (by decide +kernel)) (tOne_z (by decide +kernel)) (fun _ => rfl) ea hp
  have hP : va_P D vwCl (wX dA b a ads fo1 fd1 σ τ1) H := hP
  have hD : va_D A (wX dA b a ads fo1 fd1 σ τ1) := hD
  refine lv_istore (lv' := [(6, .int r), (0, .ref b'), (1, .ref (a 0)), (2, .ref (b 0)), (3, .ref (b 8)), (4, .ref (b 9)), (5, .int i)]) hx hb dL_law_463 hl (by decide) rfl (fun ls hl => ?_)
  refine lv_aload_n hx hb dL_law_465 rfl (lv_at hl 3 rfl) ?_
  refine g_arg (k := 1) (k0 := 1) (k5 := 6) hx hb hX hbl hbA hS hl rfl rfl h1 dL_law_466 dL_law_467 dL_law_469 rfl dL_law_470 dL_law_471 ?_
  refine gmi (w1 := wX dA b a ads fo1 fd1 σ' τ1) (gmV S hgK hK hP hD hS hA hZ (gGri (ws' := wX dA b a ads fo1 fd1 σ' τ1) (c_m_pass l D dA zp b σ (xs (i + 1).toNatClampNeg) H.size v σ' em) wX_M wX_M) k_X9_pass (gt_7 (i := 226) rfl rfl) 2 rfl rfl rfl hl.1 rfl ⟨rfl, rfl, Nat.le_of_ble_eq_true rfl, Nat.le_of_ble_eq_true rfl⟩ ⟨hcs.1, hcs.2⟩ (Nat.le_of_ble_eq_true rfl) dL_law_472) hD hS hA (fun H locs hP hD hS => ?_)
  refine lv_istore (lv' := [(7, .int v), (6, .int r), (0, .ref b'), (1, .ref (a 0)), (2, .ref (b 0)), (3, .ref (b 8)), (4, .ref (b 9)), (5, .int i)]) hx hb dL_law_475 hl (by decide) rfl (fun ls hl => ?_)
  refine lv_aload_n hx hb dL_law_477 rfl (lv_at hl 4 rfl) ?_
  refine gci (gcV S hgK hK hP hS hZ (gGrR (c_m_thrown l D dA zp b σ' r (by rw [← ht1]; rfl)) wX_M) k_X9_thrown (gt_7 (i := 107) rfl rfl) 2 rfl rfl rfl hl.1 rfl ⟨rfl, rfl, Nat.le_of_ble_eq_true rfl, Nat.le_of_ble_eq_true rfl⟩ ⟨hcs.1, hcs.2⟩ (Nat.le_of_ble_eq_true rfl) dL_law_478) ?_
  refine lv_iload hx hb dL_law_481 (lv_at hl 1 rfl) ?_
  refine lv_icmp_eq (tgt := 488) hx hb dL_law_483 (by decide) (fun _ => ?_) (fun h9 => absurd rfl h9)
  refine lv_iload hx hb dL_law_488 (lv_at hl 1 rfl) ?_
  refine lv_if_ne (tgt := 505) hx hb dL_law_490 (by decide) (fun hne => ?_) (fun heq => ?_)
  · refine lv_goto (tgt := 2394) hx hb dL_law_505 (by decide) ?_
    exact K _ _ _ _ _ _ _ _ hI1 hP hD hS (lv_sub hl [2, 3, 4, 5, 6, 7] rfl)
  · obtain rfl : fo1 = vp_updL fo 0 v.toInt64 := congrArg (fun z => z.2.1) (hg1 heq)
    refine lv_aload_n hx hb dL_law_493 rfl (lv_at hl 5 rfl) ?_
    refine lv_iconst (v := 0) hx hb dL_law_494 (by decide) ?_
    refine g_lald (k := 0) hx hb hK hP 0 1 rfl rfl (by decide) (by decide) dL_law_495 ?_
    refine lv_iload hx hb dL_law_496 (lv_at hl 0 rfl) ?_
    refine lv_i2l (v := v.toInt64) hx hb dL_law_498 rfl ?_
    refine gl_eq (tgt := 505) hx hb dL_law_499 dL_law_500 (by decide) (fun _ => ?_) (fun h9 => absurd (if_pos rfl) h9)
    refine lv_goto (tgt := 2394) hx hb dL_law_505 (by decide) ?_
    exact K _ _ _ _ _ _ _ _ hI1 hP hD hS (lv_sub hl [2, 3, 4, 5, 6, 7] rfl)
set_option maxHeartbeats 4000000 in
set_option maxRecDepth 100000 in
theorem lc_4 {p : Program} {l : Launch} {e : Env} {s : State} {m : MethodId} {args : Array Value} {below : List Frame} {meth : Method} {c : Code} {D : va_G} {dA : Nat → ClassId} {zp : Nat → Nat} {A : Nat → Prop} {Q : State → Prop} {b' L : Nat} {xs : Nat → Int32} {a b : Nat → Nat} {i : Int32} {ads : gAd} {fo : Nat → Int64} {fd : Nat → UInt64} {σ : MS} {τ : RS} {H : Heap} {locs : List Loc} {ls : Array Slot} {cells slots : Nat}
    (C : lwC p l s m c args D dA zp A b' L xs) (h1 : vp_in (i + 1) L) (h2 : vp_in (i + 2) L) (h3 : vp_in (i + 3) L) (h4 : vp_in (i + 4) L) (hI : mOK σ τ) (hP : va_P D vwCl (wX dA b a ads fo fd σ τ) H) (hD : va_D A (wX dA b a ads fo fd σ τ)) (hS : va_S A s.heap H locs) (hl : lv_has ls 9 (lwL b' a b i)) (hcs : cells + 16 ≤ room_1.cells ∧ slots + 1300 ≤ room_1.slots)
    (K : lwK p l e s m args below meth c D dA A Q b' a b i 2394 (cells + 16) (slots + 1300)) : W p l e room_1 s m args below meth c H locs cells slots Q (F0 m 508 ls []) := by
  obtain ⟨S, hgK, hN, hK, hA, hZ, hfl, hX, hbl, hbA⟩ := C
  have S : CallFix p m c cL_law 9 s args gT RL := S
  obtain ⟨hx, hb, hml, hown, hts⟩ := id S
  have hl : lv_has ls 9 [(0, .ref b'), (1, .ref (a 0)), (2, .ref (b 0)), (3, .ref (b 8)), (4, .ref (b 9)), (5, .int i)] := hl
  obtain ⟨v, σ', em, er, hI1⟩ := e_today hI
  refine lv_aload_n hx hb dL_law_508 rfl (lv_at hl 1 rfl) ?_
  refine gci (gcV S hgK hK hP hS hZ (gGrR (c_r_today l D dA zp a ads τ v er) wX_R) k_X8_today (gt_2 (i := 46) rfl rfl) 10 rfl rfl rfl hl.1 rfl ⟨rfl, rfl, Nat.le_of_ble_eq_true rfl, Nat.le_of_ble_eq_true rfl⟩ ⟨Nat.le_trans (Nat.le_add_right _ _) hcs.1, Nat.le_trans (Nat.le_add_right _ _) hcs.2⟩ (Nat.le_of_ble_eq_true rfl) dL_law_509) ?_
  refine lv_aload_n hx hb dL_law_512 rfl (lv_at hl 2 rfl) ?_
  refine gmi (w1 := wX dA b a ads fo fd σ' τ) (gmV S hgK hK hP hD hS hA hZ (gGri (ws' := wX dA b a ads fo fd σ' τ) (c_m_today l D dA zp b σ H.size v σ' em) wX_M wX_M) k_X9_today (gt_7 (i := 231) rfl rfl) 2 rfl rfl rfl hl.1 rfl ⟨rfl, rfl, Nat.le_of_ble_eq_true rfl, Nat.le_of_ble_eq_true rfl⟩ ⟨Nat.le_trans (Nat.le_add_right _ _) hcs.1, Nat.le_trans (Nat.le_add_right _ _) hcs.2⟩ (Nat.le_of_ble_eq_true rfl) dL_law_513) hD hS hA (fun H locs hP hD hS => ?_)
  refine lv_icmp_eq (tgt := 2394) hx hb dL_law_516 (by decide) (fun _ => ?_) (fun h9 => absurd rfl h9)
  exact W.widen (k := cells + 16) (n := slots + 1300) (by omega) (by omega) (K _ _ _ _ _ _ _ _ hI1 hP hD hS hl)
theorem kw_part : gKWs yL_part cL_part 5 (some .int) hL_part 4 := ⟨(gt_3 (i := 116) rfl rfl), (gt_1 (i := 0) rfl rfl), (gt_3 (i := 117) rfl rfl), by decide +kernel⟩
set_option maxHeartbeats 4000000 in
set_option maxRecDepth 100000 in
theorem lc_5 {p : Program} {l : Launch} {e : Env} {s : State} {m : MethodId} {args : Array Value} {below : List Frame} {meth : Method} {c : Code} {D : va_G} {dA : Nat → ClassId} {zp : Nat → Nat} {A : Nat → Prop} {Q : State → Prop} {b' L : Nat} {xs : Nat → Int32} {a b : Nat → Nat} {i : Int32} {ads : gAd} {fo : Nat → Int64} {fd : Nat → UInt64} {σ : MS} {τ : RS} {H : Heap} {locs : List Loc} {ls : Array Slot} {cells slots : Nat}
    (C : lwC p l s m c args D dA zp A b' L xs) (h1 : vp_in (i + 1) L) (h2 : vp_in (i + 2) L) (h3 : vp_in (i + 3) L) (h4 : vp_in (i + 4) L) (hI : mOK σ τ) (hP : va_P D vwCl (wX dA b a ads fo fd σ τ) H) (hD : va_D A (wX dA b a ads fo fd σ τ)) (hS : va_S A s.heap H locs) (hl : lv_has ls 9 (lwL b' a b i)) (hcs : cells + 16 ≤ room_1.cells ∧ slots + 1300 ≤ room_1.slots)
    (K : lwK p l e s m args below meth c D dA A Q b' a b i 2394 (cells + 16) (slots + 1300)) : W p l e room_1 s m args below meth c H locs cells slots Q (F0 m 521 ls []) := by
  obtain ⟨S, hgK, hN, hK, hA, hZ, hfl, hX, hbl, hbA⟩ := C
  have S : CallFix p m c cL_law 9 s args gT RL := S
  obtain ⟨hx, hb, hml, hown, hts⟩ := id S
  have hl : lv_has ls 9 [(0, .ref b'), (1, .ref (a 0)), (2, .ref (b 0)), (3, .ref (b 8)), (4, .ref (b 9)), (5, .int i)] := hl
  obtain ⟨v, σ', res, em, er, ea⟩ := e_part hI (xs (i + 1).toNatClampNeg) (xs (i + 2).toNatClampNeg)
  have ht : ∀ E τ1, res = .inl (E, τ1) → E = eIOB ∨ E = eIAE ∨ E = eISE := fun E τ1 h9 => mem3 (ansE ea E τ1 h9)
  refine lv_aload_n hx hb dL_law_521 rfl (lv_at hl 1 rfl) ?_
  refine g_arg (k := 1) (k0 := 0) (k5 := 5) hx hb hX hbl hbA hS hl rfl rfl h1 dL_law_522 dL_law_523 dL_law_525 rfl dL_law_526 dL_law_527 ?_
  refine g_arg (k := 2) (k0 := 0) (k5 := 5) hx hb hX hbl hbA hS hl rfl rfl h2 dL_law_528 dL_law_529 dL_law_531 rfl dL_law_532 dL_law_533 ?_
  refine lv_aload_n hx hb dL_law_534 rfl (lv_at hl 3 rfl) ?_
  refine gLx (gLS S hgK hN hK hP hD hS hA hZ (c_L_part l D dA zp hfl b a ads fo fd σ τ (xs (i + 1).toNatClampNeg) (xs (i + 2).toNatClampNeg) H.size res er ht) kw_part (gt_3 (i := 115) rfl rfl) rfl hl.1 rfl ⟨rfl, rfl, Nat.le_of_ble_eq_true rfl, Nat.le_of_ble_eq_true rfl⟩ ⟨hcs.1, hcs.2⟩ (Nat.le_of_ble_eq_true rfl) dL_law_535) hD hS hA (fun r u ads H locs hp hP hD hS => ?_)
  obtain ⟨τ1, fo1, fd1⟩ := u
  obtain ⟨ht1, hI1, hg1⟩ := lans (tOne_u (by decide +kernel)) (tOne_z (by decide +kernel)) (fun _ => rfl) ea hp
  have hP : va_P D vwCl (wX dA b a ads fo1 fd1 σ τ1) H := hP
  have hD : va_D A (wX dA b a ads fo1 fd1 σ τ1) := hD
  refine lv_istore (lv' := [(6, .int r), (0, .ref b'), (1, .ref (a 0)), (2, .ref (b 0)), (3, .ref (b 8)), (4, .ref (b 9)), (5, .int i)]) hx hb dL_law_538 hl (by decide) rfl (fun ls hl => ?_)
  refine lv_aload_n hx hb dL_law_540 rfl (lv_at hl 3 rfl) ?_
  refine g_arg (k := 1) (k0 := 1) (k5 := 6) hx hb hX hbl hbA hS hl rfl rfl h1 dL_law_541 dL_law_542 dL_law_544 rfl dL_law_545 dL_law_546 ?_
  refine g_arg (k := 2) (k0 := 1) (k5 := 6) hx hb hX hbl hbA hS hl rfl rfl h2 dL_law_547 dL_law_548 dL_law_550 rfl dL_law_551 dL_law_552 ?_
  refine gmi (w1 := wX dA b a ads fo1 fd1 σ' τ1) (gmV S hgK hK hP hD hS hA hZ (gGri (ws' := wX dA b a ads fo1 fd1 σ' τ1) (c_m_part l D dA zp b σ (xs (i + 1).toNatClampNeg) (xs (i + 2).toNatClampNeg) H.size v σ' em) wX_M wX_M) k_X9_part (gt_7 (i := 235) rfl rfl) 2 rfl rfl rfl hl.1 rfl ⟨rfl, rfl, Nat.le_of_ble_eq_true rfl, Nat.le_of_ble_eq_true rfl⟩ ⟨hcs.1, hcs.2⟩ (Nat.le_of_ble_eq_true rfl) dL_law_553) hD hS hA (fun H locs hP hD hS => ?_)
  refine lv_istore (lv' := [(7, .int v), (6, .int r), (0, .ref b'), (1, .ref (a 0)), (2, .ref (b 0)), (3, .ref (b 8)), (4, .ref (b 9)), (5, .int i)]) hx hb dL_law_556 hl (by decide) rfl (fun ls hl => ?_)
  refine lv_aload_n hx hb dL_law_558 rfl (lv_at hl 4 rfl) ?_
  refine gci (gcV S hgK hK hP hS hZ (gGrR (c_m_thrown l D dA zp b σ' r (by rw [← ht1]; rfl)) wX_M) k_X9_thrown (gt_7 (i := 107) rfl rfl) 2 rfl rfl rfl hl.1 rfl ⟨rfl, rfl, Nat.le_of_ble_eq_true rfl, Nat.le_of_ble_eq_true rfl⟩ ⟨hcs.1, hcs.2⟩ (Nat.le_of_ble_eq_true rfl) dL_law_559) ?_
  refine lv_iload hx hb dL_law_562 (lv_at hl 1 rfl) ?_
  refine lv_icmp_eq (tgt := 569) hx hb dL_law_564 (by decide) (fun _ => ?_) (fun h9 => absurd rfl h9)
  refine lv_iload hx hb dL_law_569 (lv_at hl 1 rfl) ?_
  refine lv_if_ne (tgt := 586) hx hb dL_law_571 (by decide) (fun hne => ?_) (fun heq => ?_)
  · refine lv_goto (tgt := 2394) hx hb dL_law_586 (by decide) ?_
    exact K _ _ _ _ _ _ _ _ hI1 hP hD hS (lv_sub hl [2, 3, 4, 5, 6, 7] rfl)
  · obtain rfl : fo1 = vp_updL fo 0 v.toInt64 := congrArg (fun z => z.2.1) (hg1 heq)
    refine lv_aload_n hx hb dL_law_574 rfl (lv_at hl 5 rfl) ?_
    refine lv_iconst (v := 0) hx hb dL_law_575 (by decide) ?_
    refine g_lald (k := 0) hx hb hK hP 0 1 rfl rfl (by decide) (by decide) dL_law_576 ?_
    refine lv_iload hx hb dL_law_577 (lv_at hl 0 rfl) ?_
    refine lv_i2l (v := v.toInt64) hx hb dL_law_579 rfl ?_
    refine gl_eq (tgt := 586) hx hb dL_law_580 dL_law_581 (by decide) (fun _ => ?_) (fun h9 => absurd (if_pos rfl) h9)
    refine lv_goto (tgt := 2394) hx hb dL_law_586 (by decide) ?_
    exact K _ _ _ _ _ _ _ _ hI1 hP hD hS (lv_sub hl [2, 3, 4, 5, 6, 7] rfl)
theorem kw_square : gKWs yL_square cL_square 4 (some .int) hL_square 3 := ⟨(gt_3 (i := 135) rfl rfl), (gt_1 (i := 0) rfl rfl), (gt_3 (i := 136) rfl rfl), by decide +kernel⟩
set_option maxHeartbeats 4000000 in
set_option maxRecDepth 100000 in
theorem lc_6 {p : Program} {l : Launch} {e : Env} {s : State} {m : MethodId} {args : Array Value} {below : List Frame} {meth : Method} {c : Code} {D : va_G} {dA : Nat → ClassId} {zp : Nat → Nat} {A : Nat → Prop} {Q : State → Prop} {b' L : Nat} {xs : Nat → Int32} {a b : Nat → Nat} {i : Int32} {ads : gAd} {fo : Nat → Int64} {fd : Nat → UInt64} {σ : MS} {τ : RS} {H : Heap} {locs : List Loc} {ls : Array Slot} {cells slots : Nat}
    (C : lwC p l s m c args D dA zp A b' L xs) (h1 : vp_in (i + 1) L) (h2 : vp_in (i + 2) L) (h3 : vp_in (i + 3) L) (h4 : vp_in (i + 4) L) (hI : mOK σ τ) (hP : va_P D vwCl (wX dA b a ads fo fd σ τ) H) (hD : va_D A (wX dA b a ads fo fd σ τ)) (hS : va_S A s.heap H locs) (hl : lv_has ls 9 (lwL b' a b i)) (hcs : cells + 16 ≤ room_1.cells ∧ slots + 1300 ≤ room_1.slots)
    (K : lwK p l e s m args below meth c D dA A Q b' a b i 2394 (cells + 16) (slots + 1300)) : W p l e room_1 s m args below meth c H locs cells slots Q (F0 m 589 ls []) := by
  obtain ⟨S, hgK, hN, hK, hA, hZ, hfl, hX, hbl, hbA⟩ := C
  have S : CallFix p m c cL_law 9 s args gT RL := S
  obtain ⟨hx, hb, hml, hown, hts⟩ := id S
  have hl : lv_has ls 9 [(0, .ref b'), (1, .ref (a 0)), (2, .ref (b 0)), (3, .ref (b 8)), (4, .ref (b 9)), (5, .int i)] := hl
  obtain ⟨v, σ', res, em, er, ea⟩ := e_square hI (xs (i + 1).toNatClampNeg)
  have ht : ∀ E τ1, res = .inl (E, τ1) → E = eNSE := fun E τ1 h9 => mem1 (ansE ea E τ1 h9)
  refine lv_aload_n hx hb dL_law_589 rfl (lv_at hl 1 rfl) ?_
  refine g_arg (k := 1) (k0 := 0) (k5 := 5) hx hb hX hbl hbA hS hl rfl rfl h1 dL_law_590 dL_law_591 dL_law_593 rfl dL_law_594 dL_law_595 ?_
  refine lv_aload_n hx hb dL_law_596 rfl (lv_at hl 3 rfl) ?_
  refine gLx (gLS S hgK hN hK hP hD hS hA hZ (c_L_square l D dA zp hfl b a ads fo fd σ τ (xs (i + 1).toNatClampNeg) H.size res er ht) kw_square (gt_3 (i := 134) rfl rfl) rfl hl.1 rfl ⟨rfl, rfl, Nat.le_of_ble_eq_true rfl, Nat.le_of_ble_eq_true rfl⟩ ⟨hcs.1, hcs.2⟩ (Nat.le_of_ble_eq_true rfl) dL_law_597) hD hS hA (fun r u ads H locs hp hP hD hS => ?_)
  obtain ⟨τ1, fo1, fd1⟩ := u
  obtain ⟨ht1, hI1, hg1⟩ := lans (tOne_u (by decide +kernel)) (tOne_z (by decide +kernel)) (fun _ => rfl) ea hp
  have hP : va_P D vwCl (wX dA b a ads fo1 fd1 σ τ1) H := hP
  have hD : va_D A (wX dA b a ads fo1 fd1 σ τ1) := hD
  refine lv_istore (lv' := [(6, .int r), (0, .ref b'), (1, .ref (a 0)), (2, .ref (b 0)), (3, .ref (b 8)), (4, .ref (b 9)), (5, .int i)]) hx hb dL_law_600 hl (by decide) rfl (fun ls hl => ?_)
  refine lv_aload_n hx hb dL_law_602 rfl (lv_at hl 3 rfl) ?_
  refine g_arg (k := 1) (k0 := 1) (k5 := 6) hx hb hX hbl hbA hS hl rfl rfl h1 dL_law_603 dL_law_604 dL_law_606 rfl dL_law_607 dL_law_608 ?_
  refine gmi (w1 := wX dA b a ads fo1 fd1 σ' τ1) (gmV S hgK hK hP hD hS hA hZ (gGri (ws' := wX dA b a ads fo1 fd1 σ' τ1) (c_m_square l D dA zp b σ (xs (i + 1).toNatClampNeg) H.size v σ' em) wX_M wX_M) k_X9_square (gt_8 (i := 0) rfl rfl) 2 rfl rfl rfl hl.1 rfl ⟨rfl, rfl, Nat.le_of_ble_eq_true rfl, Nat.le_of_ble_eq_true rfl⟩ ⟨hcs.1, hcs.2⟩ (Nat.le_of_ble_eq_true rfl) dL_law_609) hD hS hA (fun H locs hP hD hS => ?_)
  refine lv_istore (lv' := [(7, .int v), (6, .int r), (0, .ref b'), (1, .ref (a 0)), (2, .ref (b 0)), (3, .ref (b 8)), (4, .ref (b 9)), (5, .int i)]) hx hb dL_law_612 hl (by decide) rfl (fun ls hl => ?_)
  refine lv_aload_n hx hb dL_law_614 rfl (lv_at hl 4 rfl) ?_
  refine gci (gcV S hgK hK hP hS hZ (gGrR (c_m_thrown l D dA zp b σ' r (by rw [← ht1]; rfl)) wX_M) k_X9_thrown (gt_7 (i := 107) rfl rfl) 2 rfl rfl rfl hl.1 rfl ⟨rfl, rfl, Nat.le_of_ble_eq_true rfl, Nat.le_of_ble_eq_true rfl⟩ ⟨hcs.1, hcs.2⟩ (Nat.le_of_ble_eq_true rfl) dL_law_615) ?_
  refine lv_iload hx hb dL_law_618 (lv_at hl 1 rfl) ?_
  refine lv_icmp_eq (tgt := 625) hx hb dL_law_620 (by decide) (fun _ => ?_) (fun h9 => absurd rfl h9)
  refine lv_iload hx hb dL_law_625 (lv_at hl 1 rfl) ?_
  refine lv_if_ne (tgt := 642) hx hb dL_law_627 (by decide) (fun hne => ?_) (fun heq => ?_)
  · refine lv_goto (tgt := 2394) hx hb dL_law_642 (by decide) ?_
    exact K _ _ _ _ _ _ _ _ hI1 hP hD hS (lv_sub hl [2, 3, 4, 5, 6, 7] rfl)
  · obtain rfl : fo1 = vp_updL fo 0 v.toInt64 := congrArg (fun z => z.2.1) (hg1 heq)
    refine lv_aload_n hx hb dL_law_630 rfl (lv_at hl 5 rfl) ?_
    refine lv_iconst (v := 0) hx hb dL_law_631 (by decide) ?_
    refine g_lald (k := 0) hx hb hK hP 0 1 rfl rfl (by decide) (by decide) dL_law_632 ?_
    refine lv_iload hx hb dL_law_633 (lv_at hl 0 rfl) ?_
    refine lv_i2l (v := v.toInt64) hx hb dL_law_635 rfl ?_
    refine gl_eq (tgt := 642) hx hb dL_law_636 dL_law_637 (by decide) (fun _ => ?_) (fun h9 => absurd (if_pos rfl) h9)
    refine lv_goto (tgt := 2394) hx hb dL_law_642 (by decide) ?_
    exact K _ _ _ _ _ _ _ _ hI1 hP hD hS (lv_sub hl [2, 3, 4, 5, 6, 7] rfl)
set_option maxHeartbeats 4000000 in
set_option maxRecDepth 100000 in
theorem lc_7 {p : Program} {l : Launch} {e : Env} {s : State} {m : MethodId} {args : Array Value} {below : List Frame} {meth : Method} {c : Code} {D : va_G} {dA : Nat → ClassId} {zp : Nat → Nat} {A : Nat → Prop} {Q : State → Prop} {b' L : Nat} {xs : Nat → Int32} {a b : Nat → Nat} {i : Int32} {ads : gAd} {fo : Nat → Int64} {fd : Nat → UInt64} {σ : MS} {τ : RS} {H : Heap} {locs : List Loc} {ls : Array Slot} {cells slots : Nat}
    (C : lwC p l s m c args D dA zp A b' L xs) (h1 : vp_in (i + 1) L) (h2 : vp_in (i + 2) L) (h3 : vp_in (i + 3) L) (h4 : vp_in (i + 4) L) (hI : mOK σ τ) (hP : va_P D vwCl (wX dA b a ads fo fd σ τ) H) (hD : va_D A (wX dA b a ads fo fd σ τ)) (hS : va_S A s.heap H locs) (hl : lv_has ls 9 (lwL b' a b i)) (hcs : cells + 16 ≤ room_1.cells ∧ slots + 1300 ≤ room_1.slots)
    (K : lwK p l e s m args below meth c D dA A Q b' a b i 2394 (cells + 16) (slots + 1300)) : W p l e room_1 s m args below meth c H locs cells slots Q (F0 m 645 ls []) := by
  obtain ⟨S, hgK, hN, hK, hA, hZ, hfl, hX, hbl, hbA⟩ := C
  have S : CallFix p m c cL_law 9 s args gT RL := S
  obtain ⟨hx, hb, hml, hown, hts⟩ := id S
  have hl : lv_has ls 9 [(0, .ref b'), (1, .ref (a 0)), (2, .ref (b 0)), (3, .ref (b 8)), (4, .ref (b 9)), (5, .int i)] := hl
  obtain ⟨v, σ', τ1, em, er, hI1⟩ := e_clearParts hI
  refine lv_aload_n hx hb dL_law_645 rfl (lv_at hl 1 rfl) ?_
  refine gmiE (wf := fun ads => wX dA b a ads fo fd σ τ1) (gmV S hgK hK hP hD hS hA hZ (gGriE (wf' := fun ads => wX dA b a ads fo fd σ τ1) (c_r_clearParts l D dA zp a ads τ H.size v τ1 er) wX_R (fun ads => wX_R)) k_X8_clearParts (gt_2 (i := 50) rfl rfl) 10 rfl rfl rfl hl.1 rfl ⟨rfl, rfl, Nat.le_of_ble_eq_true rfl, Nat.le_of_ble_eq_true rfl⟩ ⟨Nat.le_trans (Nat.add_le_add_left (by decide) _) hcs.1, Nat.le_trans (Nat.add_le_add_left (by decide) _) hcs.2⟩ (Nat.le_of_ble_eq_true rfl) dL_law_646) hD hS hA (fun ads H locs hP hD hS => ?_)
  have hP : va_P D vwCl (wX dA b a ads fo fd σ τ1) H := hP
  have hD : va_D A (wX dA b a ads fo fd σ τ1) := hD
  refine lv_aload_n hx hb dL_law_649 rfl (lv_at hl 2 rfl) ?_
  refine gmi (w1 := wX dA b a ads fo fd σ' τ1) (gmV S hgK hK hP hD hS hA hZ (gGri (ws' := wX dA b a ads fo fd σ' τ1) (c_m_clearParts l D dA zp b σ H.size v σ' em) wX_M wX_M) k_X9_clearParts (gt_8 (i := 8) rfl rfl) 2 rfl rfl rfl hl.1 rfl ⟨rfl, rfl, Nat.le_of_ble_eq_true rfl, Nat.le_of_ble_eq_true rfl⟩ ⟨(show cells + 13 ≤ room_1.cells by omega), (show slots + 1213 ≤ room_1.slots by omega)⟩ (Nat.le_of_ble_eq_true rfl) dL_law_650) hD hS hA (fun H locs hP hD hS => ?_)
  refine lv_icmp_eq (tgt := 2394) hx hb dL_law_653 (by decide) (fun _ => ?_) (fun h9 => absurd rfl h9)
  exact W.widen (k := cells + 16) (n := slots + 1300) (by omega) (by omega) (K _ _ _ _ _ _ _ _ hI1 hP hD hS hl)
theorem kw_calibrate : gKWs yL_calibrate cL_calibrate 6 (some .int) hL_calibrate 5 := ⟨(gt_3 (i := 163) rfl rfl), (gt_1 (i := 0) rfl rfl), (gt_3 (i := 164) rfl rfl), by decide +kernel⟩
set_option maxHeartbeats 4000000 in
set_option maxRecDepth 100000 in
theorem lc_8 {p : Program} {l : Launch} {e : Env} {s : State} {m : MethodId} {args : Array Value} {below : List Frame} {meth : Method} {c : Code} {D : va_G} {dA : Nat → ClassId} {zp : Nat → Nat} {A : Nat → Prop} {Q : State → Prop} {b' L : Nat} {xs : Nat → Int32} {a b : Nat → Nat} {i : Int32} {ads : gAd} {fo : Nat → Int64} {fd : Nat → UInt64} {σ : MS} {τ : RS} {H : Heap} {locs : List Loc} {ls : Array Slot} {cells slots : Nat}
    (C : lwC p l s m c args D dA zp A b' L xs) (h1 : vp_in (i + 1) L) (h2 : vp_in (i + 2) L) (h3 : vp_in (i + 3) L) (h4 : vp_in (i + 4) L) (hI : mOK σ τ) (hP : va_P D vwCl (wX dA b a ads fo fd σ τ) H) (hD : va_D A (wX dA b a ads fo fd σ τ)) (hS : va_S A s.heap H locs) (hl : lv_has ls 9 (lwL b' a b i)) (hcs : cells + 16 ≤ room_1.cells ∧ slots + 1300 ≤ room_1.slots)
    (K : lwK p l e s m args below meth c D dA A Q b' a b i 2394 (cells + 16) (slots + 1300)) : W p l e room_1 s m args below meth c H locs cells slots Q (F0 m 658 ls []) := by
  obtain ⟨S, hgK, hN, hK, hA, hZ, hfl, hX, hbl, hbA⟩ := C
  have S : CallFix p m c cL_law 9 s args gT RL := S
  obtain ⟨hx, hb, hml, hown, hts⟩ := id S
  have hl : lv_has ls 9 [(0, .ref b'), (1, .ref (a 0)), (2, .ref (b 0)), (3, .ref (b 8)), (4, .ref (b 9)), (5, .int i)] := hl
  obtain ⟨v, σ', res, em, er, ea⟩ := e_calibrate hI (xs (i + 1).toNatClampNeg) (xs (i + 2).toNatClampNeg) (xs (i + 3).toNatClampNeg)
  have ht : ∀ E τ1, res = .inl (E, τ1) → E = eIOB ∨ E = eIAE ∨ E = eUOE := fun E τ1 h9 => mem3 (ansE ea E τ1 h9)
  refine lv_aload_n hx hb dL_law_658 rfl (lv_at hl 1 rfl) ?_
  refine g_arg (k := 1) (k0 := 0) (k5 := 5) hx hb hX hbl hbA hS hl rfl rfl h1 dL_law_659 dL_law_660 dL_law_662 rfl dL_law_663 dL_law_664 ?_
  refine g_arg (k := 2) (k0 := 0) (k5 := 5) hx hb hX hbl hbA hS hl rfl rfl h2 dL_law_665 dL_law_666 dL_law_668 rfl dL_law_669 dL_law_670 ?_
  refine g_arg (k := 3) (k0 := 0) (k5 := 5) hx hb hX hbl hbA hS hl rfl rfl h3 dL_law_671 dL_law_672 dL_law_674 rfl dL_law_675 dL_law_676 ?_
  refine lv_aload_n hx hb dL_law_677 rfl (lv_at hl 3 rfl) ?_
  refine gLx (gLS S hgK hN hK hP hD hS hA hZ (c_L_calibrate l D dA zp hfl b a ads fo fd σ τ (xs (i + 1).toNatClampNeg) (xs (i + 2).toNatClampNeg) (xs (i + 3).toNatClampNeg) H.size res er ht) kw_calibrate (gt_3 (i := 162) rfl rfl) rfl hl.1 rfl ⟨rfl, rfl, Nat.le_of_ble_eq_true rfl, Nat.le_of_ble_eq_true rfl⟩ ⟨hcs.1, hcs.2⟩ (Nat.le_of_ble_eq_true rfl) dL_law_678) hD hS hA (fun r u ads H locs hp hP hD hS => ?_)
  obtain ⟨τ1, fo1, fd1⟩ := u
  obtain ⟨ht1, hI1, hg1⟩ := lans (tOne_u (by decide +kernel)) (tOne_z (by decide +kernel)) (fun _ => rfl) ea hp
  have hP : va_P D vwCl (wX dA b a ads fo1 fd1 σ τ1) H := hP
  have hD : va_D A (wX dA b a ads fo1 fd1 σ τ1) := hD
  refine lv_istore (lv' := [(6, .int r), (0, .ref b'), (1, .ref (a 0)), (2, .ref (b 0)), (3, .ref (b 8)), (4, .ref (b 9)), (5, .int i)]) hx hb dL_law_681 hl (by decide) rfl (fun ls hl => ?_)
  refine lv_aload_n hx hb dL_law_683 rfl (lv_at hl 3 rfl) ?_
  refine g_arg (k := 1) (k0 := 1) (k5 := 6) hx hb hX hbl hbA hS hl rfl rfl h1 dL_law_684 dL_law_685 dL_law_687 rfl dL_law_688 dL_law_689 ?_
  refine g_arg (k := 2) (k0 := 1) (k5 := 6) hx hb hX hbl hbA hS hl rfl rfl h2 dL_law_690 dL_law_691 dL_law_693 rfl dL_law_694 dL_law_695 ?_
  refine g_arg (k := 3) (k0 := 1) (k5 := 6) hx hb hX hbl hbA hS hl rfl rfl h3 dL_law_696 dL_law_697 dL_law_699 rfl dL_law_700 dL_law_701 ?_
  refine gmi (w1 := wX dA b a ads fo1 fd1 σ' τ1) (gmV S hgK hK hP hD hS hA hZ (gGri (ws' := wX dA b a ads fo1 fd1 σ' τ1) (c_m_calibrate l D dA zp b σ (xs (i + 1).toNatClampNeg) (xs (i + 2).toNatClampNeg) (xs (i + 3).toNatClampNeg) H.size v σ' em) wX_M wX_M) k_X9_calibrate (gt_8 (i := 12) rfl rfl) 2 rfl rfl rfl hl.1 rfl ⟨rfl, rfl, Nat.le_of_ble_eq_true rfl, Nat.le_of_ble_eq_true rfl⟩ ⟨hcs.1, hcs.2⟩ (Nat.le_of_ble_eq_true rfl) dL_law_702) hD hS hA (fun H locs hP hD hS => ?_)
  refine lv_istore (lv' := [(7, .int v), (6, .int r), (0, .ref b'), (1, .ref (a 0)), (2, .ref (b 0)), (3, .ref (b 8)), (4, .ref (b 9)), (5, .int i)]) hx hb dL_law_705 hl (by decide) rfl (fun ls hl => ?_)
  refine lv_aload_n hx hb dL_law_707 rfl (lv_at hl 4 rfl) ?_
  refine gci (gcV S hgK hK hP hS hZ (gGrR (c_m_thrown l D dA zp b σ' r (by rw [← ht1]; rfl)) wX_M) k_X9_thrown (gt_7 (i := 107) rfl rfl) 2 rfl rfl rfl hl.1 rfl ⟨rfl, rfl, Nat.le_of_ble_eq_true rfl, Nat.le_of_ble_eq_true rfl⟩ ⟨hcs.1, hcs.2⟩ (Nat.le_of_ble_eq_true rfl) dL_law_708) ?_
  refine lv_iload hx hb dL_law_711 (lv_at hl 1 rfl) ?_
  refine lv_icmp_eq (tgt := 718) hx hb dL_law_713 (by decide) (fun _ => ?_) (fun h9 => absurd rfl h9)
  refine lv_iload hx hb dL_law_718 (lv_at hl 1 rfl) ?_
  refine lv_if_ne (tgt := 735) hx hb dL_law_720 (by decide) (fun hne => ?_) (fun heq => ?_)
  · refine lv_goto (tgt := 2394) hx hb dL_law_735 (by decide) ?_
    exact K _ _ _ _ _ _ _ _ hI1 hP hD hS (lv_sub hl [2, 3, 4, 5, 6, 7] rfl)
  · obtain rfl : fo1 = vp_updL fo 0 v.toInt64 := congrArg (fun z => z.2.1) (hg1 heq)
    refine lv_aload_n hx hb dL_law_723 rfl (lv_at hl 5 rfl) ?_
    refine lv_iconst (v := 0) hx hb dL_law_724 (by decide) ?_
    refine g_lald (k := 0) hx hb hK hP 0 1 rfl rfl (by decide) (by decide) dL_law_725 ?_
    refine lv_iload hx hb dL_law_726 (lv_at hl 0 rfl) ?_
    refine lv_i2l (v := v.toInt64) hx hb dL_law_728 rfl ?_
    refine gl_eq (tgt := 735) hx hb dL_law_729 dL_law_730 (by decide) (fun _ => ?_) (fun h9 => absurd (if_pos rfl) h9)
    refine lv_goto (tgt := 2394) hx hb dL_law_735 (by decide) ?_
    exact K _ _ _ _ _ _ _ _ hI1 hP hD hS (lv_sub hl [2, 3, 4, 5, 6, 7] rfl)
theorem kw_wouldRefuse : gKWs yL_wouldRefuse cL_wouldRefuse 5 (some .int) hL_wouldRefuse 4 := ⟨(gt_4 (i := 7) rfl rfl), (gt_1 (i := 0) rfl rfl), (gt_4 (i := 8) rfl rfl), by decide +kernel⟩
set_option maxHeartbeats 4000000 in
set_option maxRecDepth 100000 in
theorem lc_9 {p : Program} {l : Launch} {e : Env} {s : State} {m : MethodId} {args : Array Value} {below : List Frame} {meth : Method} {c : Code} {D : va_G} {dA : Nat → ClassId} {zp : Nat → Nat} {A : Nat → Prop} {Q : State → Prop} {b' L : Nat} {xs : Nat → Int32} {a b : Nat → Nat} {i : Int32} {ads : gAd} {fo : Nat → Int64} {fd : Nat → UInt64} {σ : MS} {τ : RS} {H : Heap} {locs : List Loc} {ls : Array Slot} {cells slots : Nat}
    (C : lwC p l s m c args D dA zp A b' L xs) (h1 : vp_in (i + 1) L) (h2 : vp_in (i + 2) L) (h3 : vp_in (i + 3) L) (h4 : vp_in (i + 4) L) (hI : mOK σ τ) (hP : va_P D vwCl (wX dA b a ads fo fd σ τ) H) (hD : va_D A (wX dA b a ads fo fd σ τ)) (hS : va_S A s.heap H locs) (hl : lv_has ls 9 (lwL b' a b i)) (hcs : cells + 16 ≤ room_1.cells ∧ slots + 1300 ≤ room_1.slots)
    (K : lwK p l e s m args below meth c D dA A Q b' a b i 2394 (cells + 16) (slots + 1300)) : W p l e room_1 s m args below meth c H locs cells slots Q (F0 m 738 ls []) := by
  obtain ⟨S, hgK, hN, hK, hA, hZ, hfl, hX, hbl, hbA⟩ := C
  have S : CallFix p m c cL_law 9 s args gT RL := S
  obtain ⟨hx, hb, hml, hown, hts⟩ := id S
  have hl : lv_has ls 9 [(0, .ref b'), (1, .ref (a 0)), (2, .ref (b 0)), (3, .ref (b 8)), (4, .ref (b 9)), (5, .int i)] := hl
  obtain ⟨v, σ', res, em, er, ea⟩ := e_wouldRefuse hI (xs (i + 1).toNatClampNeg) (xs (i + 2).toNatClampNeg)
  have ht : ∀ E τ1, res = .inl (E, τ1) → E = eIOB := fun E τ1 h9 => mem1 (ansE ea E τ1 h9)
  refine lv_aload_n hx hb dL_law_738 rfl (lv_at hl 1 rfl) ?_
  refine g_arg (k := 1) (k0 := 0) (k5 := 5) hx hb hX hbl hbA hS hl rfl rfl h1 dL_law_739 dL_law_740 dL_law_742 rfl dL_law_743 dL_law_744 ?_
  refine g_arg (k := 2) (k0 := 0) (k5 := 5) hx hb hX hbl hbA hS hl rfl rfl h2 dL_law_745 dL_law_746 dL_law_748 rfl dL_law_749 dL_law_750 ?_
  refine lv_aload_n hx hb dL_law_751 rfl (lv_at hl 3 rfl) ?_
  refine gLx (gLS S hgK hN hK hP hD hS hA hZ (c_L_wouldRefuse l D dA zp hfl b a ads fo fd σ τ (xs (i + 1).toNatClampNeg) (xs (i + 2).toNatClampNeg) H.size res er ht) kw_wouldRefuse (gt_4 (i := 6) rfl rfl) rfl hl.1 rfl ⟨rfl, rfl, Nat.le_of_ble_eq_true rfl, Nat.le_of_ble_eq_true rfl⟩ ⟨hcs.1, hcs.2⟩ (Nat.le_of_ble_eq_true rfl) dL_law_752) hD hS hA (fun r u ads H locs hp hP hD hS => ?_)
  obtain ⟨τ1, fo1, fd1⟩ := u
  obtain ⟨ht1, hI1, hg1⟩ := lans (tOne_u (by decide +kernel)) (tOne_z (by decide +kernel)) (fun _ => rfl) ea hp
  have hP : va_P D vwCl (wX dA b a ads fo1 fd1 σ τ1) H := hP
  have hD : va_D A (wX dA b a ads fo1 fd1 σ τ1) := hD
  refine lv_istore (lv' := [(6, .int r), (0, .ref b'), (1, .ref (a 0)), (2, .ref (b 0)), (3, .ref (b 8)), (4, .ref (b 9)), (5, .int i)]) hx hb dL_law_755 hl (by decide) rfl (fun ls hl => ?_)
  refine lv_aload_n hx hb dL_law_757 rfl (lv_at hl 3 rfl) ?_
  refine g_arg (k := 1) (k0 := 1) (k5 := 6) hx hb hX hbl hbA hS hl rfl rfl h1 dL_law_758 dL_law_759 dL_law_761 rfl dL_law_762 dL_law_763 ?_
  refine g_arg (k := 2) (k0 := 1) (k5 := 6) hx hb hX hbl hbA hS hl rfl rfl h2 dL_law_764 dL_law_765 dL_law_767 rfl dL_law_768 dL_law_769 ?_
  refine gmi (w1 := wX dA b a ads fo1 fd1 σ' τ1) (gmV S hgK hK hP hD hS hA hZ (gGri (ws' := wX dA b a ads fo1 fd1 σ' τ1) (c_m_wouldRefuse l D dA zp b σ (xs (i + 1).toNatClampNeg) (xs (i + 2).toNatClampNeg) H.size v σ' em) wX_M wX_M) k_X9_wouldRefuse (gt_8 (i := 43) rfl rfl) 2 rfl rfl rfl hl.1 rfl ⟨rfl, rfl, Nat.le_of_ble_eq_true rfl, Nat.le_of_ble_eq_true rfl⟩ ⟨hcs.1, hcs.2⟩ (Nat.le_of_ble_eq_true rfl) dL_law_770) hD hS hA (fun H locs hP hD hS => ?_)
  refine lv_istore (lv' := [(7, .int v), (6, .int r), (0, .ref b'), (1, .ref (a 0)), (2, .ref (b 0)), (3, .ref (b 8)), (4, .ref (b 9)), (5, .int i)]) hx hb dL_law_773 hl (by decide) rfl (fun ls hl => ?_)
  refine lv_aload_n hx hb dL_law_775 rfl (lv_at hl 4 rfl) ?_
  refine gci (gcV S hgK hK hP hS hZ (gGrR (c_m_thrown l D dA zp b σ' r (by rw [← ht1]; rfl)) wX_M) k_X9_thrown (gt_7 (i := 107) rfl rfl) 2 rfl rfl rfl hl.1 rfl ⟨rfl, rfl, Nat.le_of_ble_eq_true rfl, Nat.le_of_ble_eq_true rfl⟩ ⟨hcs.1, hcs.2⟩ (Nat.le_of_ble_eq_true rfl) dL_law_776) ?_
  refine lv_iload hx hb dL_law_779 (lv_at hl 1 rfl) ?_
  refine lv_icmp_eq (tgt := 786) hx hb dL_law_781 (by decide) (fun _ => ?_) (fun h9 => absurd rfl h9)
  refine lv_iload hx hb dL_law_786 (lv_at hl 1 rfl) ?_
  refine lv_if_ne (tgt := 803) hx hb dL_law_788 (by decide) (fun hne => ?_) (fun heq => ?_)
  · refine lv_goto (tgt := 2394) hx hb dL_law_803 (by decide) ?_
    exact K _ _ _ _ _ _ _ _ hI1 hP hD hS (lv_sub hl [2, 3, 4, 5, 6, 7] rfl)
  · obtain rfl : fo1 = vp_updL fo 0 v.toInt64 := congrArg (fun z => z.2.1) (hg1 heq)
    refine lv_aload_n hx hb dL_law_791 rfl (lv_at hl 5 rfl) ?_
    refine lv_iconst (v := 0) hx hb dL_law_792 (by decide) ?_
    refine g_lald (k := 0) hx hb hK hP 0 1 rfl rfl (by decide) (by decide) dL_law_793 ?_
    refine lv_iload hx hb dL_law_794 (lv_at hl 0 rfl) ?_
    refine lv_i2l (v := v.toInt64) hx hb dL_law_796 rfl ?_
    refine gl_eq (tgt := 803) hx hb dL_law_797 dL_law_798 (by decide) (fun _ => ?_) (fun h9 => absurd (if_pos rfl) h9)
    refine lv_goto (tgt := 2394) hx hb dL_law_803 (by decide) ?_
    exact K _ _ _ _ _ _ _ _ hI1 hP hD hS (lv_sub hl [2, 3, 4, 5, 6, 7] rfl)
theorem kw_best : gKWs yL_best cL_best 4 (some .int) hL_best 3 := ⟨(gt_4 (i := 14) rfl rfl), (gt_1 (i := 0) rfl rfl), (gt_4 (i := 15) rfl rfl), by decide +kernel⟩
set_option maxHeartbeats 4000000 in
set_option maxRecDepth 100000 in
theorem lc_10 {p : Program} {l : Launch} {e : Env} {s : State} {m : MethodId} {args : Array Value} {below : List Frame} {meth : Method} {c : Code} {D : va_G} {dA : Nat → ClassId} {zp : Nat → Nat} {A : Nat → Prop} {Q : State → Prop} {b' L : Nat} {xs : Nat → Int32} {a b : Nat → Nat} {i : Int32} {ads : gAd} {fo : Nat → Int64} {fd : Nat → UInt64} {σ : MS} {τ : RS} {H : Heap} {locs : List Loc} {ls : Array Slot} {cells slots : Nat}
    (C : lwC p l s m c args D dA zp A b' L xs) (h1 : vp_in (i + 1) L) (h2 : vp_in (i + 2) L) (h3 : vp_in (i + 3) L) (h4 : vp_in (i + 4) L) (hI : mOK σ τ) (hP : va_P D vwCl (wX dA b a ads fo fd σ τ) H) (hD : va_D A (wX dA b a ads fo fd σ τ)) (hS : va_S A s.heap H locs) (hl : lv_has ls 9 (lwL b' a b i)) (hcs : cells + 16 ≤ room_1.cells ∧ slots + 1300 ≤ room_1.slots)
    (K : lwK p l e s m args below meth c D dA A Q b' a b i 2394 (cells + 16) (slots + 1300)) : W p l e room_1 s m args below meth c H locs cells slots Q (F0 m 806 ls []) := by
  obtain ⟨S, hgK, hN, hK, hA, hZ, hfl, hX, hbl, hbA⟩ := C
  have S : CallFix p m c cL_law 9 s args gT RL := S
  obtain ⟨hx, hb, hml, hown, hts⟩ := id S
  have hl : lv_has ls 9 [(0, .ref b'), (1, .ref (a 0)), (2, .ref (b 0)), (3, .ref (b 8)), (4, .ref (b 9)), (5, .int i)] := hl
  obtain ⟨v, σ', res, em, er, ea⟩ := e_best hI (xs (i + 1).toNatClampNeg)
  have ht : ∀ E τ1, res = .inl (E, τ1) → E = eIOB ∨ E = eNSE := fun E τ1 h9 => mem2 (ansE ea E τ1 h9)
  refine lv_aload_n hx hb dL_law_806 rfl (lv_at hl 1 rfl) ?_
  refine g_arg (k := 1) (k0 := 0) (k5 := 5) hx hb hX hbl hbA hS hl rfl rfl h1 dL_law_807 dL_law_808 dL_law_810 rfl dL_law_811 dL_law_812 ?_
  refine lv_aload_n hx hb dL_law_813 rfl (lv_at hl 3 rfl) ?_
  refine gLx (gLS S hgK hN hK hP hD hS hA hZ (c_L_best l D dA zp hfl b a ads fo fd σ τ (xs (i + 1).toNatClampNeg) H.size res er ht) kw_best (gt_4 (i := 13) rfl rfl) rfl hl.1 rfl ⟨rfl, rfl, Nat.le_of_ble_eq_true rfl, Nat.le_of_ble_eq_true rfl⟩ ⟨hcs.1, hcs.2⟩ (Nat.le_of_ble_eq_true rfl) dL_law_814) hD hS hA (fun r u ads H locs hp hP hD hS => ?_)
  obtain ⟨τ1, fo1, fd1⟩ := u
  obtain ⟨ht1, hI1, hg1⟩ := lans (tOne_u (by decide +kernel)) (tOne_z (by decide +kernel)) (fun _ => rfl) ea hp
  have hP : va_P D vwCl (wX dA b a ads fo1 fd1 σ τ1) H := hP
  have hD : va_D A (wX dA b a ads fo1 fd1 σ τ1) := hD
  refine lv_istore (lv' := [(6, .int r), (0, .ref b'), (1, .ref (a 0)), (2, .ref (b 0)), (3, .ref (b 8)), (4, .ref (b 9)), (5, .int i)]) hx hb dL_law_817 hl (by decide) rfl (fun ls hl => ?_)
  refine lv_aload_n hx hb dL_law_819 rfl (lv_at hl 3 rfl) ?_
  refine g_arg (k := 1) (k0 := 1) (k5 := 6) hx hb hX hbl hbA hS hl rfl rfl h1 dL_law_820 dL_law_821 dL_law_823 rfl dL_law_824 dL_law_825 ?_
  refine gmi (w1 := wX dA b a ads fo1 fd1 σ' τ1) (gmV S hgK hK hP hD hS hA hZ (gGri (ws' := wX dA b a ads fo1 fd1 σ' τ1) (c_m_best l D dA zp b σ (xs (i + 1).toNatClampNeg) H.size v σ' em) wX_M wX_M) k_X9_best (gt_8 (i := 47) rfl rfl) 2 rfl rfl rfl hl.1 rfl ⟨rfl, rfl, Nat.le_of_ble_eq_true rfl, Nat.le_of_ble_eq_true rfl⟩ ⟨hcs.1, hcs.2⟩ (Nat.le_of_ble_eq_true rfl) dL_law_826) hD hS hA (fun H locs hP hD hS => ?_)
  refine lv_istore (lv' := [(7, .int v), (6, .int r), (0, .ref b'), (1, .ref (a 0)), (2, .ref (b 0)), (3, .ref (b 8)), (4, .ref (b 9)), (5, .int i)]) hx hb dL_law_829 hl (by decide) rfl (fun ls hl => ?_)
  refine lv_aload_n hx hb dL_law_831 rfl (lv_at hl 4 rfl) ?_
  refine gci (gcV S hgK hK hP hS hZ (gGrR (c_m_thrown l D dA zp b σ' r (by rw [← ht1]; rfl)) wX_M) k_X9_thrown (gt_7 (i := 107) rfl rfl) 2 rfl rfl rfl hl.1 rfl ⟨rfl, rfl, Nat.le_of_ble_eq_true rfl, Nat.le_of_ble_eq_true rfl⟩ ⟨hcs.1, hcs.2⟩ (Nat.le_of_ble_eq_true rfl) dL_law_832) ?_
  refine lv_iload hx hb dL_law_835 (lv_at hl 1 rfl) ?_
  refine lv_icmp_eq (tgt := 842) hx hb dL_law_837 (by decide) (fun _ => ?_) (fun h9 => absurd rfl h9)
  refine lv_iload hx hb dL_law_842 (lv_at hl 1 rfl) ?_
  refine lv_if_ne (tgt := 859) hx hb dL_law_844 (by decide) (fun hne => ?_) (fun heq => ?_)
  · refine lv_goto (tgt := 2394) hx hb dL_law_859 (by decide) ?_
    exact K _ _ _ _ _ _ _ _ hI1 hP hD hS (lv_sub hl [2, 3, 4, 5, 6, 7] rfl)
  · obtain rfl : fo1 = vp_updL fo 0 v.toInt64 := congrArg (fun z => z.2.1) (hg1 heq)
    refine lv_aload_n hx hb dL_law_847 rfl (lv_at hl 5 rfl) ?_
    refine lv_iconst (v := 0) hx hb dL_law_848 (by decide) ?_
    refine g_lald (k := 0) hx hb hK hP 0 1 rfl rfl (by decide) (by decide) dL_law_849 ?_
    refine lv_iload hx hb dL_law_850 (lv_at hl 0 rfl) ?_
    refine lv_i2l (v := v.toInt64) hx hb dL_law_852 rfl ?_
    refine gl_eq (tgt := 859) hx hb dL_law_853 dL_law_854 (by decide) (fun _ => ?_) (fun h9 => absurd (if_pos rfl) h9)
    refine lv_goto (tgt := 2394) hx hb dL_law_859 (by decide) ?_
    exact K _ _ _ _ _ _ _ _ hI1 hP hD hS (lv_sub hl [2, 3, 4, 5, 6, 7] rfl)
theorem kw_calibration : gKWs yL_calibration cL_calibration 5 (some .int) hL_calibration 4 := ⟨(gt_4 (i := 23) rfl rfl), (gt_1 (i := 0) rfl rfl), (gt_4 (i := 24) rfl rfl), by decide +kernel⟩
set_option maxHeartbeats 4000000 in
set_option maxRecDepth 100000 in
theorem lc_11 {p : Program} {l : Launch} {e : Env} {s : State} {m : MethodId} {args : Array Value} {below : List Frame} {meth : Method} {c : Code} {D : va_G} {dA : Nat → ClassId} {zp : Nat → Nat} {A : Nat → Prop} {Q : State → Prop} {b' L : Nat} {xs : Nat → Int32} {a b : Nat → Nat} {i : Int32} {ads : gAd} {fo : Nat → Int64} {fd : Nat → UInt64} {σ : MS} {τ : RS} {H : Heap} {locs : List Loc} {ls : Array Slot} {cells slots : Nat}
    (C : lwC p l s m c args D dA zp A b' L xs) (h1 : vp_in (i + 1) L) (h2 : vp_in (i + 2) L) (h3 : vp_in (i + 3) L) (h4 : vp_in (i + 4) L) (hI : mOK σ τ) (hP : va_P D vwCl (wX dA b a ads fo fd σ τ) H) (hD : va_D A (wX dA b a ads fo fd σ τ)) (hS : va_S A s.heap H locs) (hl : lv_has ls 9 (lwL b' a b i)) (hcs : cells + 16 ≤ room_1.cells ∧ slots + 1300 ≤ room_1.slots)
    (K : lwK p l e s m args below meth c D dA A Q b' a b i 2394 (cells + 16) (slots + 1300)) : W p l e room_1 s m args below meth c H locs cells slots Q (F0 m 862 ls []) := by
  obtain ⟨S, hgK, hN, hK, hA, hZ, hfl, hX, hbl, hbA⟩ := C
  have S : CallFix p m c cL_law 9 s args gT RL := S
  obtain ⟨hx, hb, hml, hown, hts⟩ := id S
  have hl : lv_has ls 9 [(0, .ref b'), (1, .ref (a 0)), (2, .ref (b 0)), (3, .ref (b 8)), (4, .ref (b 9)), (5, .int i)] := hl
  obtain ⟨v, σ', res, em, er, ea⟩ := e_calibration hI (xs (i + 1).toNatClampNeg) (xs (i + 2).toNatClampNeg)
  have ht : ∀ E τ1, res = .inl (E, τ1) → E = eIOB ∨ E = eIAE := fun E τ1 h9 => mem2 (ansE ea E τ1 h9)
  refine lv_aload_n hx hb dL_law_862 rfl (lv_at hl 1 rfl) ?_
  refine g_arg (k := 1) (k0 := 0) (k5 := 5) hx hb hX hbl hbA hS hl rfl rfl h1 dL_law_863 dL_law_864 dL_law_866 rfl dL_law_867 dL_law_868 ?_
  refine g_arg (k := 2) (k0 := 0) (k5 := 5) hx hb hX hbl hbA hS hl rfl rfl h2 dL_law_869 dL_law_870 dL_law_872 rfl dL_law_873 dL_law_874 ?_
  refine lv_aload_n hx hb dL_law_875 rfl (lv_at hl 3 rfl) ?_
  refine gLx (gLS S hgK hN hK hP hD hS hA hZ (c_L_calibration l D dA zp hfl b a ads fo fd σ τ (xs (i + 1).toNatClampNeg) (xs (i + 2).toNatClampNeg) H.size res er ht) kw_calibration (gt_4 (i := 22) rfl rfl) rfl hl.1 rfl ⟨rfl, rfl, Nat.le_of_ble_eq_true rfl, Nat.le_of_ble_eq_true rfl⟩ ⟨hcs.1, hcs.2⟩ (Nat.le_of_ble_eq_true rfl) dL_law_876) hD hS hA (fun r u ads H locs hp hP hD hS => ?_)
  obtain ⟨τ1, fo1, fd1⟩ := u
  obtain ⟨ht1, hI1, hg1⟩ := lans (tOne_u (by decide +kernel)) (tOne_z (by decide +kernel)) (fun _ => rfl) ea hp
  have hP : va_P D vwCl (wX dA b a ads fo1 fd1 σ τ1) H := hP
  have hD : va_D A (wX dA b a ads fo1 fd1 σ τ1) := hD
  refine lv_istore (lv' := [(6, .int r), (0, .ref b'), (1, .ref (a 0)), (2, .ref (b 0)), (3, .ref (b 8)), (4, .ref (b 9)), (5, .int i)]) hx hb dL_law_879 hl (by decide) rfl (fun ls hl => ?_)
  refine lv_aload_n hx hb dL_law_881 rfl (lv_at hl 3 rfl) ?_
  refine g_arg (k := 1) (k0 := 1) (k5 := 6) hx hb hX hbl hbA hS hl rfl rfl h1 dL_law_882 dL_law_883 dL_law_885 rfl dL_law_886 dL_law_887 ?_
  refine g_arg (k := 2) (k0 := 1) (k5 := 6) hx hb hX hbl hbA hS hl rfl rfl h2 dL_law_888 dL_law_889 dL_law_891 rfl dL_law_892 dL_law_893 ?_
  refine gmi (w1 := wX dA b a ads fo1 fd1 σ' τ1) (gmV S hgK hK hP hD hS hA hZ (gGri (ws' := wX dA b a ads fo1 fd1 σ' τ1) (c_m_calibration l D dA zp b σ (xs (i + 1).toNatClampNeg) (xs (i + 2).toNatClampNeg) H.size v σ' em) wX_M wX_M) k_X9_calibration (gt_8 (i := 51) rfl rfl) 2 rfl rfl rfl hl.1 rfl ⟨rfl, rfl, Nat.le_of_ble_eq_true rfl, Nat.le_of_ble_eq_true rfl⟩ ⟨hcs.1, hcs.2⟩ (Nat.le_of_ble_eq_true rfl) dL_law_894) hD hS hA (fun H locs hP hD hS => ?_)
  refine lv_istore (lv' := [(7, .int v), (6, .int r), (0, .ref b'), (1, .ref (a 0)), (2, .ref (b 0)), (3, .ref (b 8)), (4, .ref (b 9)), (5, .int i)]) hx hb dL_law_897 hl (by decide) rfl (fun ls hl => ?_)
  refine lv_aload_n hx hb dL_law_899 rfl (lv_at hl 4 rfl) ?_
  refine gci (gcV S hgK hK hP hS hZ (gGrR (c_m_thrown l D dA zp b σ' r (by rw [← ht1]; rfl)) wX_M) k_X9_thrown (gt_7 (i := 107) rfl rfl) 2 rfl rfl rfl hl.1 rfl ⟨rfl, rfl, Nat.le_of_ble_eq_true rfl, Nat.le_of_ble_eq_true rfl⟩ ⟨hcs.1, hcs.2⟩ (Nat.le_of_ble_eq_true rfl) dL_law_900) ?_
  refine lv_iload hx hb dL_law_903 (lv_at hl 1 rfl) ?_
  refine lv_icmp_eq (tgt := 910) hx hb dL_law_905 (by decide) (fun _ => ?_) (fun h9 => absurd rfl h9)
  refine lv_iload hx hb dL_law_910 (lv_at hl 1 rfl) ?_
  refine lv_if_ne (tgt := 927) hx hb dL_law_912 (by decide) (fun hne => ?_) (fun heq => ?_)
  · refine lv_goto (tgt := 2394) hx hb dL_law_927 (by decide) ?_
    exact K _ _ _ _ _ _ _ _ hI1 hP hD hS (lv_sub hl [2, 3, 4, 5, 6, 7] rfl)
  · obtain rfl : fo1 = vp_updL fo 0 v.toInt64 := congrArg (fun z => z.2.1) (hg1 heq)
    refine lv_aload_n hx hb dL_law_915 rfl (lv_at hl 5 rfl) ?_
    refine lv_iconst (v := 0) hx hb dL_law_916 (by decide) ?_
    refine g_lald (k := 0) hx hb hK hP 0 1 rfl rfl (by decide) (by decide) dL_law_917 ?_
    refine lv_iload hx hb dL_law_918 (lv_at hl 0 rfl) ?_
    refine lv_i2l (v := v.toInt64) hx hb dL_law_920 rfl ?_
    refine gl_eq (tgt := 927) hx hb dL_law_921 dL_law_922 (by decide) (fun _ => ?_) (fun h9 => absurd (if_pos rfl) h9)
    refine lv_goto (tgt := 2394) hx hb dL_law_927 (by decide) ?_
    exact K _ _ _ _ _ _ _ _ hI1 hP hD hS (lv_sub hl [2, 3, 4, 5, 6, 7] rfl)
theorem kw_variance : gKWs yL_variance cL_variance 5 (some .int) hL_variance 4 := ⟨(gt_4 (i := 48) rfl rfl), (gt_1 (i := 0) rfl rfl), (gt_4 (i := 49) rfl rfl), by decide +kernel⟩
set_option maxHeartbeats 4000000 in
set_option maxRecDepth 100000 in
theorem lc_12 {p : Program} {l : Launch} {e : Env} {s : State} {m : MethodId} {args : Array Value} {below : List Frame} {meth : Method} {c : Code} {D : va_G} {dA : Nat → ClassId} {zp : Nat → Nat} {A : Nat → Prop} {Q : State → Prop} {b' L : Nat} {xs : Nat → Int32} {a b : Nat → Nat} {i : Int32} {ads : gAd} {fo : Nat → Int64} {fd : Nat → UInt64} {σ : MS} {τ : RS} {H : Heap} {locs : List Loc} {ls : Array Slot} {cells slots : Nat}
    (C : lwC p l s m c args D dA zp A b' L xs) (h1 : vp_in (i + 1) L) (h2 : vp_in (i + 2) L) (h3 : vp_in (i + 3) L) (h4 : vp_in (i + 4) L) (hI : mOK σ τ) (hP : va_P D vwCl (wX dA b a ads fo fd σ τ) H) (hD : va_D A (wX dA b a ads fo fd σ τ)) (hS : va_S A s.heap H locs) (hl : lv_has ls 9 (lwL b' a b i)) (hcs : cells + 16 ≤ room_1.cells ∧ slots + 1300 ≤ room_1.slots)
    (K : lwK p l e s m args below meth c D dA A Q b' a b i 2394 (cells + 16) (slots + 1300)) : W p l e room_1 s m args below meth c H locs cells slots Q (F0 m 930 ls []) := by
  obtain ⟨S, hgK, hN, hK, hA, hZ, hfl, hX, hbl, hbA⟩ := C
  have S : CallFix p m c cL_law 9 s args gT RL := S
  obtain ⟨hx, hb, hml, hown, hts⟩ := id S
  have hl : lv_has ls 9 [(0, .ref b'), (1, .ref (a 0)), (2, .ref (b 0)), (3, .ref (b 8)), (4, .ref (b 9)), (5, .int i)] := hl
  obtain ⟨v, σ', res, em, er, ea⟩ := e_variance hI (xs (i + 1).toNatClampNeg) (decide ((xs (i + 2).toNatClampNeg) ≠ 0))
  have ht : ∀ E τ1, res = .inl (E, τ1) → E = eIOB := fun E τ1 h9 => mem1 (ansE ea E τ1 h9)
  refine lv_aload_n hx hb dL_law_930 rfl (lv_at hl 1 rfl) ?_
  refine g_arg (k := 1) (k0 := 0) (k5 := 5) hx hb hX hbl hbA hS hl rfl rfl h1 dL_law_931 dL_law_932 dL_law_934 rfl dL_law_935 dL_law_936 ?_
  refine g_arg (k := 2) (k0 := 0) (k5 := 5) hx hb hX hbl hbA hS hl rfl rfl h2 dL_law_937 dL_law_938 dL_law_940 rfl dL_law_941 dL_law_942 ?_
  refine g_bool (tgt := 950) (j := 951) hx hb dL_law_943 (by decide) dL_law_946 dL_law_947 (by decide) dL_law_950 rfl ?_
  refine lv_aload_n hx hb dL_law_951 rfl (lv_at hl 3 rfl) ?_
  refine gLx (gLS S hgK hN hK hP hD hS hA hZ (c_L_variance l D dA zp hfl b a ads fo fd σ τ (xs (i + 1).toNatClampNeg) (decide ((xs (i + 2).toNatClampNeg) ≠ 0)) H.size res er ht) kw_variance (gt_4 (i := 47) rfl rfl) rfl hl.1 rfl ⟨rfl, rfl, Nat.le_of_ble_eq_true rfl, Nat.le_of_ble_eq_true rfl⟩ ⟨hcs.1, hcs.2⟩ (Nat.le_of_ble_eq_true rfl) dL_law_952) hD hS hA (fun r u ads H locs hp hP hD hS => ?_)
  obtain ⟨τ1, fo1, fd1⟩ := u
  obtain ⟨ht1, hI1, hg1⟩ := lans (tOne_u (by decide +kernel)) (tOne_z (by decide +kernel)) (fun _ => rfl) ea hp
  have hP : va_P D vwCl (wX dA b a ads fo1 fd1 σ τ1) H := hP
  have hD : va_D A (wX dA b a ads fo1 fd1 σ τ1) := hD
  refine lv_istore (lv' := [(6, .int r), (0, .ref b'), (1, .ref (a 0)), (2, .ref (b 0)), (3, .ref (b 8)), (4, .ref (b 9)), (5, .int i)]) hx hb dL_law_955 hl (by decide) rfl (fun ls hl => ?_)
  refine lv_aload_n hx hb dL_law_957 rfl (lv_at hl 3 rfl) ?_
  refine g_arg (k := 1) (k0 := 1) (k5 := 6) hx hb hX hbl hbA hS hl rfl rfl h1 dL_law_958 dL_law_959 dL_law_961 rfl dL_law_962 dL_law_963 ?_
  refine g_arg (k := 2) (k0 := 1) (k5 := 6) hx hb hX hbl hbA hS hl rfl rfl h2 dL_law_964 dL_law_965 dL_law_967 rfl dL_law_968 dL_law_969 ?_
  refine g_bool (tgt := 977) (j := 978) hx hb dL_law_970 (by decide) dL_law_973 dL_law_974 (by decide) dL_law_977 rfl ?_
  refine gml (w1 := wX dA b a ads fo1 fd1 σ' τ1) (gmV S hgK hK hP hD hS hA hZ (gGrl (ws' := wX dA b a ads fo1 fd1 σ' τ1) (c_m_variance l D dA zp b σ (xs (i + 1).toNatClampNeg) (decide ((xs (i + 2).toNatClampNeg) ≠ 0)) H.size v σ' em) wX_M wX_M) k_X9_variance (gt_8 (i := 64) rfl rfl) 2 rfl rfl rfl hl.1 rfl ⟨rfl, rfl, Nat.le_of_ble_eq_true rfl, Nat.le_of_ble_eq_true rfl⟩ ⟨hcs.1, hcs.2⟩ (Nat.le_of_ble_eq_true rfl) dL_law_978) hD hS hA (fun H locs hP hD hS => ?_)
  refine lv_lstore (lv' := [(7, .long v), (6, .int r), (0, .ref b'), (1, .ref (a 0)), (2, .ref (b 0)), (3, .ref (b 8)), (4, .ref (b 9)), (5, .int i)]) hx hb dL_law_981 hl (by decide) rfl (fun ls hl => ?_)
  refine lv_aload_n hx hb dL_law_983 rfl (lv_at hl 4 rfl) ?_
  refine gci (gcV S hgK hK hP hS hZ (gGrR (c_m_thrown l D dA zp b σ' r (by rw [← ht1]; rfl)) wX_M) k_X9_thrown (gt_7 (i := 107) rfl rfl) 2 rfl rfl rfl hl.1 rfl ⟨rfl, rfl, Nat.le_of_ble_eq_true rfl, Nat.le_of_ble_eq_true rfl⟩ ⟨hcs.1, hcs.2⟩ (Nat.le_of_ble_eq_true rfl) dL_law_984) ?_
  refine lv_iload hx hb dL_law_987 (lv_at hl 1 rfl) ?_
  refine lv_icmp_eq (tgt := 994) hx hb dL_law_989 (by decide) (fun _ => ?_) (fun h9 => absurd rfl h9)
  refine lv_iload hx hb dL_law_994 (lv_at hl 1 rfl) ?_
  refine lv_if_ne (tgt := 1010) hx hb dL_law_996 (by decide) (fun hne => ?_) (fun heq => ?_)
  · refine lv_goto (tgt := 2394) hx hb dL_law_1010 (by decide) ?_
    exact K _ _ _ _ _ _ _ _ hI1 hP hD hS (lv_sub hl [2, 3, 4, 5, 6, 7] rfl)
  · obtain rfl : fo1 = vp_updL fo 0 v := congrArg (fun z => z.2.1) (hg1 heq)
    refine lv_aload_n hx hb dL_law_999 rfl (lv_at hl 5 rfl) ?_
    refine lv_iconst (v := 0) hx hb dL_law_1000 (by decide) ?_
    refine g_lald (k := 0) hx hb hK hP 0 1 rfl rfl (by decide) (by decide) dL_law_1001 ?_
    refine lv_lload hx hb dL_law_1002 (lv_at hl 0 rfl) ?_
    refine gl_eq (tgt := 1010) hx hb dL_law_1004 dL_law_1005 (by decide) (fun _ => ?_) (fun h9 => absurd (if_pos rfl) h9)
    refine lv_goto (tgt := 2394) hx hb dL_law_1010 (by decide) ?_
    exact K _ _ _ _ _ _ _ _ hI1 hP hD hS (lv_sub hl [2, 3, 4, 5, 6, 7] rfl)
theorem kw_alongChain : gKWs yL_alongChain cL_alongChain 4 (some .int) hL_alongChain 3 := ⟨(gt_4 (i := 55) rfl rfl), (gt_1 (i := 0) rfl rfl), (gt_4 (i := 56) rfl rfl), by decide +kernel⟩
set_option maxHeartbeats 4000000 in
set_option maxRecDepth 100000 in
theorem lc_13 {p : Program} {l : Launch} {e : Env} {s : State} {m : MethodId} {args : Array Value} {below : List Frame} {meth : Method} {c : Code} {D : va_G} {dA : Nat → ClassId} {zp : Nat → Nat} {A : Nat → Prop} {Q : State → Prop} {b' L : Nat} {xs : Nat → Int32} {a b : Nat → Nat} {i : Int32} {ads : gAd} {fo : Nat → Int64} {fd : Nat → UInt64} {σ : MS} {τ : RS} {H : Heap} {locs : List Loc} {ls : Array Slot} {cells slots : Nat}
    (C : lwC p l s m c args D dA zp A b' L xs) (h1 : vp_in (i + 1) L) (h2 : vp_in (i + 2) L) (h3 : vp_in (i + 3) L) (h4 : vp_in (i + 4) L) (hI : mOK σ τ) (hP : va_P D vwCl (wX dA b a ads fo fd σ τ) H) (hD : va_D A (wX dA b a ads fo fd σ τ)) (hS : va_S A s.heap H locs) (hl : lv_has ls 9 (lwL b' a b i)) (hcs : cells + 16 ≤ room_1.cells ∧ slots + 1300 ≤ room_1.slots)
    (K : lwK p l e s m args below meth c D dA A Q b' a b i 2394 (cells + 16) (slots + 1300)) : W p l e room_1 s m args below meth c H locs cells slots Q (F0 m 1013 ls []) := by
  obtain ⟨S, hgK, hN, hK, hA, hZ, hfl, hX, hbl, hbA⟩ := C
  have S : CallFix p m c cL_law 9 s args gT RL := S
  obtain ⟨hx, hb, hml, hown, hts⟩ := id S
  have hl : lv_has ls 9 [(0, .ref b'), (1, .ref (a 0)), (2, .ref (b 0)), (3, .ref (b 8)), (4, .ref (b 9)), (5, .int i)] := hl
  obtain ⟨v, σ', res, em, er, ea⟩ := e_alongChain hI (xs (i + 1).toNatClampNeg)
  have ht : ∀ E τ1, res = .inl (E, τ1) → E = eIOB := fun E τ1 h9 => mem1 (ansE ea E τ1 h9)
  refine lv_aload_n hx hb dL_law_1013 rfl (lv_at hl 1 rfl) ?_
  refine g_arg (k := 1) (k0 := 0) (k5 := 5) hx hb hX hbl hbA hS hl rfl rfl h1 dL_law_1014 dL_law_1015 dL_law_1017 rfl dL_law_1018 dL_law_1019 ?_
  refine lv_aload_n hx hb dL_law_1020 rfl (lv_at hl 3 rfl) ?_
  refine gLx (gLS S hgK hN hK hP hD hS hA hZ (c_L_alongChain l D dA zp hfl b a ads fo fd σ τ (xs (i + 1).toNatClampNeg) H.size res er ht) kw_alongChain (gt_4 (i := 54) rfl rfl) rfl hl.1 rfl ⟨rfl, rfl, Nat.le_of_ble_eq_true rfl, Nat.le_of_ble_eq_true rfl⟩ ⟨hcs.1, hcs.2⟩ (Nat.le_of_ble_eq_true rfl) dL_law_1021) hD hS hA (fun r u ads H locs hp hP hD hS => ?_)
  obtain ⟨τ1, fo1, fd1⟩ := u
  obtain ⟨ht1, hI1, hg1⟩ := lans (tOne_u (by decide +kernel)) (tOne_z (by decide +kernel)) (fun _ => rfl) ea hp
  have hP : va_P D vwCl (wX dA b a ads fo1 fd1 σ τ1) H := hP
  have hD : va_D A (wX dA b a ads fo1 fd1 σ τ1) := hD
  refine lv_istore (lv' := [(6, .int r), (0, .ref b'), (1, .ref (a 0)), (2, .ref (b 0)), (3, .ref (b 8)), (4, .ref (b 9)), (5, .int i)]) hx hb dL_law_1024 hl (by decide) rfl (fun ls hl => ?_)
  refine lv_aload_n hx hb dL_law_1026 rfl (lv_at hl 3 rfl) ?_
  refine g_arg (k := 1) (k0 := 1) (k5 := 6) hx hb hX hbl hbA hS hl rfl rfl h1 dL_law_1027 dL_law_1028 dL_law_1030 rfl dL_law_1031 dL_law_1032 ?_
  refine gml (w1 := wX dA b a ads fo1 fd1 σ' τ1) (gmV S hgK hK hP hD hS hA hZ (gGrl (ws' := wX dA b a ads fo1 fd1 σ' τ1) (c_m_alongChain l D dA zp b σ (xs (i + 1).toNatClampNeg) H.size v σ' em) wX_M wX_M) k_X9_alongChain (gt_8 (i := 72) rfl rfl) 2 rfl rfl rfl hl.1 rfl ⟨rfl, rfl, Nat.le_of_ble_eq_true rfl, Nat.le_of_ble_eq_true rfl⟩ ⟨hcs.1, hcs.2⟩ (Nat.le_of_ble_eq_true rfl) dL_law_1033) hD hS hA (fun H locs hP hD hS => ?_)
  refine lv_lstore (lv' := [(7, .long v), (6, .int r), (0, .ref b'), (1, .ref (a 0)), (2, .ref (b 0)), (3, .ref (b 8)), (4, .ref (b 9)), (5, .int i)]) hx hb dL_law_1036 hl (by decide) rfl (fun ls hl => ?_)
  refine lv_aload_n hx hb dL_law_1038 rfl (lv_at hl 4 rfl) ?_
  refine gci (gcV S hgK hK hP hS hZ (gGrR (c_m_thrown l D dA zp b σ' r (by rw [← ht1]; rfl)) wX_M) k_X9_thrown (gt_7 (i := 107) rfl rfl) 2 rfl rfl rfl hl.1 rfl ⟨rfl, rfl, Nat.le_of_ble_eq_true rfl, Nat.le_of_ble_eq_true rfl⟩ ⟨hcs.1, hcs.2⟩ (Nat.le_of_ble_eq_true rfl) dL_law_1039) ?_
  refine lv_iload hx hb dL_law_1042 (lv_at hl 1 rfl) ?_
  refine lv_icmp_eq (tgt := 1049) hx hb dL_law_1044 (by decide) (fun _ => ?_) (fun h9 => absurd rfl h9)
  refine lv_iload hx hb dL_law_1049 (lv_at hl 1 rfl) ?_
  refine lv_if_ne (tgt := 1065) hx hb dL_law_1051 (by decide) (fun hne => ?_) (fun heq => ?_)
  · refine lv_goto (tgt := 2394) hx hb dL_law_1065 (by decide) ?_
    exact K _ _ _ _ _ _ _ _ hI1 hP hD hS (lv_sub hl [2, 3, 4, 5, 6, 7] rfl)
  · obtain rfl : fo1 = vp_updL fo 0 v := congrArg (fun z => z.2.1) (hg1 heq)
    refine lv_aload_n hx hb dL_law_1054 rfl (lv_at hl 5 rfl) ?_
    refine lv_iconst (v := 0) hx hb dL_law_1055 (by decide) ?_
    refine g_lald (k := 0) hx hb hK hP 0 1 rfl rfl (by decide) (by decide) dL_law_1056 ?_
    refine lv_lload hx hb dL_law_1057 (lv_at hl 0 rfl) ?_
    refine gl_eq (tgt := 1065) hx hb dL_law_1059 dL_law_1060 (by decide) (fun _ => ?_) (fun h9 => absurd (if_pos rfl) h9)
    refine lv_goto (tgt := 2394) hx hb dL_law_1065 (by decide) ?_
    exact K _ _ _ _ _ _ _ _ hI1 hP hD hS (lv_sub hl [2, 3, 4, 5, 6, 7] rfl)
theorem kw_chain : gKWs yL_chain cL_chain 5 (some .int) hL_chain 4 := ⟨(gt_4 (i := 62) rfl rfl), (gt_1 (i := 0) rfl rfl), (gt_4 (i := 63) rfl rfl), by decide +kernel⟩
set_option maxHeartbeats 4000000 in
set_option maxRecDepth 100000 in
theorem lc_14 {p : Program} {l : Launch} {e : Env} {s : State} {m : MethodId} {args : Array Value} {below : List Frame} {meth : Method} {c : Code} {D : va_G} {dA : Nat → ClassId} {zp : Nat → Nat} {A : Nat → Prop} {Q : State → Prop} {b' L : Nat} {xs : Nat → Int32} {a b : Nat → Nat} {i : Int32} {ads : gAd} {fo : Nat → Int64} {fd : Nat → UInt64} {σ : MS} {τ : RS} {H : Heap} {locs : List Loc} {ls : Array Slot} {cells slots : Nat}
    (C : lwC p l s m c args D dA zp A b' L xs) (h1 : vp_in (i + 1) L) (h2 : vp_in (i + 2) L) (h3 : vp_in (i + 3) L) (h4 : vp_in (i + 4) L) (hI : mOK σ τ) (hP : va_P D vwCl (wX dA b a ads fo fd σ τ) H) (hD : va_D A (wX dA b a ads fo fd σ τ)) (hS : va_S A s.heap H locs) (hl : lv_has ls 9 (lwL b' a b i)) (hcs : cells + 16 ≤ room_1.cells ∧ slots + 1300 ≤ room_1.slots)
    (K : lwK p l e s m args below meth c D dA A Q b' a b i 2394 (cells + 16) (slots + 1300)) : W p l e room_1 s m args below meth c H locs cells slots Q (F0 m 1068 ls []) := by
  obtain ⟨S, hgK, hN, hK, hA, hZ, hfl, hX, hbl, hbA⟩ := C
  have S : CallFix p m c cL_law 9 s args gT RL := S
  obtain ⟨hx, hb, hml, hown, hts⟩ := id S
  have hl : lv_has ls 9 [(0, .ref b'), (1, .ref (a 0)), (2, .ref (b 0)), (3, .ref (b 8)), (4, .ref (b 9)), (5, .int i)] := hl
  obtain ⟨v, σ', res, em, er, ea⟩ := e_chain hI (xs (i + 1).toNatClampNeg) (xs (i + 2).toNatClampNeg)
  have ht : ∀ E τ1, res = .inl (E, τ1) → E = eIOB ∨ E = eNSE := fun E τ1 h9 => mem2 (ansE ea E τ1 h9)
  refine lv_aload_n hx hb dL_law_1068 rfl (lv_at hl 1 rfl) ?_
  refine g_arg (k := 1) (k0 := 0) (k5 := 5) hx hb hX hbl hbA hS hl rfl rfl h1 dL_law_1069 dL_law_1070 dL_law_1072 rfl dL_law_1073 dL_law_1074 ?_
  refine g_arg (k := 2) (k0 := 0) (k5 := 5) hx hb hX hbl hbA hS hl rfl rfl h2 dL_law_1075 dL_law_1076 dL_law_1078 rfl dL_law_1079 dL_law_1080 ?_
  refine lv_aload_n hx hb dL_law_1081 rfl (lv_at hl 3 rfl) ?_
  refine gLx (gLS S hgK hN hK hP hD hS hA hZ (c_L_chain l D dA zp hfl b a ads fo fd σ τ (xs (i + 1).toNatClampNeg) (xs (i + 2).toNatClampNeg) H.size res er ht) kw_chain (gt_4 (i := 61) rfl rfl) rfl hl.1 rfl ⟨rfl, rfl, Nat.le_of_ble_eq_true rfl, Nat.le_of_ble_eq_true rfl⟩ ⟨hcs.1, hcs.2⟩ (Nat.le_of_ble_eq_true rfl) dL_law_1082) hD hS hA (fun r u ads H locs hp hP hD hS => ?_)
  obtain ⟨τ1, fo1, fd1⟩ := u
  obtain ⟨ht1, hI1, hg1⟩ := lans (tOne_u (by decide +kernel)) (tOne_z (by decide +kernel)) (fun _ => rfl) ea hp
  have hP : va_P D vwCl (wX dA b a ads fo1 fd1 σ τ1) H := hP
  have hD : va_D A (wX dA b a ads fo1 fd1 σ τ1) := hD
  refine lv_istore (lv' := [(6, .int r), (0, .ref b'), (1, .ref (a 0)), (2, .ref (b 0)), (3, .ref (b 8)), (4, .ref (b 9)), (5, .int i)]) hx hb dL_law_1085 hl (by decide) rfl (fun ls hl => ?_)
  refine lv_aload_n hx hb dL_law_1087 rfl (lv_at hl 3 rfl) ?_
  refine g_arg (k := 1) (k0 := 1) (k5 := 6) hx hb hX hbl hbA hS hl rfl rfl h1 dL_law_1088 dL_law_1089 dL_law_1091 rfl dL_law_1092 dL_law_1093 ?_
  refine g_arg (k := 2) (k0 := 1) (k5 := 6) hx hb hX hbl hbA hS hl rfl rfl h2 dL_law_1094 dL_law_1095 dL_law_1097 rfl dL_law_1098 dL_law_1099 ?_
  refine gmi (w1 := wX dA b a ads fo1 fd1 σ' τ1) (gmV S hgK hK hP hD hS hA hZ (gGri (ws' := wX dA b a ads fo1 fd1 σ' τ1) (c_m_chain l D dA zp b σ (xs (i + 1).toNatClampNeg) (xs (i + 2).toNatClampNeg) H.size v σ' em) wX_M wX_M) k_X9_chain (gt_8 (i := 76) rfl rfl) 2 rfl rfl rfl hl.1 rfl ⟨rfl, rfl, Nat.le_of_ble_eq_true rfl, Nat.le_of_ble_eq_true rfl⟩ ⟨hcs.1, hcs.2⟩ (Nat.le_of_ble_eq_true rfl) dL_law_1100) hD hS hA (fun H locs hP hD hS => ?_)
  refine lv_istore (lv' := [(7, .int v), (6, .int r), (0, .ref b'), (1, .ref (a 0)), (2, .ref (b 0)), (3, .ref (b 8)), (4, .ref (b 9)), (5, .int i)]) hx hb dL_law_1103 hl (by decide) rfl (fun ls hl => ?_)
  refine lv_aload_n hx hb dL_law_1105 rfl (lv_at hl 4 rfl) ?_
  refine gci (gcV S hgK hK hP hS hZ (gGrR (c_m_thrown l D dA zp b σ' r (by rw [← ht1]; rfl)) wX_M) k_X9_thrown (gt_7 (i := 107) rfl rfl) 2 rfl rfl rfl hl.1 rfl ⟨rfl, rfl, Nat.le_of_ble_eq_true rfl, Nat.le_of_ble_eq_true rfl⟩ ⟨hcs.1, hcs.2⟩ (Nat.le_of_ble_eq_true rfl) dL_law_1106) ?_
  refine lv_iload hx hb dL_law_1109 (lv_at hl 1 rfl) ?_
  refine lv_icmp_eq (tgt := 1116) hx hb dL_law_1111 (by decide) (fun _ => ?_) (fun h9 => absurd rfl h9)
  refine lv_iload hx hb dL_law_1116 (lv_at hl 1 rfl) ?_
  refine lv_if_ne (tgt := 1133) hx hb dL_law_1118 (by decide) (fun hne => ?_) (fun heq => ?_)
  · refine lv_goto (tgt := 2394) hx hb dL_law_1133 (by decide) ?_
    exact K _ _ _ _ _ _ _ _ hI1 hP hD hS (lv_sub hl [2, 3, 4, 5, 6, 7] rfl)
  · obtain rfl : fo1 = vp_updL fo 0 v.toInt64 := congrArg (fun z => z.2.1) (hg1 heq)
    refine lv_aload_n hx hb dL_law_1121 rfl (lv_at hl 5 rfl) ?_
    refine lv_iconst (v := 0) hx hb dL_law_1122 (by decide) ?_
    refine g_lald (k := 0) hx hb hK hP 0 1 rfl rfl (by decide) (by decide) dL_law_1123 ?_
    refine lv_iload hx hb dL_law_1124 (lv_at hl 0 rfl) ?_
    refine lv_i2l (v := v.toInt64) hx hb dL_law_1126 rfl ?_
    refine gl_eq (tgt := 1133) hx hb dL_law_1127 dL_law_1128 (by decide) (fun _ => ?_) (fun h9 => absurd (if_pos rfl) h9)
    refine lv_goto (tgt := 2394) hx hb dL_law_1133 (by decide) ?_
    exact K _ _ _ _ _ _ _ _ hI1 hP hD hS (lv_sub hl [2, 3, 4, 5, 6, 7] rfl)
theorem kw_cause : gKWs yL_cause cL_cause 4 (some .int) hL_cause 3 := ⟨(gt_4 (i := 70) rfl rfl), (gt_1 (i := 0) rfl rfl), (gt_4 (i := 71) rfl rfl), by decide +kernel⟩
set_option maxHeartbeats 4000000 in
set_option maxRecDepth 100000 in
theorem lc_15 {p : Program} {l : Launch} {e : Env} {s : State} {m : MethodId} {args : Array Value} {below : List Frame} {meth : Method} {c : Code} {D : va_G} {dA : Nat → ClassId} {zp : Nat → Nat} {A : Nat → Prop} {Q : State → Prop} {b' L : Nat} {xs : Nat → Int32} {a b : Nat → Nat} {i : Int32} {ads : gAd} {fo : Nat → Int64} {fd : Nat → UInt64} {σ : MS} {τ : RS} {H : Heap} {locs : List Loc} {ls : Array Slot} {cells slots : Nat}
    (C : lwC p l s m c args D dA zp A b' L xs) (h1 : vp_in (i + 1) L) (h2 : vp_in (i + 2) L) (h3 : vp_in (i + 3) L) (h4 : vp_in (i + 4) L) (hI : mOK σ τ) (hP : va_P D vwCl (wX dA b a ads fo fd σ τ) H) (hD : va_D A (wX dA b a ads fo fd σ τ)) (hS : va_S A s.heap H locs) (hl : lv_has ls 9 (lwL b' a b i)) (hcs : cells + 16 ≤ room_1.cells ∧ slots + 1300 ≤ room_1.slots)
    (K : lwK p l e s m args below meth c D dA A Q b' a b i 2394 (cells + 16) (slots + 1300)) : W p l e room_1 s m args below meth c H locs cells slots Q (F0 m 1136 ls []) := by
  obtain ⟨S, hgK, hN, hK, hA, hZ, hfl, hX, hbl, hbA⟩ := C
  have S : CallFix p m c cL_law 9 s args gT RL := S
  obtain ⟨hx, hb, hml, hown, hts⟩ := id S
  have hl : lv_has ls 9 [(0, .ref b'), (1, .ref (a 0)), (2, .ref (b 0)), (3, .ref (b 8)), (4, .ref (b 9)), (5, .int i)] := hl
  obtain ⟨v, σ', res, em, er, ea⟩ := e_cause hI (xs (i + 1).toNatClampNeg)
  have ht : ∀ E τ1, res = .inl (E, τ1) → E = eIOB ∨ E = eNSE := fun E τ1 h9 => mem2 (ansE ea E τ1 h9)
  refine lv_aload_n hx hb dL_law_1136 rfl (lv_at hl 1 rfl) ?_
  refine g_arg (k := 1) (k0 := 0) (k5 := 5) hx hb hX hbl hbA hS hl rfl rfl h1 dL_law_1137 dL_law_1138 dL_law_1140 rfl dL_law_1141 dL_law_1142 ?_
  refine lv_aload_n hx hb dL_law_1143 rfl (lv_at hl 3 rfl) ?_
  refine gLx (gLS S hgK hN hK hP hD hS hA hZ (c_L_cause l D dA zp hfl b a ads fo fd σ τ (xs (i + 1).toNatClampNeg) H.size res er ht) kw_cause (gt_4 (i := 69) rfl rfl) rfl hl.1 rfl ⟨rfl, rfl, Nat.le_of_ble_eq_true rfl, Nat.le_of_ble_eq_true rfl⟩ ⟨hcs.1, hcs.2⟩ (Nat.le_of_ble_eq_true rfl) dL_law_1144) hD hS hA (fun r u ads H locs hp hP hD hS => ?_)
  obtain ⟨τ1, fo1, fd1⟩ := u
  obtain ⟨ht1, hI1, hg1⟩ := lans (tOne_u (by decide +kernel)) (tOne_z (by decide +kernel)) (fun _ => rfl) ea hp
  have hP : va_P D vwCl (wX dA b a ads fo1 fd1 σ τ1) H := hP
  have hD : va_D A (wX dA b a ads fo1 fd1 σ τ1) := hD
  refine lv_istore (lv' := [(6, .int r), (0, .ref b'), (1, .ref (a 0)), (2, .ref (b 0)), (3, .ref (b 8)), (4, .ref (b 9)), (5, .int i)]) hx hb dL_law_1147 hl (by decide) rfl (fun ls hl => ?_)
  refine lv_aload_n hx hb dL_law_1149 rfl (lv_at hl 3 rfl) ?_
  refine g_arg (k := 1) (k0 := 1) (k5 := 6) hx hb hX hbl hbA hS hl rfl rfl h1 dL_law_1150 dL_law_1151 dL_law_1153 rfl dL_law_1154 dL_law_1155 ?_
  refine gmi (w1 := wX dA b a ads fo1 fd1 σ' τ1) (gmV S hgK hK hP hD hS hA hZ (gGri (ws' := wX dA b a ads fo1 fd1 σ' τ1) (c_m_cause l D dA zp b σ (xs (i + 1).toNatClampNeg) H.size v σ' em) wX_M wX_M) k_X9_cause (gt_8 (i := 80) rfl rfl) 2 rfl rfl rfl hl.1 rfl ⟨rfl, rfl, Nat.le_of_ble_eq_true rfl, Nat.le_of_ble_eq_true rfl⟩ ⟨hcs.1, hcs.2⟩ (Nat.le_of_ble_eq_true rfl) dL_law_1156) hD hS hA (fun H locs hP hD hS => ?_)
  refine lv_istore (lv' := [(7, .int v), (6, .int r), (0, .ref b'), (1, .ref (a 0)), (2, .ref (b 0)), (3, .ref (b 8)), (4, .ref (b 9)), (5, .int i)]) hx hb dL_law_1159 hl (by decide) rfl (fun ls hl => ?_)
  refine lv_aload_n hx hb dL_law_1161 rfl (lv_at hl 4 rfl) ?_
  refine gci (gcV S hgK hK hP hS hZ (gGrR (c_m_thrown l D dA zp b σ' r (by rw [← ht1]; rfl)) wX_M) k_X9_thrown (gt_7 (i := 107) rfl rfl) 2 rfl rfl rfl hl.1 rfl ⟨rfl, rfl, Nat.le_of_ble_eq_true rfl, Nat.le_of_ble_eq_true rfl⟩ ⟨hcs.1, hcs.2⟩ (Nat.le_of_ble_eq_true rfl) dL_law_1162) ?_
  refine lv_iload hx hb dL_law_1165 (lv_at hl 1 rfl) ?_
  refine lv_icmp_eq (tgt := 1172) hx hb dL_law_1167 (by decide) (fun _ => ?_) (fun h9 => absurd rfl h9)
  refine lv_iload hx hb dL_law_1172 (lv_at hl 1 rfl) ?_
  refine lv_if_ne (tgt := 1189) hx hb dL_law_1174 (by decide) (fun hne => ?_) (fun heq => ?_)
  · refine lv_goto (tgt := 2394) hx hb dL_law_1189 (by decide) ?_
    exact K _ _ _ _ _ _ _ _ hI1 hP hD hS (lv_sub hl [2, 3, 4, 5, 6, 7] rfl)
  · obtain rfl : fo1 = vp_updL fo 0 v.toInt64 := congrArg (fun z => z.2.1) (hg1 heq)
    refine lv_aload_n hx hb dL_law_1177 rfl (lv_at hl 5 rfl) ?_
    refine lv_iconst (v := 0) hx hb dL_law_1178 (by decide) ?_
    refine g_lald (k := 0) hx hb hK hP 0 1 rfl rfl (by decide) (by decide) dL_law_1179 ?_
    refine lv_iload hx hb dL_law_1180 (lv_at hl 0 rfl) ?_
    refine lv_i2l (v := v.toInt64) hx hb dL_law_1182 rfl ?_
    refine gl_eq (tgt := 1189) hx hb dL_law_1183 dL_law_1184 (by decide) (fun _ => ?_) (fun h9 => absurd (if_pos rfl) h9)
    refine lv_goto (tgt := 2394) hx hb dL_law_1189 (by decide) ?_
    exact K _ _ _ _ _ _ _ _ hI1 hP hD hS (lv_sub hl [2, 3, 4, 5, 6, 7] rfl)
theorem kw_recall : gKWs yL_recall cL_recall 6 (some .int) hL_recall 5 := ⟨(gt_4 (i := 82) rfl rfl), (gt_1 (i := 0) rfl rfl), (gt_4 (i := 83) rfl rfl), by decide +kernel⟩
set_option maxHeartbeats 4000000 in
set_option maxRecDepth 100000 in
theorem lc_16 {p : Program} {l : Launch} {e : Env} {s : State} {m : MethodId} {args : Array Value} {below : List Frame} {meth : Method} {c : Code} {D : va_G} {dA : Nat → ClassId} {zp : Nat → Nat} {A : Nat → Prop} {Q : State → Prop} {b' L : Nat} {xs : Nat → Int32} {a b : Nat → Nat} {i : Int32} {ads : gAd} {fo : Nat → Int64} {fd : Nat → UInt64} {σ : MS} {τ : RS} {H : Heap} {locs : List Loc} {ls : Array Slot} {cells slots : Nat}
    (C : lwC p l s m c args D dA zp A b' L xs) (h1 : vp_in (i + 1) L) (h2 : vp_in (i + 2) L) (h3 : vp_in (i + 3) L) (h4 : vp_in (i + 4) L) (hI : mOK σ τ) (hP : va_P D vwCl (wX dA b a ads fo fd σ τ) H) (hD : va_D A (wX dA b a ads fo fd σ τ)) (hS : va_S A s.heap H locs) (hl : lv_has ls 9 (lwL b' a b i)) (hcs : cells + 16 ≤ room_1.cells ∧ slots + 1300 ≤ room_1.slots)
    (K : lwK p l e s m args below meth c D dA A Q b' a b i 2394 (cells + 16) (slots + 1300)) : W p l e room_1 s m args below meth c H locs cells slots Q (F0 m 1192 ls []) := by
  obtain ⟨S, hgK, hN, hK, hA, hZ, hfl, hX, hbl, hbA⟩ := C
  have S : CallFix p m c cL_law 9 s args gT RL := S
  obtain ⟨hx, hb, hml, hown, hts⟩ := id S
  have hl : lv_has ls 9 [(0, .ref b'), (1, .ref (a 0)), (2, .ref (b 0)), (3, .ref (b 8)), (4, .ref (b 9)), (5, .int i)] := hl
  obtain ⟨v, σ', res, em, er, ea⟩ := e_recall hI (xs (i + 1).toNatClampNeg) (xs (i + 2).toNatClampNeg) (xs (i + 3).toNatClampNeg)
  have ht : ∀ E τ1, res = .inl (E, τ1) → E = eIOB ∨ E = eIAE ∨ E = eISE := fun E τ1 h9 => mem3 (ansE ea E τ1 h9)
  refine lv_aload_n hx hb dL_law_1192 rfl (lv_at hl 1 rfl) ?_
  refine g_arg (k := 1) (k0 := 0) (k5 := 5) hx hb hX hbl hbA hS hl rfl rfl h1 dL_law_1193 dL_law_1194 dL_law_1196 rfl dL_law_1197 dL_law_1198 ?_
  refine g_arg (k := 2) (k0 := 0) (k5 := 5) hx hb hX hbl hbA hS hl rfl rfl h2 dL_law_1199 dL_law_1200 dL_law_1202 rfl dL_law_1203 dL_law_1204 ?_
  refine g_arg (k := 3) (k0 := 0) (k5 := 5) hx hb hX hbl hbA hS hl rfl rfl h3 dL_law_1205 dL_law_1206 dL_law_1208 rfl dL_law_1209 dL_law_1210 ?_
  refine lv_aload_n hx hb dL_law_1211 rfl (lv_at hl 3 rfl) ?_
  refine gLx (gLS S hgK hN hK hP hD hS hA hZ (c_L_recall l D dA zp hfl b a ads fo fd σ τ (xs (i + 1).toNatClampNeg) (xs (i + 2).toNatClampNeg) (xs (i + 3).toNatClampNeg) H.size res er ht) kw_recall (gt_4 (i := 81) rfl rfl) rfl hl.1 rfl ⟨rfl, rfl, Nat.le_of_ble_eq_true rfl, Nat.le_of_ble_eq_true rfl⟩ ⟨hcs.1, hcs.2⟩ (Nat.le_of_ble_eq_true rfl) dL_law_1212) hD hS hA (fun r u ads H locs hp hP hD hS => ?_)
  obtain ⟨τ1, fo1, fd1⟩ := u
  obtain ⟨ht1, hI1, hg1⟩ := lans (tOne_u (by decide +kernel)) (tOne_z (by decide +kernel)) (fun _ => rfl) ea hp
  have hP : va_P D vwCl (wX dA b a ads fo1 fd1 σ τ1) H := hP
  have hD : va_D A (wX dA b a ads fo1 fd1 σ τ1) := hD
  refine lv_istore (lv' := [(6, .int r), (0, .ref b'), (1, .ref (a 0)), (2, .ref (b 0)), (3, .ref (b 8)), (4, .ref (b 9)), (5, .int i)]) hx hb dL_law_1215 hl (by decide) rfl (fun ls hl => ?_)
  refine lv_aload_n hx hb dL_law_1217 rfl (lv_at hl 3 rfl) ?_
  refine g_arg (k := 1) (k0 := 1) (k5 := 6) hx hb hX hbl hbA hS hl rfl rfl h1 dL_law_1218 dL_law_1219 dL_law_1221 rfl dL_law_1222 dL_law_1223 ?_
  refine g_arg (k := 2) (k0 := 1) (k5 := 6) hx hb hX hbl hbA hS hl rfl rfl h2 dL_law_1224 dL_law_1225 dL_law_1227 rfl dL_law_1228 dL_law_1229 ?_
  refine g_arg (k := 3) (k0 := 1) (k5 := 6) hx hb hX hbl hbA hS hl rfl rfl h3 dL_law_1230 dL_law_1231 dL_law_1233 rfl dL_law_1234 dL_law_1235 ?_
  refine gmi (w1 := wX dA b a ads fo1 fd1 σ' τ1) (gmV S hgK hK hP hD hS hA hZ (gGri (ws' := wX dA b a ads fo1 fd1 σ' τ1) (c_m_recall l D dA zp b σ (xs (i + 1).toNatClampNeg) (xs (i + 2).toNatClampNeg) (xs (i + 3).toNatClampNeg) H.size v σ' em) wX_M wX_M) k_X9_recall (gt_8 (i := 84) rfl rfl) 2 rfl rfl rfl hl.1 rfl ⟨rfl, rfl, Nat.le_of_ble_eq_true rfl, Nat.le_of_ble_eq_true rfl⟩ ⟨hcs.1, hcs.2⟩ (Nat.le_of_ble_eq_true rfl) dL_law_1236) hD hS hA (fun H locs hP hD hS => ?_)
  refine lv_istore (lv' := [(7, .int v), (6, .int r), (0, .ref b'), (1, .ref (a 0)), (2, .ref (b 0)), (3, .ref (b 8)), (4, .ref (b 9)), (5, .int i)]) hx hb dL_law_1239 hl (by decide) rfl (fun ls hl => ?_)
  refine lv_aload_n hx hb dL_law_1241 rfl (lv_at hl 4 rfl) ?_
  refine gci (gcV S hgK hK hP hS hZ (gGrR (c_m_thrown l D dA zp b σ' r (by rw [← ht1]; rfl)) wX_M) k_X9_thrown (gt_7 (i := 107) rfl rfl) 2 rfl rfl rfl hl.1 rfl ⟨rfl, rfl, Nat.le_of_ble_eq_true rfl, Nat.le_of_ble_eq_true rfl⟩ ⟨hcs.1, hcs.2⟩ (Nat.le_of_ble_eq_true rfl) dL_law_1242) ?_
  refine lv_iload hx hb dL_law_1245 (lv_at hl 1 rfl) ?_
  refine lv_icmp_eq (tgt := 1252) hx hb dL_law_1247 (by decide) (fun _ => ?_) (fun h9 => absurd rfl h9)
  refine lv_iload hx hb dL_law_1252 (lv_at hl 1 rfl) ?_
  refine lv_if_ne (tgt := 1269) hx hb dL_law_1254 (by decide) (fun hne => ?_) (fun heq => ?_)
  · refine lv_goto (tgt := 2394) hx hb dL_law_1269 (by decide) ?_
    exact K _ _ _ _ _ _ _ _ hI1 hP hD hS (lv_sub hl [2, 3, 4, 5, 6, 7] rfl)
  · obtain rfl : fo1 = vp_updL fo 0 v.toInt64 := congrArg (fun z => z.2.1) (hg1 heq)
    refine lv_aload_n hx hb dL_law_1257 rfl (lv_at hl 5 rfl) ?_
    refine lv_iconst (v := 0) hx hb dL_law_1258 (by decide) ?_
    refine g_lald (k := 0) hx hb hK hP 0 1 rfl rfl (by decide) (by decide) dL_law_1259 ?_
    refine lv_iload hx hb dL_law_1260 (lv_at hl 0 rfl) ?_
    refine lv_i2l (v := v.toInt64) hx hb dL_law_1262 rfl ?_
    refine gl_eq (tgt := 1269) hx hb dL_law_1263 dL_law_1264 (by decide) (fun _ => ?_) (fun h9 => absurd (if_pos rfl) h9)
    refine lv_goto (tgt := 2394) hx hb dL_law_1269 (by decide) ?_
    exact K _ _ _ _ _ _ _ _ hI1 hP hD hS (lv_sub hl [2, 3, 4, 5, 6, 7] rfl)
theorem kw_lift : gKWs yL_lift cL_lift 4 (some .int) hL_lift 3 := ⟨(gt_4 (i := 100) rfl rfl), (gt_1 (i := 0) rfl rfl), (gt_4 (i := 101) rfl rfl), by decide +kernel⟩
set_option maxHeartbeats 4000000 in
set_option maxRecDepth 100000 in
theorem lc_17 {p : Program} {l : Launch} {e : Env} {s : State} {m : MethodId} {args : Array Value} {below : List Frame} {meth : Method} {c : Code} {D : va_G} {dA : Nat → ClassId} {zp : Nat → Nat} {A : Nat → Prop} {Q : State → Prop} {b' L : Nat} {xs : Nat → Int32} {a b : Nat → Nat} {i : Int32} {ads : gAd} {fo : Nat → Int64} {fd : Nat → UInt64} {σ : MS} {τ : RS} {H : Heap} {locs : List Loc} {ls : Array Slot} {cells slots : Nat}
    (C : lwC p l s m c args D dA zp A b' L xs) (h1 : vp_in (i + 1) L) (h2 : vp_in (i + 2) L) (h3 : vp_in (i + 3) L) (h4 : vp_in (i + 4) L) (hI : mOK σ τ) (hP : va_P D vwCl (wX dA b a ads fo fd σ τ) H) (hD : va_D A (wX dA b a ads fo fd σ τ)) (hS : va_S A s.heap H locs) (hl : lv_has ls 9 (lwL b' a b i)) (hcs : cells + 16 ≤ room_1.cells ∧ slots + 1300 ≤ room_1.slots)
    (K : lwK p l e s m args below meth c D dA A Q b' a b i 2394 (cells + 16) (slots + 1300)) : W p l e room_1 s m args below meth c H locs cells slots Q (F0 m 1272 ls []) := by
  obtain ⟨S, hgK, hN, hK, hA, hZ, hfl, hX, hbl, hbA⟩ := C
  have S : CallFix p m c cL_law 9 s args gT RL := S
  obtain ⟨hx, hb, hml, hown, hts⟩ := id S
  have hl : lv_has ls 9 [(0, .ref b'), (1, .ref (a 0)), (2, .ref (b 0)), (3, .ref (b 8)), (4, .ref (b 9)), (5, .int i)] := hl
  obtain ⟨v, σ', res, em, er, ea⟩ := e_lift hI (xs (i + 1).toNatClampNeg)
  have ht : ∀ E τ1, res = .inl (E, τ1) → E = eIOB := fun E τ1 h9 => mem1 (ansE ea E τ1 h9)
  refine lv_aload_n hx hb dL_law_1272 rfl (lv_at hl 1 rfl) ?_
  refine g_arg (k := 1) (k0 := 0) (k5 := 5) hx hb hX hbl hbA hS hl rfl rfl h1 dL_law_1273 dL_law_1274 dL_law_1276 rfl dL_law_1277 dL_law_1278 ?_
  refine lv_aload_n hx hb dL_law_1279 rfl (lv_at hl 3 rfl) ?_
  refine gLx (gLS S hgK hN hK hP hD hS hA hZ (c_L_lift l D dA zp hfl b a ads fo fd σ τ (xs (i + 1).toNatClampNeg) H.size res er ht) kw_lift (gt_4 (i := 99) rfl rfl) rfl hl.1 rfl ⟨rfl, rfl, Nat.le_of_ble_eq_true rfl, Nat.le_of_ble_eq_true rfl⟩ ⟨hcs.1, hcs.2⟩ (Nat.le_of_ble_eq_true rfl) dL_law_1280) hD hS hA (fun r u ads H locs hp hP hD hS => ?_)
  obtain ⟨τ1, fo1, fd1⟩ := u
  obtain ⟨ht1, hI1, hg1⟩ := lans (tOne_u (by decide +kernel)) (tOne_z (by decide +kernel)) (fun _ => rfl) ea hp
  have hP : va_P D vwCl (wX dA b a ads fo1 fd1 σ τ1) H := hP
  have hD : va_D A (wX dA b a ads fo1 fd1 σ τ1) := hD
  refine lv_istore (lv' := [(6, .int r), (0, .ref b'), (1, .ref (a 0)), (2, .ref (b 0)), (3, .ref (b 8)), (4, .ref (b 9)), (5, .int i)]) hx hb dL_law_1283 hl (by decide) rfl (fun ls hl => ?_)
  refine lv_aload_n hx hb dL_law_1285 rfl (lv_at hl 3 rfl) ?_
  refine g_arg (k := 1) (k0 := 1) (k5 := 6) hx hb hX hbl hbA hS hl rfl rfl h1 dL_law_1286 dL_law_1287 dL_law_1289 rfl dL_law_1290 dL_law_1291 ?_
  refine gmi (w1 := wX dA b a ads fo1 fd1 σ' τ1) (gmV S hgK hK hP hD hS hA hZ (gGri (ws' := wX dA b a ads fo1 fd1 σ' τ1) (c_m_lift l D dA zp b σ (xs (i + 1).toNatClampNeg) H.size v σ' em) wX_M wX_M) k_X9_lift (gt_8 (i := 96) rfl rfl) 2 rfl rfl rfl hl.1 rfl ⟨rfl, rfl, Nat.le_of_ble_eq_true rfl, Nat.le_of_ble_eq_true rfl⟩ ⟨hcs.1, hcs.2⟩ (Nat.le_of_ble_eq_true rfl) dL_law_1292) hD hS hA (fun H locs hP hD hS => ?_)
  refine lv_istore (lv' := [(7, .int v), (6, .int r), (0, .ref b'), (1, .ref (a 0)), (2, .ref (b 0)), (3, .ref (b 8)), (4, .ref (b 9)), (5, .int i)]) hx hb dL_law_1295 hl (by decide) rfl (fun ls hl => ?_)
  refine lv_aload_n hx hb dL_law_1297 rfl (lv_at hl 4 rfl) ?_
  refine gci (gcV S hgK hK hP hS hZ (gGrR (c_m_thrown l D dA zp b σ' r (by rw [← ht1]; rfl)) wX_M) k_X9_thrown (gt_7 (i := 107) rfl rfl) 2 rfl rfl rfl hl.1 rfl ⟨rfl, rfl, Nat.le_of_ble_eq_true rfl, Nat.le_of_ble_eq_true rfl⟩ ⟨hcs.1, hcs.2⟩ (Nat.le_of_ble_eq_true rfl) dL_law_1298) ?_
  refine lv_iload hx hb dL_law_1301 (lv_at hl 1 rfl) ?_
  refine lv_icmp_eq (tgt := 1308) hx hb dL_law_1303 (by decide) (fun _ => ?_) (fun h9 => absurd rfl h9)
  refine lv_iload hx hb dL_law_1308 (lv_at hl 1 rfl) ?_
  refine lv_if_ne (tgt := 1325) hx hb dL_law_1310 (by decide) (fun hne => ?_) (fun heq => ?_)
  · refine lv_goto (tgt := 2394) hx hb dL_law_1325 (by decide) ?_
    exact K _ _ _ _ _ _ _ _ hI1 hP hD hS (lv_sub hl [2, 3, 4, 5, 6, 7] rfl)
  · obtain rfl : fo1 = vp_updL fo 0 v.toInt64 := congrArg (fun z => z.2.1) (hg1 heq)
    refine lv_aload_n hx hb dL_law_1313 rfl (lv_at hl 5 rfl) ?_
    refine lv_iconst (v := 0) hx hb dL_law_1314 (by decide) ?_
    refine g_lald (k := 0) hx hb hK hP 0 1 rfl rfl (by decide) (by decide) dL_law_1315 ?_
    refine lv_iload hx hb dL_law_1316 (lv_at hl 0 rfl) ?_
    refine lv_i2l (v := v.toInt64) hx hb dL_law_1318 rfl ?_
    refine gl_eq (tgt := 1325) hx hb dL_law_1319 dL_law_1320 (by decide) (fun _ => ?_) (fun h9 => absurd (if_pos rfl) h9)
    refine lv_goto (tgt := 2394) hx hb dL_law_1325 (by decide) ?_
    exact K _ _ _ _ _ _ _ _ hI1 hP hD hS (lv_sub hl [2, 3, 4, 5, 6, 7] rfl)
theorem kw_recalled : gKWs yL_recalled cL_recalled 5 (some .int) hL_recalled 4 := ⟨(gt_4 (i := 115) rfl rfl), (gt_1 (i := 0) rfl rfl), (gt_4 (i := 116) rfl rfl), by decide +kernel⟩
set_option maxHeartbeats 4000000 in
set_option maxRecDepth 100000 in
theorem lc_18 {p : Program} {l : Launch} {e : Env} {s : State} {m : MethodId} {args : Array Value} {below : List Frame} {meth : Method} {c : Code} {D : va_G} {dA : Nat → ClassId} {zp : Nat → Nat} {A : Nat → Prop} {Q : State → Prop} {b' L : Nat} {xs : Nat → Int32} {a b : Nat → Nat} {i : Int32} {ads : gAd} {fo : Nat → Int64} {fd : Nat → UInt64} {σ : MS} {τ : RS} {H : Heap} {locs : List Loc} {ls : Array Slot} {cells slots : Nat}
    (C : lwC p l s m c args D dA zp A b' L xs) (h1 : vp_in (i + 1) L) (h2 : vp_in (i + 2) L) (h3 : vp_in (i + 3) L) (h4 : vp_in (i + 4) L) (hI : mOK σ τ) (hP : va_P D vwCl (wX dA b a ads fo fd σ τ) H) (hD : va_D A (wX dA b a ads fo fd σ τ)) (hS : va_S A s.heap H locs) (hl : lv_has ls 9 (lwL b' a b i)) (hcs : cells + 16 ≤ room_1.cells ∧ slots + 1300 ≤ room_1.slots)
    (K : lwK p l e s m args below meth c D dA A Q b' a b i 2394 (cells + 16) (slots + 1300)) : W p l e room_1 s m args below meth c H locs cells slots Q (F0 m 1328 ls []) := by
  obtain ⟨S, hgK, hN, hK, hA, hZ, hfl, hX, hbl, hbA⟩ := C
  have S : CallFix p m c cL_law 9 s args gT RL := S
  obtain ⟨hx, hb, hml, hown, hts⟩ := id S
  have hl : lv_has ls 9 [(0, .ref b'), (1, .ref (a 0)), (2, .ref (b 0)), (3, .ref (b 8)), (4, .ref (b 9)), (5, .int i)] := hl
  obtain ⟨v, σ', res, em, er, ea⟩ := e_recalled hI (xs (i + 1).toNatClampNeg) (xs (i + 2).toNatClampNeg)
  have ht : ∀ E τ1, res = .inl (E, τ1) → E = eIOB ∨ E = eIAE := fun E τ1 h9 => mem2 (ansE ea E τ1 h9)
  refine lv_aload_n hx hb dL_law_1328 rfl (lv_at hl 1 rfl) ?_
  refine g_arg (k := 1) (k0 := 0) (k5 := 5) hx hb hX hbl hbA hS hl rfl rfl h1 dL_law_1329 dL_law_1330 dL_law_1332 rfl dL_law_1333 dL_law_1334 ?_
  refine g_arg (k := 2) (k0 := 0) (k5 := 5) hx hb hX hbl hbA hS hl rfl rfl h2 dL_law_1335 dL_law_1336 dL_law_1338 rfl dL_law_1339 dL_law_1340 ?_
  refine lv_aload_n hx hb dL_law_1341 rfl (lv_at hl 3 rfl) ?_
  refine gLx (gLS S hgK hN hK hP hD hS hA hZ (c_L_recalled l D dA zp hfl b a ads fo fd σ τ (xs (i + 1).toNatClampNeg) (xs (i + 2).toNatClampNeg) H.size res er ht) kw_recalled (gt_4 (i := 114) rfl rfl) rfl hl.1 rfl ⟨rfl, rfl, Nat.le_of_ble_eq_true rfl, Nat.le_of_ble_eq_true rfl⟩ ⟨hcs.1, hcs.2⟩ (Nat.le_of_ble_eq_true rfl) dL_law_1342) hD hS hA (fun r u ads H locs hp hP hD hS => ?_)
  obtain ⟨τ1, fo1, fd1⟩ := u
  obtain ⟨ht1, hI1, hg1⟩ := lans (tOne_u (by decide +kernel)) (tOne_z (by decide +kernel)) (fun _ => rfl) ea hp
  have hP : va_P D vwCl (wX dA b a ads fo1 fd1 σ τ1) H := hP
  have hD : va_D A (wX dA b a ads fo1 fd1 σ τ1) := hD
  refine lv_istore (lv' := [(6, .int r), (0, .ref b'), (1, .ref (a 0)), (2, .ref (b 0)), (3, .ref (b 8)), (4, .ref (b 9)), (5, .int i)]) hx hb dL_law_1345 hl (by decide) rfl (fun ls hl => ?_)
  refine lv_aload_n hx hb dL_law_1347 rfl (lv_at hl 3 rfl) ?_
  refine g_arg (k := 1) (k0 := 1) (k5 := 6) hx hb hX hbl hbA hS hl rfl rfl h1 dL_law_1348 dL_law_1349 dL_law_1351 rfl dL_law_1352 dL_law_1353 ?_
  refine g_arg (k := 2) (k0 := 1) (k5 := 6) hx hb hX hbl hbA hS hl rfl rfl h2 dL_law_1354 dL_law_1355 dL_law_1357 rfl dL_law_1358 dL_law_1359 ?_
  refine gmi (w1 := wX dA b a ads fo1 fd1 σ' τ1) (gmV S hgK hK hP hD hS hA hZ (gGri (ws' := wX dA b a ads fo1 fd1 σ' τ1) (c_m_recalled l D dA zp b σ (xs (i + 1).toNatClampNeg) (xs (i + 2).toNatClampNeg) H.size v σ' em) wX_M wX_M) k_X9_recalled (gt_8 (i := 100) rfl rfl) 2 rfl rfl rfl hl.1 rfl ⟨rfl, rfl, Nat.le_of_ble_eq_true rfl, Nat.le_of_ble_eq_true rfl⟩ ⟨hcs.1, hcs.2⟩ (Nat.le_of_ble_eq_true rfl) dL_law_1360) hD hS hA (fun H locs hP hD hS => ?_)
  refine lv_istore (lv' := [(7, .int v), (6, .int r), (0, .ref b'), (1, .ref (a 0)), (2, .ref (b 0)), (3, .ref (b 8)), (4, .ref (b 9)), (5, .int i)]) hx hb dL_law_1363 hl (by decide) rfl (fun ls hl => ?_)
  refine lv_aload_n hx hb dL_law_1365 rfl (lv_at hl 4 rfl) ?_
  refine gci (gcV S hgK hK hP hS hZ (gGrR (c_m_thrown l D dA zp b σ' r (by rw [← ht1]; rfl)) wX_M) k_X9_thrown (gt_7 (i := 107) rfl rfl) 2 rfl rfl rfl hl.1 rfl ⟨rfl, rfl, Nat.le_of_ble_eq_true rfl, Nat.le_of_ble_eq_true rfl⟩ ⟨hcs.1, hcs.2⟩ (Nat.le_of_ble_eq_true rfl) dL_law_1366) ?_
  refine lv_iload hx hb dL_law_1369 (lv_at hl 1 rfl) ?_
  refine lv_icmp_eq (tgt := 1376) hx hb dL_law_1371 (by decide) (fun _ => ?_) (fun h9 => absurd rfl h9)
  refine lv_iload hx hb dL_law_1376 (lv_at hl 1 rfl) ?_
  refine lv_if_ne (tgt := 1393) hx hb dL_law_1378 (by decide) (fun hne => ?_) (fun heq => ?_)
  · refine lv_goto (tgt := 2394) hx hb dL_law_1393 (by decide) ?_
    exact K _ _ _ _ _ _ _ _ hI1 hP hD hS (lv_sub hl [2, 3, 4, 5, 6, 7] rfl)
  · obtain rfl : fo1 = vp_updL fo 0 v.toInt64 := congrArg (fun z => z.2.1) (hg1 heq)
    refine lv_aload_n hx hb dL_law_1381 rfl (lv_at hl 5 rfl) ?_
    refine lv_iconst (v := 0) hx hb dL_law_1382 (by decide) ?_
    refine g_lald (k := 0) hx hb hK hP 0 1 rfl rfl (by decide) (by decide) dL_law_1383 ?_
    refine lv_iload hx hb dL_law_1384 (lv_at hl 0 rfl) ?_
    refine lv_i2l (v := v.toInt64) hx hb dL_law_1386 rfl ?_
    refine gl_eq (tgt := 1393) hx hb dL_law_1387 dL_law_1388 (by decide) (fun _ => ?_) (fun h9 => absurd (if_pos rfl) h9)
    refine lv_goto (tgt := 2394) hx hb dL_law_1393 (by decide) ?_
    exact K _ _ _ _ _ _ _ _ hI1 hP hD hS (lv_sub hl [2, 3, 4, 5, 6, 7] rfl)
theorem kw_reach : gKWs yL_reach cL_reach 6 (some .int) hL_reach 5 := ⟨(gt_4 (i := 126) rfl rfl), (gt_1 (i := 0) rfl rfl), (gt_4 (i := 127) rfl rfl), by decide +kernel⟩
set_option maxHeartbeats 4000000 in
set_option maxRecDepth 100000 in
theorem lc_19 {p : Program} {l : Launch} {e : Env} {s : State} {m : MethodId} {args : Array Value} {below : List Frame} {meth : Method} {c : Code} {D : va_G} {dA : Nat → ClassId} {zp : Nat → Nat} {A : Nat → Prop} {Q : State → Prop} {b' L : Nat} {xs : Nat → Int32} {a b : Nat → Nat} {i : Int32} {ads : gAd} {fo : Nat → Int64} {fd : Nat → UInt64} {σ : MS} {τ : RS} {H : Heap} {locs : List Loc} {ls : Array Slot} {cells slots : Nat}
    (C : lwC p l s m c args D dA zp A b' L xs) (h1 : vp_in (i + 1) L) (h2 : vp_in (i + 2) L) (h3 : vp_in (i + 3) L) (h4 : vp_in (i + 4) L) (hI : mOK σ τ) (hP : va_P D vwCl (wX dA b a ads fo fd σ τ) H) (hD : va_D A (wX dA b a ads fo fd σ τ)) (hS : va_S A s.heap H locs) (hl : lv_has ls 9 (lwL b' a b i)) (hcs : cells + 16 ≤ room_1.cells ∧ slots + 1300 ≤ room_1.slots)
    (K : lwK p l e s m args below meth c D dA A Q b' a b i 2394 (cells + 16) (slots + 1300)) : W p l e room_1 s m args below meth c H locs cells slots Q (F0 m 1396 ls []) := by
  obtain ⟨S, hgK, hN, hK, hA, hZ, hfl, hX, hbl, hbA⟩ := C
  have S : CallFix p m c cL_law 9 s args gT RL := S
  obtain ⟨hx, hb, hml, hown, hts⟩ := id S
  have hl : lv_has ls 9 [(0, .ref b'), (1, .ref (a 0)), (2, .ref (b 0)), (3, .ref (b 8)), (4, .ref (b 9)), (5, .int i)] := hl
  obtain ⟨v, σ', res, em, er, ea⟩ := e_reach hI (xs (i + 1).toNatClampNeg) (xs (i + 2).toNatClampNeg) (xs (i + 3).toNatClampNeg)
  have ht : ∀ E τ1, res = .inl (E, τ1) → E = eIOB ∨ E = eIAE := fun E τ1 h9 => mem2 (ansE ea E τ1 h9)
  refine lv_aload_n hx hb dL_law_1396 rfl (lv_at hl 1 rfl) ?_
  refine g_arg (k := 1) (k0 := 0) (k5 := 5) hx hb hX hbl hbA hS hl rfl rfl h1 dL_law_1397 dL_law_1398 dL_law_1400 rfl dL_law_1401 dL_law_1402 ?_
  refine g_arg (k := 2) (k0 := 0) (k5 := 5) hx hb hX hbl hbA hS hl rfl rfl h2 dL_law_1403 dL_law_1404 dL_law_1406 rfl dL_law_1407 dL_law_1408 ?_
  refine g_arg (k := 3) (k0 := 0) (k5 := 5) hx hb hX hbl hbA hS hl rfl rfl h3 dL_law_1409 dL_law_1410 dL_law_1412 rfl dL_law_1413 dL_law_1414 ?_
  refine lv_aload_n hx hb dL_law_1415 rfl (lv_at hl 3 rfl) ?_
  refine gLx (gLS S hgK hN hK hP hD hS hA hZ (c_L_reach l D dA zp hfl b a ads fo fd σ τ (xs (i + 1).toNatClampNeg) (xs (i + 2).toNatClampNeg) (xs (i + 3).toNatClampNeg) H.size res er ht) kw_reach (gt_4 (i := 125) rfl rfl) rfl hl.1 rfl ⟨rfl, rfl, Nat.le_of_ble_eq_true rfl, Nat.le_of_ble_eq_true rfl⟩ ⟨hcs.1, hcs.2⟩ (Nat.le_of_ble_eq_true rfl) dL_law_1416) hD hS hA (fun r u ads H locs hp hP hD hS => ?_)
  obtain ⟨τ1, fo1, fd1⟩ := u
  obtain ⟨ht1, hI1, hg1⟩ := lans (tOne_u (by decide +kernel)) (tOne_z (by decide +kernel)) (fun _ => rfl) ea hp
  have hP : va_P D vwCl (wX dA b a ads fo1 fd1 σ τ1) H := hP
  have hD : va_D A (wX dA b a ads fo1 fd1 σ τ1) := hD
  refine lv_istore (lv' := [(6, .int r), (0, .ref b'), (1, .ref (a 0)), (2, .ref (b 0)), (3, .ref (b 8)), (4, .ref (b 9)), (5, .int i)]) hx hb dL_law_1419 hl (by decide) rfl (fun ls hl => ?_)
  refine lv_aload_n hx hb dL_law_1421 rfl (lv_at hl 3 rfl) ?_
  refine g_arg (k := 1) (k0 := 1) (k5 := 6) hx hb hX hbl hbA hS hl rfl rfl h1 dL_law_1422 dL_law_1423 dL_law_1425 rfl dL_law_1426 dL_law_1427 ?_
  refine g_arg (k := 2) (k0 := 1) (k5 := 6) hx hb hX hbl hbA hS hl rfl rfl h2 dL_law_1428 dL_law_1429 dL_law_1431 rfl dL_law_1432 dL_law_1433 ?_
  refine g_arg (k := 3) (k0 := 1) (k5 := 6) hx hb hX hbl hbA hS hl rfl rfl h3 dL_law_1434 dL_law_1435 dL_law_1437 rfl dL_law_1438 dL_law_1439 ?_
  refine gmi (w1 := wX dA b a ads fo1 fd1 σ' τ1) (gmV S hgK hK hP hD hS hA hZ (gGri (ws' := wX dA b a ads fo1 fd1 σ' τ1) (c_m_reach l D dA zp b σ (xs (i + 1).toNatClampNeg) (xs (i + 2).toNatClampNeg) (xs (i + 3).toNatClampNeg) H.size v σ' em) wX_M wX_M) k_X9_reach (gt_8 (i := 104) rfl rfl) 2 rfl rfl rfl hl.1 rfl ⟨rfl, rfl, Nat.le_of_ble_eq_true rfl, Nat.le_of_ble_eq_true rfl⟩ ⟨hcs.1, hcs.2⟩ (Nat.le_of_ble_eq_true rfl) dL_law_1440) hD hS hA (fun H locs hP hD hS => ?_)
  refine lv_istore (lv' := [(7, .int v), (6, .int r), (0, .ref b'), (1, .ref (a 0)), (2, .ref (b 0)), (3, .ref (b 8)), (4, .ref (b 9)), (5, .int i)]) hx hb dL_law_1443 hl (by decide) rfl (fun ls hl => ?_)
  refine lv_aload_n hx hb dL_law_1445 rfl (lv_at hl 4 rfl) ?_
  refine gci (gcV S hgK hK hP hS hZ (gGrR (c_m_thrown l D dA zp b σ' r (by rw [← ht1]; rfl)) wX_M) k_X9_thrown (gt_7 (i := 107) rfl rfl) 2 rfl rfl rfl hl.1 rfl ⟨rfl, rfl, Nat.le_of_ble_eq_true rfl, Nat.le_of_ble_eq_true rfl⟩ ⟨hcs.1, hcs.2⟩ (Nat.le_of_ble_eq_true rfl) dL_law_1446) ?_
  refine lv_iload hx hb dL_law_1449 (lv_at hl 1 rfl) ?_
  refine lv_icmp_eq (tgt := 1456) hx hb dL_law_1451 (by decide) (fun _ => ?_) (fun h9 => absurd rfl h9)
  refine lv_iload hx hb dL_law_1456 (lv_at hl 1 rfl) ?_
  refine lv_if_ne (tgt := 1473) hx hb dL_law_1458 (by decide) (fun hne => ?_) (fun heq => ?_)
  · refine lv_goto (tgt := 2394) hx hb dL_law_1473 (by decide) ?_
    exact K _ _ _ _ _ _ _ _ hI1 hP hD hS (lv_sub hl [2, 3, 4, 5, 6, 7] rfl)
  · obtain rfl : fo1 = vp_updL fo 0 v.toInt64 := congrArg (fun z => z.2.1) (hg1 heq)
    refine lv_aload_n hx hb dL_law_1461 rfl (lv_at hl 5 rfl) ?_
    refine lv_iconst (v := 0) hx hb dL_law_1462 (by decide) ?_
    refine g_lald (k := 0) hx hb hK hP 0 1 rfl rfl (by decide) (by decide) dL_law_1463 ?_
    refine lv_iload hx hb dL_law_1464 (lv_at hl 0 rfl) ?_
    refine lv_i2l (v := v.toInt64) hx hb dL_law_1466 rfl ?_
    refine gl_eq (tgt := 1473) hx hb dL_law_1467 dL_law_1468 (by decide) (fun _ => ?_) (fun h9 => absurd (if_pos rfl) h9)
    refine lv_goto (tgt := 2394) hx hb dL_law_1473 (by decide) ?_
    exact K _ _ _ _ _ _ _ _ hI1 hP hD hS (lv_sub hl [2, 3, 4, 5, 6, 7] rfl)
theorem kw_measure : gKWs yL_measure cL_measure 6 (some .int) hL_measure 5 := ⟨(gt_4 (i := 140) rfl rfl), (gt_1 (i := 0) rfl rfl), (gt_4 (i := 141) rfl rfl), by decide +kernel⟩
set_option maxHeartbeats 4000000 in
set_option maxRecDepth 100000 in
theorem lc_20 {p : Program} {l : Launch} {e : Env} {s : State} {m : MethodId} {args : Array Value} {below : List Frame} {meth : Method} {c : Code} {D : va_G} {dA : Nat → ClassId} {zp : Nat → Nat} {A : Nat → Prop} {Q : State → Prop} {b' L : Nat} {xs : Nat → Int32} {a b : Nat → Nat} {i : Int32} {ads : gAd} {fo : Nat → Int64} {fd : Nat → UInt64} {σ : MS} {τ : RS} {H : Heap} {locs : List Loc} {ls : Array Slot} {cells slots : Nat}
    (C : lwC p l s m c args D dA zp A b' L xs) (h1 : vp_in (i + 1) L) (h2 : vp_in (i + 2) L) (h3 : vp_in (i + 3) L) (h4 : vp_in (i + 4) L) (hI : mOK σ τ) (hP : va_P D vwCl (wX dA b a ads fo fd σ τ) H) (hD : va_D A (wX dA b a ads fo fd σ τ)) (hS : va_S A s.heap H locs) (hl : lv_has ls 9 (lwL b' a b i)) (hcs : cells + 16 ≤ room_1.cells ∧ slots + 1300 ≤ room_1.slots)
    (K : lwK p l e s m args below meth c D dA A Q b' a b i 2394 (cells + 16) (slots + 1300)) : W p l e room_1 s m args below meth c H locs cells slots Q (F0 m 1476 ls []) := by
  obtain ⟨S, hgK, hN, hK, hA, hZ, hfl, hX, hbl, hbA⟩ := C
  have S : CallFix p m c cL_law 9 s args gT RL := S
  obtain ⟨hx, hb, hml, hown, hts⟩ := id S
  have hl : lv_has ls 9 [(0, .ref b'), (1, .ref (a 0)), (2, .ref (b 0)), (3, .ref (b 8)), (4, .ref (b 9)), (5, .int i)] := hl
  obtain ⟨v, σ', res, em, er, ea⟩ := e_measure hI (xs (i + 1).toNatClampNeg) (xs (i + 2).toNatClampNeg) (xs (i + 3).toNatClampNeg)
  have ht : ∀ E τ1, res = .inl (E, τ1) → E = eIOB ∨ E = eIAE ∨ E = eUOE := fun E τ1 h9 => mem3 (ansE ea E τ1 h9)
  refine lv_aload_n hx hb dL_law_1476 rfl (lv_at hl 1 rfl) ?_
  refine g_arg (k := 1) (k0 := 0) (k5 := 5) hx hb hX hbl hbA hS hl rfl rfl h1 dL_law_1477 dL_law_1478 dL_law_1480 rfl dL_law_1481 dL_law_1482 ?_
  refine g_arg (k := 2) (k0 := 0) (k5 := 5) hx hb hX hbl hbA hS hl rfl rfl h2 dL_law_1483 dL_law_1484 dL_law_1486 rfl dL_law_1487 dL_law_1488 ?_
  refine g_arg (k := 3) (k0 := 0) (k5 := 5) hx hb hX hbl hbA hS hl rfl rfl h3 dL_law_1489 dL_law_1490 dL_law_1492 rfl dL_law_1493 dL_law_1494 ?_
  refine lv_aload_n hx hb dL_law_1495 rfl (lv_at hl 3 rfl) ?_
  refine gLx (gLS S hgK hN hK hP hD hS hA hZ (c_L_measure l D dA zp hfl b a ads fo fd σ τ (xs (i + 1).toNatClampNeg) (xs (i + 2).toNatClampNeg) (xs (i + 3).toNatClampNeg) H.size res er ht) kw_measure (gt_4 (i := 139) rfl rfl) rfl hl.1 rfl ⟨rfl, rfl, Nat.le_of_ble_eq_true rfl, Nat.le_of_ble_eq_true rfl⟩ ⟨hcs.1, hcs.2⟩ (Nat.le_of_ble_eq_true rfl) dL_law_1496) hD hS hA (fun r u ads H locs hp hP hD hS => ?_)
  obtain ⟨τ1, fo1, fd1⟩ := u
  obtain ⟨ht1, hI1, hg1⟩ := lans (tOne_u (by decide +kernel)) (tOne_z (by decide +kernel)) (fun _ => rfl) ea hp
  have hP : va_P D vwCl (wX dA b a ads fo1 fd1 σ τ1) H := hP
  have hD : va_D A (wX dA b a ads fo1 fd1 σ τ1) := hD
  refine lv_istore (lv' := [(6, .int r), (0, .ref b'), (1, .ref (a 0)), (2, .ref (b 0)), (3, .ref (b 8)), (4, .ref (b 9)), (5, .int i)]) hx hb dL_law_1499 hl (by decide) rfl (fun ls hl => ?_)
  refine lv_aload_n hx hb dL_law_1501 rfl (lv_at hl 3 rfl) ?_
  refine g_arg (k := 1) (k0 := 1) (k5 := 6) hx hb hX hbl hbA hS hl rfl rfl h1 dL_law_1502 dL_law_1503 dL_law_1505 rfl dL_law_1506 dL_law_1507 ?_
  refine g_arg (k := 2) (k0 := 1) (k5 := 6) hx hb hX hbl hbA hS hl rfl rfl h2 dL_law_1508 dL_law_1509 dL_law_1511 rfl dL_law_1512 dL_law_1513 ?_
  refine g_arg (k := 3) (k0 := 1) (k5 := 6) hx hb hX hbl hbA hS hl rfl rfl h3 dL_law_1514 dL_law_1515 dL_law_1517 rfl dL_law_1518 dL_law_1519 ?_
  refine gmi (w1 := wX dA b a ads fo1 fd1 σ' τ1) (gmV S hgK hK hP hD hS hA hZ (gGri (ws' := wX dA b a ads fo1 fd1 σ' τ1) (c_m_measure l D dA zp b σ (xs (i + 1).toNatClampNeg) (xs (i + 2).toNatClampNeg) (xs (i + 3).toNatClampNeg) H.size v σ' em) wX_M wX_M) k_X9_measure (gt_8 (i := 108) rfl rfl) 2 rfl rfl rfl hl.1 rfl ⟨rfl, rfl, Nat.le_of_ble_eq_true rfl, Nat.le_of_ble_eq_true rfl⟩ ⟨hcs.1, hcs.2⟩ (Nat.le_of_ble_eq_true rfl) dL_law_1520) hD hS hA (fun H locs hP hD hS => ?_)
  refine lv_istore (lv' := [(7, .int v), (6, .int r), (0, .ref b'), (1, .ref (a 0)), (2, .ref (b 0)), (3, .ref (b 8)), (4, .ref (b 9)), (5, .int i)]) hx hb dL_law_1523 hl (by decide) rfl (fun ls hl => ?_)
  refine lv_aload_n hx hb dL_law_1525 rfl (lv_at hl 4 rfl) ?_
  refine gci (gcV S hgK hK hP hS hZ (gGrR (c_m_thrown l D dA zp b σ' r (by rw [← ht1]; rfl)) wX_M) k_X9_thrown (gt_7 (i := 107) rfl rfl) 2 rfl rfl rfl hl.1 rfl ⟨rfl, rfl, Nat.le_of_ble_eq_true rfl, Nat.le_of_ble_eq_true rfl⟩ ⟨hcs.1, hcs.2⟩ (Nat.le_of_ble_eq_true rfl) dL_law_1526) ?_
  refine lv_iload hx hb dL_law_1529 (lv_at hl 1 rfl) ?_
  refine lv_icmp_eq (tgt := 1536) hx hb dL_law_1531 (by decide) (fun _ => ?_) (fun h9 => absurd rfl h9)
  refine lv_iload hx hb dL_law_1536 (lv_at hl 1 rfl) ?_
  refine lv_if_ne (tgt := 1553) hx hb dL_law_1538 (by decide) (fun hne => ?_) (fun heq => ?_)
  · refine lv_goto (tgt := 2394) hx hb dL_law_1553 (by decide) ?_
    exact K _ _ _ _ _ _ _ _ hI1 hP hD hS (lv_sub hl [2, 3, 4, 5, 6, 7] rfl)
  · obtain rfl : fo1 = vp_updL fo 0 v.toInt64 := congrArg (fun z => z.2.1) (hg1 heq)
    refine lv_aload_n hx hb dL_law_1541 rfl (lv_at hl 5 rfl) ?_
    refine lv_iconst (v := 0) hx hb dL_law_1542 (by decide) ?_
    refine g_lald (k := 0) hx hb hK hP 0 1 rfl rfl (by decide) (by decide) dL_law_1543 ?_
    refine lv_iload hx hb dL_law_1544 (lv_at hl 0 rfl) ?_
    refine lv_i2l (v := v.toInt64) hx hb dL_law_1546 rfl ?_
    refine gl_eq (tgt := 1553) hx hb dL_law_1547 dL_law_1548 (by decide) (fun _ => ?_) (fun h9 => absurd (if_pos rfl) h9)
    refine lv_goto (tgt := 2394) hx hb dL_law_1553 (by decide) ?_
    exact K _ _ _ _ _ _ _ _ hI1 hP hD hS (lv_sub hl [2, 3, 4, 5, 6, 7] rfl)
theorem kw_measurement : gKWs yL_measurement cL_measurement 5 (some .int) hL_measurement 4 := ⟨(gt_4 (i := 167) rfl rfl), (gt_1 (i := 0) rfl rfl), (gt_4 (i := 168) rfl rfl), by decide +kernel⟩
set_option maxHeartbeats 4000000 in
set_option maxRecDepth 100000 in
theorem lc_21 {p : Program} {l : Launch} {e : Env} {s : State} {m : MethodId} {args : Array Value} {below : List Frame} {meth : Method} {c : Code} {D : va_G} {dA : Nat → ClassId} {zp : Nat → Nat} {A : Nat → Prop} {Q : State → Prop} {b' L : Nat} {xs : Nat → Int32} {a b : Nat → Nat} {i : Int32} {ads : gAd} {fo : Nat → Int64} {fd : Nat → UInt64} {σ : MS} {τ : RS} {H : Heap} {locs : List Loc} {ls : Array Slot} {cells slots : Nat}
    (C : lwC p l s m c args D dA zp A b' L xs) (h1 : vp_in (i + 1) L) (h2 : vp_in (i + 2) L) (h3 : vp_in (i + 3) L) (h4 : vp_in (i + 4) L) (hI : mOK σ τ) (hP : va_P D vwCl (wX dA b a ads fo fd σ τ) H) (hD : va_D A (wX dA b a ads fo fd σ τ)) (hS : va_S A s.heap H locs) (hl : lv_has ls 9 (lwL b' a b i)) (hcs : cells + 16 ≤ room_1.cells ∧ slots + 1300 ≤ room_1.slots)
    (K : lwK p l e s m args below meth c D dA A Q b' a b i 2394 (cells + 16) (slots + 1300)) : W p l e room_1 s m args below meth c H locs cells slots Q (F0 m 1556 ls []) := by
  obtain ⟨S, hgK, hN, hK, hA, hZ, hfl, hX, hbl, hbA⟩ := C
  have S : CallFix p m c cL_law 9 s args gT RL := S
  obtain ⟨hx, hb, hml, hown, hts⟩ := id S
  have hl : lv_has ls 9 [(0, .ref b'), (1, .ref (a 0)), (2, .ref (b 0)), (3, .ref (b 8)), (4, .ref (b 9)), (5, .int i)] := hl
  obtain ⟨v, σ', res, em, er, ea⟩ := e_measurement hI (xs (i + 1).toNatClampNeg) (xs (i + 2).toNatClampNeg)
  have ht : ∀ E τ1, res = .inl (E, τ1) → E = eIOB ∨ E = eIAE := fun E τ1 h9 => mem2 (ansE ea E τ1 h9)
  refine lv_aload_n hx hb dL_law_1556 rfl (lv_at hl 1 rfl) ?_
  refine g_arg (k := 1) (k0 := 0) (k5 := 5) hx hb hX hbl hbA hS hl rfl rfl h1 dL_law_1557 dL_law_1558 dL_law_1560 rfl dL_law_1561 dL_law_1562 ?_
  refine g_arg (k := 2) (k0 := 0) (k5 := 5) hx hb hX hbl hbA hS hl rfl rfl h2 dL_law_1563 dL_law_1564 dL_law_1566 rfl dL_law_1567 dL_law_1568 ?_
  refine lv_aload_n hx hb dL_law_1569 rfl (lv_at hl 3 rfl) ?_
  refine gLx (gLS S hgK hN hK hP hD hS hA hZ (c_L_measurement l D dA zp hfl b a ads fo fd σ τ (xs (i + 1).toNatClampNeg) (xs (i + 2).toNatClampNeg) H.size res er ht) kw_measurement (gt_4 (i := 166) rfl rfl) rfl hl.1 rfl ⟨rfl, rfl, Nat.le_of_ble_eq_true rfl, Nat.le_of_ble_eq_true rfl⟩ ⟨hcs.1, hcs.2⟩ (Nat.le_of_ble_eq_true rfl) dL_law_1570) hD hS hA (fun r u ads H locs hp hP hD hS => ?_)
  obtain ⟨τ1, fo1, fd1⟩ := u
  obtain ⟨ht1, hI1, hg1⟩ := lans (tOne_u (by decide +kernel)) (tOne_z (by decide +kernel)) (fun _ => rfl) ea hp
  have hP : va_P D vwCl (wX dA b a ads fo1 fd1 σ τ1) H := hP
  have hD : va_D A (wX dA b a ads fo1 fd1 σ τ1) := hD
  refine lv_istore (lv' := [(6, .int r), (0, .ref b'), (1, .ref (a 0)), (2, .ref (b 0)), (3, .ref (b 8)), (4, .ref (b 9)), (5, .int i)]) hx hb dL_law_1573 hl (by decide) rfl (fun ls hl => ?_)
  refine lv_aload_n hx hb dL_law_1575 rfl (lv_at hl 3 rfl) ?_
  refine g_arg (k := 1) (k0 := 1) (k5 := 6) hx hb hX hbl hbA hS hl rfl rfl h1 dL_law_1576 dL_law_1577 dL_law_1579 rfl dL_law_1580 dL_law_1581 ?_
  refine g_arg (k := 2) (k0 := 1) (k5 := 6) hx hb hX hbl hbA hS hl rfl rfl h2 dL_law_1582 dL_law_1583 dL_law_1585 rfl dL_law_1586 dL_law_1587 ?_
  refine gmi (w1 := wX dA b a ads fo1 fd1 σ' τ1) (gmV S hgK hK hP hD hS hA hZ (gGri (ws' := wX dA b a ads fo1 fd1 σ' τ1) (c_m_measurement l D dA zp b σ (xs (i + 1).toNatClampNeg) (xs (i + 2).toNatClampNeg) H.size v σ' em) wX_M wX_M) k_X9_measurement (gt_8 (i := 122) rfl rfl) 2 rfl rfl rfl hl.1 rfl ⟨rfl, rfl, Nat.le_of_ble_eq_true rfl, Nat.le_of_ble_eq_true rfl⟩ ⟨hcs.1, hcs.2⟩ (Nat.le_of_ble_eq_true rfl) dL_law_1588) hD hS hA (fun H locs hP hD hS => ?_)
  refine lv_istore (lv' := [(7, .int v), (6, .int r), (0, .ref b'), (1, .ref (a 0)), (2, .ref (b 0)), (3, .ref (b 8)), (4, .ref (b 9)), (5, .int i)]) hx hb dL_law_1591 hl (by decide) rfl (fun ls hl => ?_)
  refine lv_aload_n hx hb dL_law_1593 rfl (lv_at hl 4 rfl) ?_
  refine gci (gcV S hgK hK hP hS hZ (gGrR (c_m_thrown l D dA zp b σ' r (by rw [← ht1]; rfl)) wX_M) k_X9_thrown (gt_7 (i := 107) rfl rfl) 2 rfl rfl rfl hl.1 rfl ⟨rfl, rfl, Nat.le_of_ble_eq_true rfl, Nat.le_of_ble_eq_true rfl⟩ ⟨hcs.1, hcs.2⟩ (Nat.le_of_ble_eq_true rfl) dL_law_1594) ?_
  refine lv_iload hx hb dL_law_1597 (lv_at hl 1 rfl) ?_
  refine lv_icmp_eq (tgt := 1604) hx hb dL_law_1599 (by decide) (fun _ => ?_) (fun h9 => absurd rfl h9)
  refine lv_iload hx hb dL_law_1604 (lv_at hl 1 rfl) ?_
  refine lv_if_ne (tgt := 1621) hx hb dL_law_1606 (by decide) (fun hne => ?_) (fun heq => ?_)
  · refine lv_goto (tgt := 2394) hx hb dL_law_1621 (by decide) ?_
    exact K _ _ _ _ _ _ _ _ hI1 hP hD hS (lv_sub hl [2, 3, 4, 5, 6, 7] rfl)
  · obtain rfl : fo1 = vp_updL fo 0 v.toInt64 := congrArg (fun z => z.2.1) (hg1 heq)
    refine lv_aload_n hx hb dL_law_1609 rfl (lv_at hl 5 rfl) ?_
    refine lv_iconst (v := 0) hx hb dL_law_1610 (by decide) ?_
    refine g_lald (k := 0) hx hb hK hP 0 1 rfl rfl (by decide) (by decide) dL_law_1611 ?_
    refine lv_iload hx hb dL_law_1612 (lv_at hl 0 rfl) ?_
    refine lv_i2l (v := v.toInt64) hx hb dL_law_1614 rfl ?_
    refine gl_eq (tgt := 1621) hx hb dL_law_1615 dL_law_1616 (by decide) (fun _ => ?_) (fun h9 => absurd (if_pos rfl) h9)
    refine lv_goto (tgt := 2394) hx hb dL_law_1621 (by decide) ?_
    exact K _ _ _ _ _ _ _ _ hI1 hP hD hS (lv_sub hl [2, 3, 4, 5, 6, 7] rfl)
theorem kw_again : gKWs yL_again cL_again 4 (some .int) hL_again 3 := ⟨(gt_4 (i := 178) rfl rfl), (gt_1 (i := 0) rfl rfl), (gt_4 (i := 179) rfl rfl), by decide +kernel⟩
set_option maxHeartbeats 4000000 in
set_option maxRecDepth 100000 in
theorem lc_22 {p : Program} {l : Launch} {e : Env} {s : State} {m : MethodId} {args : Array Value} {below : List Frame} {meth : Method} {c : Code} {D : va_G} {dA : Nat → ClassId} {zp : Nat → Nat} {A : Nat → Prop} {Q : State → Prop} {b' L : Nat} {xs : Nat → Int32} {a b : Nat → Nat} {i : Int32} {ads : gAd} {fo : Nat → Int64} {fd : Nat → UInt64} {σ : MS} {τ : RS} {H : Heap} {locs : List Loc} {ls : Array Slot} {cells slots : Nat}
    (C : lwC p l s m c args D dA zp A b' L xs) (h1 : vp_in (i + 1) L) (h2 : vp_in (i + 2) L) (h3 : vp_in (i + 3) L) (h4 : vp_in (i + 4) L) (hI : mOK σ τ) (hP : va_P D vwCl (wX dA b a ads fo fd σ τ) H) (hD : va_D A (wX dA b a ads fo fd σ τ)) (hS : va_S A s.heap H locs) (hl : lv_has ls 9 (lwL b' a b i)) (hcs : cells + 16 ≤ room_1.cells ∧ slots + 1300 ≤ room_1.slots)
    (K : lwK p l e s m args below meth c D dA A Q b' a b i 2394 (cells + 16) (slots + 1300)) : W p l e room_1 s m args below meth c H locs cells slots Q (F0 m 1624 ls []) := by
  obtain ⟨S, hgK, hN, hK, hA, hZ, hfl, hX, hbl, hbA⟩ := C
  have S : CallFix p m c cL_law 9 s args gT RL := S
  obtain ⟨hx, hb, hml, hown, hts⟩ := id S
  have hl : lv_has ls 9 [(0, .ref b'), (1, .ref (a 0)), (2, .ref (b 0)), (3, .ref (b 8)), (4, .ref (b 9)), (5, .int i)] := hl
  obtain ⟨v, σ', res, em, er, ea⟩ := e_again hI (xs (i + 1).toNatClampNeg)
  have ht : ∀ E τ1, res = .inl (E, τ1) → E = eIOB ∨ E = eNSE := fun E τ1 h9 => mem2 (ansE ea E τ1 h9)
  refine lv_aload_n hx hb dL_law_1624 rfl (lv_at hl 1 rfl) ?_
  refine g_arg (k := 1) (k0 := 0) (k5 := 5) hx hb hX hbl hbA hS hl rfl rfl h1 dL_law_1625 dL_law_1626 dL_law_1628 rfl dL_law_1629 dL_law_1630 ?_
  refine lv_aload_n hx hb dL_law_1631 rfl (lv_at hl 3 rfl) ?_
  refine gLx (gLS S hgK hN hK hP hD hS hA hZ (c_L_again l D dA zp hfl b a ads fo fd σ τ (xs (i + 1).toNatClampNeg) H.size res er ht) kw_again (gt_4 (i := 177) rfl rfl) rfl hl.1 rfl ⟨rfl, rfl, Nat.le_of_ble_eq_true rfl, Nat.le_of_ble_eq_true rfl⟩ ⟨hcs.1, hcs.2⟩ (Nat.le_of_ble_eq_true rfl) dL_law_1632) hD hS hA (fun r u ads H locs hp hP hD hS => ?_)
  obtain ⟨τ1, fo1, fd1⟩ := u
  obtain ⟨ht1, hI1, hg1⟩ := lans (tOne_u (by decide +kernel)) (tOne_z (by decide +kernel)) (fun _ => rfl) ea hp
  have hP : va_P D vwCl (wX dA b a ads fo1 fd1 σ τ1) H := hP
  have hD : va_D A (wX dA b a ads fo1 fd1 σ τ1) := hD
  refine lv_istore (lv' := [(6, .int r), (0, .ref b'), (1, .ref (a 0)), (2, .ref (b 0)), (3, .ref (b 8)), (4, .ref (b 9)), (5, .int i)]) hx hb dL_law_1635 hl (by decide) rfl (fun ls hl => ?_)
  refine lv_aload_n hx hb dL_law_1637 rfl (lv_at hl 3 rfl) ?_
  refine g_arg (k := 1) (k0 := 1) (k5 := 6) hx hb hX hbl hbA hS hl rfl rfl h1 dL_law_1638 dL_law_1639 dL_law_1641 rfl dL_law_1642 dL_law_1643 ?_
  refine gmi (w1 := wX dA b a ads fo1 fd1 σ' τ1) (gmV S hgK hK hP hD hS hA hZ (gGri (ws' := wX dA b a ads fo1 fd1 σ' τ1) (c_m_again l D dA zp b σ (xs (i + 1).toNatClampNeg) H.size v σ' em) wX_M wX_M) k_X9_again (gt_8 (i := 127) rfl rfl) 2 rfl rfl rfl hl.1 rfl ⟨rfl, rfl, Nat.le_of_ble_eq_true rfl, Nat.le_of_ble_eq_true rfl⟩ ⟨hcs.1, hcs.2⟩ (Nat.le_of_ble_eq_true rfl) dL_law_1644) hD hS hA (fun H locs hP hD hS => ?_)
  refine lv_istore (lv' := [(7, .int v), (6, .int r), (0, .ref b'), (1, .ref (a 0)), (2, .ref (b 0)), (3, .ref (b 8)), (4, .ref (b 9)), (5, .int i)]) hx hb dL_law_1647 hl (by decide) rfl (fun ls hl => ?_)
  refine lv_aload_n hx hb dL_law_1649 rfl (lv_at hl 4 rfl) ?_
  refine gci (gcV S hgK hK hP hS hZ (gGrR (c_m_thrown l D dA zp b σ' r (by rw [← ht1]; rfl)) wX_M) k_X9_thrown (gt_7 (i := 107) rfl rfl) 2 rfl rfl rfl hl.1 rfl ⟨rfl, rfl, Nat.le_of_ble_eq_true rfl, Nat.le_of_ble_eq_true rfl⟩ ⟨hcs.1, hcs.2⟩ (Nat.le_of_ble_eq_true rfl) dL_law_1650) ?_
  refine lv_iload hx hb dL_law_1653 (lv_at hl 1 rfl) ?_
  refine lv_icmp_eq (tgt := 1660) hx hb dL_law_1655 (by decide) (fun _ => ?_) (fun h9 => absurd rfl h9)
  refine lv_iload hx hb dL_law_1660 (lv_at hl 1 rfl) ?_
  refine lv_if_ne (tgt := 1677) hx hb dL_law_1662 (by decide) (fun hne => ?_) (fun heq => ?_)
  · refine lv_goto (tgt := 2394) hx hb dL_law_1677 (by decide) ?_
    exact K _ _ _ _ _ _ _ _ hI1 hP hD hS (lv_sub hl [2, 3, 4, 5, 6, 7] rfl)
  · obtain rfl : fo1 = vp_updL fo 0 v.toInt64 := congrArg (fun z => z.2.1) (hg1 heq)
    refine lv_aload_n hx hb dL_law_1665 rfl (lv_at hl 5 rfl) ?_
    refine lv_iconst (v := 0) hx hb dL_law_1666 (by decide) ?_
    refine g_lald (k := 0) hx hb hK hP 0 1 rfl rfl (by decide) (by decide) dL_law_1667 ?_
    refine lv_iload hx hb dL_law_1668 (lv_at hl 0 rfl) ?_
    refine lv_i2l (v := v.toInt64) hx hb dL_law_1670 rfl ?_
    refine gl_eq (tgt := 1677) hx hb dL_law_1671 dL_law_1672 (by decide) (fun _ => ?_) (fun h9 => absurd (if_pos rfl) h9)
    refine lv_goto (tgt := 2394) hx hb dL_law_1677 (by decide) ?_
    exact K _ _ _ _ _ _ _ _ hI1 hP hD hS (lv_sub hl [2, 3, 4, 5, 6, 7] rfl)
theorem kw_issue : gKWs yL_issue cL_issue 4 (some .int) hL_issue 3 := ⟨(gt_4 (i := 189) rfl rfl), (gt_1 (i := 0) rfl rfl), (gt_4 (i := 190) rfl rfl), by decide +kernel⟩
set_option maxHeartbeats 4000000 in
set_option maxRecDepth 100000 in
theorem lc_23 {p : Program} {l : Launch} {e : Env} {s : State} {m : MethodId} {args : Array Value} {below : List Frame} {meth : Method} {c : Code} {D : va_G} {dA : Nat → ClassId} {zp : Nat → Nat} {A : Nat → Prop} {Q : State → Prop} {b' L : Nat} {xs : Nat → Int32} {a b : Nat → Nat} {i : Int32} {ads : gAd} {fo : Nat → Int64} {fd : Nat → UInt64} {σ : MS} {τ : RS} {H : Heap} {locs : List Loc} {ls : Array Slot} {cells slots : Nat}
    (C : lwC p l s m c args D dA zp A b' L xs) (h1 : vp_in (i + 1) L) (h2 : vp_in (i + 2) L) (h3 : vp_in (i + 3) L) (h4 : vp_in (i + 4) L) (hI : mOK σ τ) (hP : va_P D vwCl (wX dA b a ads fo fd σ τ) H) (hD : va_D A (wX dA b a ads fo fd σ τ)) (hS : va_S A s.heap H locs) (hl : lv_has ls 9 (lwL b' a b i)) (hcs : cells + 16 ≤ room_1.cells ∧ slots + 1300 ≤ room_1.slots)
    (K : lwK p l e s m args below meth c D dA A Q b' a b i 2394 (cells + 16) (slots + 1300)) : W p l e room_1 s m args below meth c H locs cells slots Q (F0 m 1680 ls []) := by
  obtain ⟨S, hgK, hN, hK, hA, hZ, hfl, hX, hbl, hbA⟩ := C
  have S : CallFix p m c cL_law 9 s args gT RL := S
  obtain ⟨hx, hb, hml, hown, hts⟩ := id S
  have hl : lv_has ls 9 [(0, .ref b'), (1, .ref (a 0)), (2, .ref (b 0)), (3, .ref (b 8)), (4, .ref (b 9)), (5, .int i)] := hl
  obtain ⟨v, σ', res, em, er, ea⟩ := e_issue hI (xs (i + 1).toNatClampNeg)
  have ht : ∀ E τ1, res = .inl (E, τ1) → E = eIOB ∨ E = eUOE := fun E τ1 h9 => mem2 (ansE ea E τ1 h9)
  refine lv_aload_n hx hb dL_law_1680 rfl (lv_at hl 1 rfl) ?_
  refine g_arg (k := 1) (k0 := 0) (k5 := 5) hx hb hX hbl hbA hS hl rfl rfl h1 dL_law_1681 dL_law_1682 dL_law_1684 rfl dL_law_1685 dL_law_1686 ?_
  refine lv_aload_n hx hb dL_law_1687 rfl (lv_at hl 3 rfl) ?_
  refine gLx (gLS S hgK hN hK hP hD hS hA hZ (c_L_issue l D dA zp hfl b a ads fo fd σ τ (xs (i + 1).toNatClampNeg) H.size res er ht) kw_issue (gt_4 (i := 188) rfl rfl) rfl hl.1 rfl ⟨rfl, rfl, Nat.le_of_ble_eq_true rfl, Nat.le_of_ble_eq_true rfl⟩ ⟨hcs.1, hcs.2⟩ (Nat.le_of_ble_eq_true rfl) dL_law_1688) hD hS hA (fun r u ads H locs hp hP hD hS => ?_)
  obtain ⟨τ1, fo1, fd1⟩ := u
  obtain ⟨ht1, hI1, hg1⟩ := lans (tOne_u (by decide +kernel)) (tOne_z (by decide +kernel)) (fun _ => rfl) ea hp
  have hP : va_P D vwCl (wX dA b a ads fo1 fd1 σ τ1) H := hP
  have hD : va_D A (wX dA b a ads fo1 fd1 σ τ1) := hD
  refine lv_istore (lv' := [(6, .int r), (0, .ref b'), (1, .ref (a 0)), (2, .ref (b 0)), (3, .ref (b 8)), (4, .ref (b 9)), (5, .int i)]) hx hb dL_law_1691 hl (by decide) rfl (fun ls hl => ?_)
  refine lv_aload_n hx hb dL_law_1693 rfl (lv_at hl 3 rfl) ?_
  refine g_arg (k := 1) (k0 := 1) (k5 := 6) hx hb hX hbl hbA hS hl rfl rfl h1 dL_law_1694 dL_law_1695 dL_law_1697 rfl dL_law_1698 dL_law_1699 ?_
  refine gmi (w1 := wX dA b a ads fo1 fd1 σ' τ1) (gmV S hgK hK hP hD hS hA hZ (gGri (ws' := wX dA b a ads fo1 fd1 σ' τ1) (c_m_issue l D dA zp b σ (xs (i + 1).toNatClampNeg) H.size v σ' em) wX_M wX_M) k_X9_issue (gt_8 (i := 131) rfl rfl) 2 rfl rfl rfl hl.1 rfl ⟨rfl, rfl, Nat.le_of_ble_eq_true rfl, Nat.le_of_ble_eq_true rfl⟩ ⟨hcs.1, hcs.2⟩ (Nat.le_of_ble_eq_true rfl) dL_law_1700) hD hS hA (fun H locs hP hD hS => ?_)
  refine lv_istore (lv' := [(7, .int v), (6, .int r), (0, .ref b'), (1, .ref (a 0)), (2, .ref (b 0)), (3, .ref (b 8)), (4, .ref (b 9)), (5, .int i)]) hx hb dL_law_1703 hl (by decide) rfl (fun ls hl => ?_)
  refine lv_aload_n hx hb dL_law_1705 rfl (lv_at hl 4 rfl) ?_
  refine gci (gcV S hgK hK hP hS hZ (gGrR (c_m_thrown l D dA zp b σ' r (by rw [← ht1]; rfl)) wX_M) k_X9_thrown (gt_7 (i := 107) rfl rfl) 2 rfl rfl rfl hl.1 rfl ⟨rfl, rfl, Nat.le_of_ble_eq_true rfl, Nat.le_of_ble_eq_true rfl⟩ ⟨hcs.1, hcs.2⟩ (Nat.le_of_ble_eq_true rfl) dL_law_1706) ?_
  refine lv_iload hx hb dL_law_1709 (lv_at hl 1 rfl) ?_
  refine lv_icmp_eq (tgt := 1716) hx hb dL_law_1711 (by decide) (fun _ => ?_) (fun h9 => absurd rfl h9)
  refine lv_iload hx hb dL_law_1716 (lv_at hl 1 rfl) ?_
  refine lv_if_ne (tgt := 1733) hx hb dL_law_1718 (by decide) (fun hne => ?_) (fun heq => ?_)
  · refine lv_goto (tgt := 2394) hx hb dL_law_1733 (by decide) ?_
    exact K _ _ _ _ _ _ _ _ hI1 hP hD hS (lv_sub hl [2, 3, 4, 5, 6, 7] rfl)
  · obtain rfl : fo1 = vp_updL fo 0 v.toInt64 := congrArg (fun z => z.2.1) (hg1 heq)
    refine lv_aload_n hx hb dL_law_1721 rfl (lv_at hl 5 rfl) ?_
    refine lv_iconst (v := 0) hx hb dL_law_1722 (by decide) ?_
    refine g_lald (k := 0) hx hb hK hP 0 1 rfl rfl (by decide) (by decide) dL_law_1723 ?_
    refine lv_iload hx hb dL_law_1724 (lv_at hl 0 rfl) ?_
    refine lv_i2l (v := v.toInt64) hx hb dL_law_1726 rfl ?_
    refine gl_eq (tgt := 1733) hx hb dL_law_1727 dL_law_1728 (by decide) (fun _ => ?_) (fun h9 => absurd (if_pos rfl) h9)
    refine lv_goto (tgt := 2394) hx hb dL_law_1733 (by decide) ?_
    exact K _ _ _ _ _ _ _ _ hI1 hP hD hS (lv_sub hl [2, 3, 4, 5, 6, 7] rfl)
theorem kw_certificate : gKWs yL_certificate cL_certificate 5 (some .int) hL_certificate 4 := ⟨(gt_4 (i := 205) rfl rfl), (gt_1 (i := 0) rfl rfl), (gt_4 (i := 206) rfl rfl), by decide +kernel⟩
set_option maxHeartbeats 4000000 in
set_option maxRecDepth 100000 in
theorem lc_24 {p : Program} {l : Launch} {e : Env} {s : State} {m : MethodId} {args : Array Value} {below : List Frame} {meth : Method} {c : Code} {D : va_G} {dA : Nat → ClassId} {zp : Nat → Nat} {A : Nat → Prop} {Q : State → Prop} {b' L : Nat} {xs : Nat → Int32} {a b : Nat → Nat} {i : Int32} {ads : gAd} {fo : Nat → Int64} {fd : Nat → UInt64} {σ : MS} {τ : RS} {H : Heap} {locs : List Loc} {ls : Array Slot} {cells slots : Nat}
    (C : lwC p l s m c args D dA zp A b' L xs) (h1 : vp_in (i + 1) L) (h2 : vp_in (i + 2) L) (h3 : vp_in (i + 3) L) (h4 : vp_in (i + 4) L) (hI : mOK σ τ) (hP : va_P D vwCl (wX dA b a ads fo fd σ τ) H) (hD : va_D A (wX dA b a ads fo fd σ τ)) (hS : va_S A s.heap H locs) (hl : lv_has ls 9 (lwL b' a b i)) (hcs : cells + 16 ≤ room_1.cells ∧ slots + 1300 ≤ room_1.slots)
    (K : lwK p l e s m args below meth c D dA A Q b' a b i 2394 (cells + 16) (slots + 1300)) : W p l e room_1 s m args below meth c H locs cells slots Q (F0 m 1736 ls []) := by
  obtain ⟨S, hgK, hN, hK, hA, hZ, hfl, hX, hbl, hbA⟩ := C
  have S : CallFix p m c cL_law 9 s args gT RL := S
  obtain ⟨hx, hb, hml, hown, hts⟩ := id S
  have hl : lv_has ls 9 [(0, .ref b'), (1, .ref (a 0)), (2, .ref (b 0)), (3, .ref (b 8)), (4, .ref (b 9)), (5, .int i)] := hl
  obtain ⟨v, σ', res, em, er, ea⟩ := e_certificate hI (xs (i + 1).toNatClampNeg) (xs (i + 2).toNatClampNeg)
  have ht : ∀ E τ1, res = .inl (E, τ1) → E = eIOB ∨ E = eIAE := fun E τ1 h9 => mem2 (ansE ea E τ1 h9)
  refine lv_aload_n hx hb dL_law_1736 rfl (lv_at hl 1 rfl) ?_
  refine g_arg (k := 1) (k0 := 0) (k5 := 5) hx hb hX hbl hbA hS hl rfl rfl h1 dL_law_1737 dL_law_1738 dL_law_1740 rfl dL_law_1741 dL_law_1742 ?_
  refine g_arg (k := 2) (k0 := 0) (k5 := 5) hx hb hX hbl hbA hS hl rfl rfl h2 dL_law_1743 dL_law_1744 dL_law_1746 rfl dL_law_1747 dL_law_1748 ?_
  refine lv_aload_n hx hb dL_law_1749 rfl (lv_at hl 3 rfl) ?_
  refine gLx (gLS S hgK hN hK hP hD hS hA hZ (c_L_certificate l D dA zp hfl b a ads fo fd σ τ (xs (i + 1).toNatClampNeg) (xs (i + 2).toNatClampNeg) H.size res er ht) kw_certificate (gt_4 (i := 204) rfl rfl) rfl hl.1 rfl ⟨rfl, rfl, Nat.le_of_ble_eq_true rfl, Nat.le_of_ble_eq_true rfl⟩ ⟨hcs.1, hcs.2⟩ (Nat.le_of_ble_eq_true rfl) dL_law_1750) hD hS hA (fun r u ads H locs hp hP hD hS => ?_)
  obtain ⟨τ1, fo1, fd1⟩ := u
  obtain ⟨ht1, hI1, hg1⟩ := lans (tOne_u (by decide +kernel)) (tOne_z (by decide +kernel)) (fun _ => rfl) ea hp
  have hP : va_P D vwCl (wX dA b a ads fo1 fd1 σ τ1) H := hP
  have hD : va_D A (wX dA b a ads fo1 fd1 σ τ1) := hD
  refine lv_istore (lv' := [(6, .int r), (0, .ref b'), (1, .ref (a 0)), (2, .ref (b 0)), (3, .ref (b 8)), (4, .ref (b 9)), (5, .int i)]) hx hb dL_law_1753 hl (by decide) rfl (fun ls hl => ?_)
  refine lv_aload_n hx hb dL_law_1755 rfl (lv_at hl 3 rfl) ?_
  refine g_arg (k := 1) (k0 := 1) (k5 := 6) hx hb hX hbl hbA hS hl rfl rfl h1 dL_law_1756 dL_law_1757 dL_law_1759 rfl dL_law_1760 dL_law_1761 ?_
  refine g_arg (k := 2) (k0 := 1) (k5 := 6) hx hb hX hbl hbA hS hl rfl rfl h2 dL_law_1762 dL_law_1763 dL_law_1765 rfl dL_law_1766 dL_law_1767 ?_
  refine gmi (w1 := wX dA b a ads fo1 fd1 σ' τ1) (gmV S hgK hK hP hD hS hA hZ (gGri (ws' := wX dA b a ads fo1 fd1 σ' τ1) (c_m_certificate l D dA zp b σ (xs (i + 1).toNatClampNeg) (xs (i + 2).toNatClampNeg) H.size v σ' em) wX_M wX_M) k_X9_certificate (gt_8 (i := 136) rfl rfl) 2 rfl rfl rfl hl.1 rfl ⟨rfl, rfl, Nat.le_of_ble_eq_true rfl, Nat.le_of_ble_eq_true rfl⟩ ⟨hcs.1, hcs.2⟩ (Nat.le_of_ble_eq_true rfl) dL_law_1768) hD hS hA (fun H locs hP hD hS => ?_)
  refine lv_istore (lv' := [(7, .int v), (6, .int r), (0, .ref b'), (1, .ref (a 0)), (2, .ref (b 0)), (3, .ref (b 8)), (4, .ref (b 9)), (5, .int i)]) hx hb dL_law_1771 hl (by decide) rfl (fun ls hl => ?_)
  refine lv_aload_n hx hb dL_law_1773 rfl (lv_at hl 4 rfl) ?_
  refine gci (gcV S hgK hK hP hS hZ (gGrR (c_m_thrown l D dA zp b σ' r (by rw [← ht1]; rfl)) wX_M) k_X9_thrown (gt_7 (i := 107) rfl rfl) 2 rfl rfl rfl hl.1 rfl ⟨rfl, rfl, Nat.le_of_ble_eq_true rfl, Nat.le_of_ble_eq_true rfl⟩ ⟨hcs.1, hcs.2⟩ (Nat.le_of_ble_eq_true rfl) dL_law_1774) ?_
  refine lv_iload hx hb dL_law_1777 (lv_at hl 1 rfl) ?_
  refine lv_icmp_eq (tgt := 1784) hx hb dL_law_1779 (by decide) (fun _ => ?_) (fun h9 => absurd rfl h9)
  refine lv_iload hx hb dL_law_1784 (lv_at hl 1 rfl) ?_
  refine lv_if_ne (tgt := 1801) hx hb dL_law_1786 (by decide) (fun hne => ?_) (fun heq => ?_)
  · refine lv_goto (tgt := 2394) hx hb dL_law_1801 (by decide) ?_
    exact K _ _ _ _ _ _ _ _ hI1 hP hD hS (lv_sub hl [2, 3, 4, 5, 6, 7] rfl)
  · obtain rfl : fo1 = vp_updL fo 0 v.toInt64 := congrArg (fun z => z.2.1) (hg1 heq)
    refine lv_aload_n hx hb dL_law_1789 rfl (lv_at hl 5 rfl) ?_
    refine lv_iconst (v := 0) hx hb dL_law_1790 (by decide) ?_
    refine g_lald (k := 0) hx hb hK hP 0 1 rfl rfl (by decide) (by decide) dL_law_1791 ?_
    refine lv_iload hx hb dL_law_1792 (lv_at hl 0 rfl) ?_
    refine lv_i2l (v := v.toInt64) hx hb dL_law_1794 rfl ?_
    refine gl_eq (tgt := 1801) hx hb dL_law_1795 dL_law_1796 (by decide) (fun _ => ?_) (fun h9 => absurd (if_pos rfl) h9)
    refine lv_goto (tgt := 2394) hx hb dL_law_1801 (by decide) ?_
    exact K _ _ _ _ _ _ _ _ hI1 hP hD hS (lv_sub hl [2, 3, 4, 5, 6, 7] rfl)
theorem kw_write : gKWs yL_write cL_write 4 (some .int) hL_write 3 := ⟨(gt_4 (i := 216) rfl rfl), (gt_1 (i := 0) rfl rfl), (gt_4 (i := 217) rfl rfl), by decide +kernel⟩
set_option maxHeartbeats 4000000 in
set_option maxRecDepth 100000 in
theorem lc_25 {p : Program} {l : Launch} {e : Env} {s : State} {m : MethodId} {args : Array Value} {below : List Frame} {meth : Method} {c : Code} {D : va_G} {dA : Nat → ClassId} {zp : Nat → Nat} {A : Nat → Prop} {Q : State → Prop} {b' L : Nat} {xs : Nat → Int32} {a b : Nat → Nat} {i : Int32} {ads : gAd} {fo : Nat → Int64} {fd : Nat → UInt64} {σ : MS} {τ : RS} {H : Heap} {locs : List Loc} {ls : Array Slot} {cells slots : Nat}
    (C : lwC p l s m c args D dA zp A b' L xs) (h1 : vp_in (i + 1) L) (h2 : vp_in (i + 2) L) (h3 : vp_in (i + 3) L) (h4 : vp_in (i + 4) L) (hI : mOK σ τ) (hP : va_P D vwCl (wX dA b a ads fo fd σ τ) H) (hD : va_D A (wX dA b a ads fo fd σ τ)) (hS : va_S A s.heap H locs) (hl : lv_has ls 9 (lwL b' a b i)) (hcs : cells + 16 ≤ room_1.cells ∧ slots + 1300 ≤ room_1.slots)
    (K : lwK p l e s m args below meth c D dA A Q b' a b i 2394 (cells + 16) (slots + 1300)) : W p l e room_1 s m args below meth c H locs cells slots Q (F0 m 1804 ls []) := by
  obtain ⟨S, hgK, hN, hK, hA, hZ, hfl, hX, hbl, hbA⟩ := C
  have S : CallFix p m c cL_law 9 s args gT RL := S
  obtain ⟨hx, hb, hml, hown, hts⟩ := id S
  have hl : lv_has ls 9 [(0, .ref b'), (1, .ref (a 0)), (2, .ref (b 0)), (3, .ref (b 8)), (4, .ref (b 9)), (5, .int i)] := hl
  obtain ⟨v, σ', res, em, er, ea⟩ := e_write hI (xs (i + 1).toNatClampNeg)
  have ht : ∀ E τ1, res = .inl (E, τ1) → E = eIOB := fun E τ1 h9 => mem1 (ansE ea E τ1 h9)
  refine lv_aload_n hx hb dL_law_1804 rfl (lv_at hl 1 rfl) ?_
  refine g_arg (k := 1) (k0 := 0) (k5 := 5) hx hb hX hbl hbA hS hl rfl rfl h1 dL_law_1805 dL_law_1806 dL_law_1808 rfl dL_law_1809 dL_law_1810 ?_
  refine lv_aload_n hx hb dL_law_1811 rfl (lv_at hl 3 rfl) ?_
  refine gLx (gLS S hgK hN hK hP hD hS hA hZ (c_L_write l D dA zp hfl b a ads fo fd σ τ (xs (i + 1).toNatClampNeg) H.size res er ht) kw_write (gt_4 (i := 215) rfl rfl) rfl hl.1 rfl ⟨rfl, rfl, Nat.le_of_ble_eq_true rfl, Nat.le_of_ble_eq_true rfl⟩ ⟨hcs.1, hcs.2⟩ (Nat.le_of_ble_eq_true rfl) dL_law_1812) hD hS hA (fun r u ads H locs hp hP hD hS => ?_)
  obtain ⟨τ1, fo1, fd1⟩ := u
  obtain ⟨ht1, hI1, hg1⟩ := lans (tOne_u (by decide +kernel)) (tOne_z (by decide +kernel)) (fun _ => rfl) ea hp
  have hP : va_P D vwCl (wX dA b a ads fo1 fd1 σ τ1) H := hP
  have hD : va_D A (wX dA b a ads fo1 fd1 σ τ1) := hD
  refine lv_istore (lv' := [(6, .int r), (0, .ref b'), (1, .ref (a 0)), (2, .ref (b 0)), (3, .ref (b 8)), (4, .ref (b 9)), (5, .int i)]) hx hb dL_law_1815 hl (by decide) rfl (fun ls hl => ?_)
  refine lv_aload_n hx hb dL_law_1817 rfl (lv_at hl 3 rfl) ?_
  refine g_arg (k := 1) (k0 := 1) (k5 := 6) hx hb hX hbl hbA hS hl rfl rfl h1 dL_law_1818 dL_law_1819 dL_law_1821 rfl dL_law_1822 dL_law_1823 ?_
  refine gmi (w1 := wX dA b a ads fo1 fd1 σ' τ1) (gmV S hgK hK hP hD hS hA hZ (gGri (ws' := wX dA b a ads fo1 fd1 σ' τ1) (c_m_write l D dA zp b σ (xs (i + 1).toNatClampNeg) H.size v σ' em) wX_M wX_M) k_X9_write (gt_8 (i := 144) rfl rfl) 2 rfl rfl rfl hl.1 rfl ⟨rfl, rfl, Nat.le_of_ble_eq_true rfl, Nat.le_of_ble_eq_true rfl⟩ ⟨hcs.1, hcs.2⟩ (Nat.le_of_ble_eq_true rfl) dL_law_1824) hD hS hA (fun H locs hP hD hS => ?_)
  refine lv_istore (lv' := [(7, .int v), (6, .int r), (0, .ref b'), (1, .ref (a 0)), (2, .ref (b 0)), (3, .ref (b 8)), (4, .ref (b 9)), (5, .int i)]) hx hb dL_law_1827 hl (by decide) rfl (fun ls hl => ?_)
  refine lv_aload_n hx hb dL_law_1829 rfl (lv_at hl 4 rfl) ?_
  refine gci (gcV S hgK hK hP hS hZ (gGrR (c_m_thrown l D dA zp b σ' r (by rw [← ht1]; rfl)) wX_M) k_X9_thrown (gt_7 (i := 107) rfl rfl) 2 rfl rfl rfl hl.1 rfl ⟨rfl, rfl, Nat.le_of_ble_eq_true rfl, Nat.le_of_ble_eq_true rfl⟩ ⟨hcs.1, hcs.2⟩ (Nat.le_of_ble_eq_true rfl) dL_law_1830) ?_
  refine lv_iload hx hb dL_law_1833 (lv_at hl 1 rfl) ?_
  refine lv_icmp_eq (tgt := 1840) hx hb dL_law_1835 (by decide) (fun _ => ?_) (fun h9 => absurd rfl h9)
  refine lv_iload hx hb dL_law_1840 (lv_at hl 1 rfl) ?_
  refine lv_if_ne (tgt := 1857) hx hb dL_law_1842 (by decide) (fun hne => ?_) (fun heq => ?_)
  · refine lv_goto (tgt := 2394) hx hb dL_law_1857 (by decide) ?_
    exact K _ _ _ _ _ _ _ _ hI1 hP hD hS (lv_sub hl [2, 3, 4, 5, 6, 7] rfl)
  · obtain rfl : fo1 = vp_updL fo 0 v.toInt64 := congrArg (fun z => z.2.1) (hg1 heq)
    refine lv_aload_n hx hb dL_law_1845 rfl (lv_at hl 5 rfl) ?_
    refine lv_iconst (v := 0) hx hb dL_law_1846 (by decide) ?_
    refine g_lald (k := 0) hx hb hK hP 0 1 rfl rfl (by decide) (by decide) dL_law_1847 ?_
    refine lv_iload hx hb dL_law_1848 (lv_at hl 0 rfl) ?_
    refine lv_i2l (v := v.toInt64) hx hb dL_law_1850 rfl ?_
    refine gl_eq (tgt := 1857) hx hb dL_law_1851 dL_law_1852 (by decide) (fun _ => ?_) (fun h9 => absurd (if_pos rfl) h9)
    refine lv_goto (tgt := 2394) hx hb dL_law_1857 (by decide) ?_
    exact K _ _ _ _ _ _ _ _ hI1 hP hD hS (lv_sub hl [2, 3, 4, 5, 6, 7] rfl)
theorem kw_written : gKWs yL_written cL_written 4 (some .int) hL_written 3 := ⟨(gt_6 (i := 28) rfl rfl), (gt_1 (i := 0) rfl rfl), (gt_6 (i := 29) rfl rfl), by decide +kernel⟩
set_option maxHeartbeats 4000000 in
set_option maxRecDepth 100000 in
theorem lc_26 {p : Program} {l : Launch} {e : Env} {s : State} {m : MethodId} {args : Array Value} {below : List Frame} {meth : Method} {c : Code} {D : va_G} {dA : Nat → ClassId} {zp : Nat → Nat} {A : Nat → Prop} {Q : State → Prop} {b' L : Nat} {xs : Nat → Int32} {a b : Nat → Nat} {i : Int32} {ads : gAd} {fo : Nat → Int64} {fd : Nat → UInt64} {σ : MS} {τ : RS} {H : Heap} {locs : List Loc} {ls : Array Slot} {cells slots : Nat}
    (C : lwC p l s m c args D dA zp A b' L xs) (h1 : vp_in (i + 1) L) (h2 : vp_in (i + 2) L) (h3 : vp_in (i + 3) L) (h4 : vp_in (i + 4) L) (hI : mOK σ τ) (hP : va_P D vwCl (wX dA b a ads fo fd σ τ) H) (hD : va_D A (wX dA b a ads fo fd σ τ)) (hS : va_S A s.heap H locs) (hl : lv_has ls 9 (lwL b' a b i)) (hcs : cells + 16 ≤ room_1.cells ∧ slots + 1300 ≤ room_1.slots)
    (K : lwK p l e s m args below meth c D dA A Q b' a b i 2394 (cells + 16) (slots + 1300)) : W p l e room_1 s m args below meth c H locs cells slots Q (F0 m 1860 ls []) := by
  obtain ⟨S, hgK, hN, hK, hA, hZ, hfl, hX, hbl, hbA⟩ := C
  have S : CallFix p m c cL_law 9 s args gT RL := S
  obtain ⟨hx, hb, hml, hown, hts⟩ := id S
  have hl : lv_has ls 9 [(0, .ref b'), (1, .ref (a 0)), (2, .ref (b 0)), (3, .ref (b 8)), (4, .ref (b 9)), (5, .int i)] := hl
  obtain ⟨v, σ', res, em, er, ea⟩ := e_written hI (xs (i + 1).toNatClampNeg)
  have ht : ∀ E τ1, res = .inl (E, τ1) → E = eNSE := fun E τ1 h9 => mem1 (ansE ea E τ1 h9)
  refine lv_aload_n hx hb dL_law_1860 rfl (lv_at hl 1 rfl) ?_
  refine g_arg (k := 1) (k0 := 0) (k5 := 5) hx hb hX hbl hbA hS hl rfl rfl h1 dL_law_1861 dL_law_1862 dL_law_1864 rfl dL_law_1865 dL_law_1866 ?_
  refine lv_aload_n hx hb dL_law_1867 rfl (lv_at hl 3 rfl) ?_
  refine gLx (gLS S hgK hN hK hP hD hS hA hZ (c_L_written l D dA zp hfl b a ads fo fd σ τ (xs (i + 1).toNatClampNeg) H.size res er ht) kw_written (gt_6 (i := 27) rfl rfl) rfl hl.1 rfl ⟨rfl, rfl, Nat.le_of_ble_eq_true rfl, Nat.le_of_ble_eq_true rfl⟩ ⟨hcs.1, hcs.2⟩ (Nat.le_of_ble_eq_true rfl) dL_law_1868) hD hS hA (fun r u ads H locs hp hP hD hS => ?_)
  obtain ⟨τ1, fo1, fd1⟩ := u
  obtain ⟨ht1, hI1, hg1⟩ := lans (tOne_u (by decide +kernel)) (tOne_z (by decide +kernel)) (fun _ => rfl) ea hp
  have hP : va_P D vwCl (wX dA b a ads fo1 fd1 σ τ1) H := hP
  have hD : va_D A (wX dA b a ads fo1 fd1 σ τ1) := hD
  refine lv_istore (lv' := [(6, .int r), (0, .ref b'), (1, .ref (a 0)), (2, .ref (b 0)), (3, .ref (b 8)), (4, .ref (b 9)), (5, .int i)]) hx hb dL_law_1871 hl (by decide) rfl (fun ls hl => ?_)
  refine lv_aload_n hx hb dL_law_1873 rfl (lv_at hl 3 rfl) ?_
  refine g_arg (k := 1) (k0 := 1) (k5 := 6) hx hb hX hbl hbA hS hl rfl rfl h1 dL_law_1874 dL_law_1875 dL_law_1877 rfl dL_law_1878 dL_law_1879 ?_
  refine gmi (w1 := wX dA b a ads fo1 fd1 σ' τ1) (gmV S hgK hK hP hD hS hA hZ (gGri (ws' := wX dA b a ads fo1 fd1 σ' τ1) (c_m_written l D dA zp b σ (xs (i + 1).toNatClampNeg) H.size v σ' em) wX_M wX_M) k_X9_written (gt_8 (i := 161) rfl rfl) 2 rfl rfl rfl hl.1 rfl ⟨rfl, rfl, Nat.le_of_ble_eq_true rfl, Nat.le_of_ble_eq_true rfl⟩ ⟨hcs.1, hcs.2⟩ (Nat.le_of_ble_eq_true rfl) dL_law_1880) hD hS hA (fun H locs hP hD hS => ?_)
  refine lv_istore (lv' := [(7, .int v), (6, .int r), (0, .ref b'), (1, .ref (a 0)), (2, .ref (b 0)), (3, .ref (b 8)), (4, .ref (b 9)), (5, .int i)]) hx hb dL_law_1883 hl (by decide) rfl (fun ls hl => ?_)
  refine lv_aload_n hx hb dL_law_1885 rfl (lv_at hl 4 rfl) ?_
  refine gci (gcV S hgK hK hP hS hZ (gGrR (c_m_thrown l D dA zp b σ' r (by rw [← ht1]; rfl)) wX_M) k_X9_thrown (gt_7 (i := 107) rfl rfl) 2 rfl rfl rfl hl.1 rfl ⟨rfl, rfl, Nat.le_of_ble_eq_true rfl, Nat.le_of_ble_eq_true rfl⟩ ⟨hcs.1, hcs.2⟩ (Nat.le_of_ble_eq_true rfl) dL_law_1886) ?_
  refine lv_iload hx hb dL_law_1889 (lv_at hl 1 rfl) ?_
  refine lv_icmp_eq (tgt := 1896) hx hb dL_law_1891 (by decide) (fun _ => ?_) (fun h9 => absurd rfl h9)
  refine lv_iload hx hb dL_law_1896 (lv_at hl 1 rfl) ?_
  refine lv_if_ne (tgt := 1913) hx hb dL_law_1898 (by decide) (fun hne => ?_) (fun heq => ?_)
  · refine lv_goto (tgt := 2394) hx hb dL_law_1913 (by decide) ?_
    exact K _ _ _ _ _ _ _ _ hI1 hP hD hS (lv_sub hl [2, 3, 4, 5, 6, 7] rfl)
  · obtain rfl : fo1 = vp_updL fo 0 v.toInt64 := congrArg (fun z => z.2.1) (hg1 heq)
    refine lv_aload_n hx hb dL_law_1901 rfl (lv_at hl 5 rfl) ?_
    refine lv_iconst (v := 0) hx hb dL_law_1902 (by decide) ?_
    refine g_lald (k := 0) hx hb hK hP 0 1 rfl rfl (by decide) (by decide) dL_law_1903 ?_
    refine lv_iload hx hb dL_law_1904 (lv_at hl 0 rfl) ?_
    refine lv_i2l (v := v.toInt64) hx hb dL_law_1906 rfl ?_
    refine gl_eq (tgt := 1913) hx hb dL_law_1907 dL_law_1908 (by decide) (fun _ => ?_) (fun h9 => absurd (if_pos rfl) h9)
    refine lv_goto (tgt := 2394) hx hb dL_law_1913 (by decide) ?_
    exact K _ _ _ _ _ _ _ _ hI1 hP hD hS (lv_sub hl [2, 3, 4, 5, 6, 7] rfl)
theorem kw_due : gKWs yL_due cL_due 4 (some .int) hL_due 3 := ⟨(gt_6 (i := 46) rfl rfl), (gt_1 (i := 0) rfl rfl), (gt_6 (i := 47) rfl rfl), by decide +kernel⟩
set_option maxHeartbeats 4000000 in
set_option maxRecDepth 100000 in
theorem lc_27 {p : Program} {l : Launch} {e : Env} {s : State} {m : MethodId} {args : Array Value} {below : List Frame} {meth : Method} {c : Code} {D : va_G} {dA : Nat → ClassId} {zp : Nat → Nat} {A : Nat → Prop} {Q : State → Prop} {b' L : Nat} {xs : Nat → Int32} {a b : Nat → Nat} {i : Int32} {ads : gAd} {fo : Nat → Int64} {fd : Nat → UInt64} {σ : MS} {τ : RS} {H : Heap} {locs : List Loc} {ls : Array Slot} {cells slots : Nat}
    (C : lwC p l s m c args D dA zp A b' L xs) (h1 : vp_in (i + 1) L) (h2 : vp_in (i + 2) L) (h3 : vp_in (i + 3) L) (h4 : vp_in (i + 4) L) (hI : mOK σ τ) (hP : va_P D vwCl (wX dA b a ads fo fd σ τ) H) (hD : va_D A (wX dA b a ads fo fd σ τ)) (hS : va_S A s.heap H locs) (hl : lv_has ls 9 (lwL b' a b i)) (hcs : cells + 16 ≤ room_1.cells ∧ slots + 1300 ≤ room_1.slots)
    (K : lwK p l e s m args below meth c D dA A Q b' a b i 2394 (cells + 16) (slots + 1300)) : W p l e room_1 s m args below meth c H locs cells slots Q (F0 m 1916 ls []) := by
  obtain ⟨S, hgK, hN, hK, hA, hZ, hfl, hX, hbl, hbA⟩ := C
  have S : CallFix p m c cL_law 9 s args gT RL := S
  obtain ⟨hx, hb, hml, hown, hts⟩ := id S
  have hl : lv_has ls 9 [(0, .ref b'), (1, .ref (a 0)), (2, .ref (b 0)), (3, .ref (b 8)), (4, .ref (b 9)), (5, .int i)] := hl
  obtain ⟨v, σ', res, em, er, ea⟩ := e_due hI (xs (i + 1).toNatClampNeg)
  have ht : ∀ E τ1, res = .inl (E, τ1) → E = eNSE := fun E τ1 h9 => mem1 (ansE ea E τ1 h9)
  refine lv_aload_n hx hb dL_law_1916 rfl (lv_at hl 1 rfl) ?_
  refine g_arg (k := 1) (k0 := 0) (k5 := 5) hx hb hX hbl hbA hS hl rfl rfl h1 dL_law_1917 dL_law_1918 dL_law_1920 rfl dL_law_1921 dL_law_1922 ?_
  refine lv_aload_n hx hb dL_law_1923 rfl (lv_at hl 3 rfl) ?_
  refine gLx (gLS S hgK hN hK hP hD hS hA hZ (c_L_due l D dA zp hfl b a ads fo fd σ τ (xs (i + 1).toNatClampNeg) H.size res er ht) kw_due (gt_6 (i := 45) rfl rfl) rfl hl.1 rfl ⟨rfl, rfl, Nat.le_of_ble_eq_true rfl, Nat.le_of_ble_eq_true rfl⟩ ⟨hcs.1, hcs.2⟩ (Nat.le_of_ble_eq_true rfl) dL_law_1924) hD hS hA (fun r u ads H locs hp hP hD hS => ?_)
  obtain ⟨τ1, fo1, fd1⟩ := u
  obtain ⟨ht1, hI1, hg1⟩ := lans (tOne_u (by decide +kernel)) (tOne_z (by decide +kernel)) (fun _ => rfl) ea hp
  have hP : va_P D vwCl (wX dA b a ads fo1 fd1 σ τ1) H := hP
  have hD : va_D A (wX dA b a ads fo1 fd1 σ τ1) := hD
  refine lv_istore (lv' := [(6, .int r), (0, .ref b'), (1, .ref (a 0)), (2, .ref (b 0)), (3, .ref (b 8)), (4, .ref (b 9)), (5, .int i)]) hx hb dL_law_1927 hl (by decide) rfl (fun ls hl => ?_)
  refine lv_aload_n hx hb dL_law_1929 rfl (lv_at hl 3 rfl) ?_
  refine g_arg (k := 1) (k0 := 1) (k5 := 6) hx hb hX hbl hbA hS hl rfl rfl h1 dL_law_1930 dL_law_1931 dL_law_1933 rfl dL_law_1934 dL_law_1935 ?_
  refine gmi (w1 := wX dA b a ads fo1 fd1 σ' τ1) (gmV S hgK hK hP hD hS hA hZ (gGri (ws' := wX dA b a ads fo1 fd1 σ' τ1) (c_m_due l D dA zp b σ (xs (i + 1).toNatClampNeg) H.size v σ' em) wX_M wX_M) k_X9_due (gt_8 (i := 165) rfl rfl) 2 rfl rfl rfl hl.1 rfl ⟨rfl, rfl, Nat.le_of_ble_eq_true rfl, Nat.le_of_ble_eq_true rfl⟩ ⟨hcs.1, hcs.2⟩ (Nat.le_of_ble_eq_true rfl) dL_law_1936) hD hS hA (fun H locs hP hD hS => ?_)
  refine lv_istore (lv' := [(7, .int v), (6, .int r), (0, .ref b'), (1, .ref (a 0)), (2, .ref (b 0)), (3, .ref (b 8)), (4, .ref (b 9)), (5, .int i)]) hx hb dL_law_1939 hl (by decide) rfl (fun ls hl => ?_)
  refine lv_aload_n hx hb dL_law_1941 rfl (lv_at hl 4 rfl) ?_
  refine gci (gcV S hgK hK hP hS hZ (gGrR (c_m_thrown l D dA zp b σ' r (by rw [← ht1]; rfl)) wX_M) k_X9_thrown (gt_7 (i := 107) rfl rfl) 2 rfl rfl rfl hl.1 rfl ⟨rfl, rfl, Nat.le_of_ble_eq_true rfl, Nat.le_of_ble_eq_true rfl⟩ ⟨hcs.1, hcs.2⟩ (Nat.le_of_ble_eq_true rfl) dL_law_1942) ?_
  refine lv_iload hx hb dL_law_1945 (lv_at hl 1 rfl) ?_
  refine lv_icmp_eq (tgt := 1952) hx hb dL_law_1947 (by decide) (fun _ => ?_) (fun h9 => absurd rfl h9)
  refine lv_iload hx hb dL_law_1952 (lv_at hl 1 rfl) ?_
  refine lv_if_ne (tgt := 1969) hx hb dL_law_1954 (by decide) (fun hne => ?_) (fun heq => ?_)
  · refine lv_goto (tgt := 2394) hx hb dL_law_1969 (by decide) ?_
    exact K _ _ _ _ _ _ _ _ hI1 hP hD hS (lv_sub hl [2, 3, 4, 5, 6, 7] rfl)
  · obtain rfl : fo1 = vp_updL fo 0 v.toInt64 := congrArg (fun z => z.2.1) (hg1 heq)
    refine lv_aload_n hx hb dL_law_1957 rfl (lv_at hl 5 rfl) ?_
    refine lv_iconst (v := 0) hx hb dL_law_1958 (by decide) ?_
    refine g_lald (k := 0) hx hb hK hP 0 1 rfl rfl (by decide) (by decide) dL_law_1959 ?_
    refine lv_iload hx hb dL_law_1960 (lv_at hl 0 rfl) ?_
    refine lv_i2l (v := v.toInt64) hx hb dL_law_1962 rfl ?_
    refine gl_eq (tgt := 1969) hx hb dL_law_1963 dL_law_1964 (by decide) (fun _ => ?_) (fun h9 => absurd (if_pos rfl) h9)
    refine lv_goto (tgt := 2394) hx hb dL_law_1969 (by decide) ?_
    exact K _ _ _ _ _ _ _ _ hI1 hP hD hS (lv_sub hl [2, 3, 4, 5, 6, 7] rfl)
theorem kw_overdueWithin : gKWs yL_overdueWithin cL_overdueWithin 4 (some .int) hL_overdueWithin 3 := ⟨(gt_6 (i := 62) rfl rfl), (gt_1 (i := 0) rfl rfl), (gt_6 (i := 63) rfl rfl), by decide +kernel⟩
set_option maxHeartbeats 4000000 in
set_option maxRecDepth 100000 in
theorem lc_28 {p : Program} {l : Launch} {e : Env} {s : State} {m : MethodId} {args : Array Value} {below : List Frame} {meth : Method} {c : Code} {D : va_G} {dA : Nat → ClassId} {zp : Nat → Nat} {A : Nat → Prop} {Q : State → Prop} {b' L : Nat} {xs : Nat → Int32} {a b : Nat → Nat} {i : Int32} {ads : gAd} {fo : Nat → Int64} {fd : Nat → UInt64} {σ : MS} {τ : RS} {H : Heap} {locs : List Loc} {ls : Array Slot} {cells slots : Nat}
    (C : lwC p l s m c args D dA zp A b' L xs) (h1 : vp_in (i + 1) L) (h2 : vp_in (i + 2) L) (h3 : vp_in (i + 3) L) (h4 : vp_in (i + 4) L) (hI : mOK σ τ) (hP : va_P D vwCl (wX dA b a ads fo fd σ τ) H) (hD : va_D A (wX dA b a ads fo fd σ τ)) (hS : va_S A s.heap H locs) (hl : lv_has ls 9 (lwL b' a b i)) (hcs : cells + 16 ≤ room_1.cells ∧ slots + 1300 ≤ room_1.slots)
    (K : lwK p l e s m args below meth c D dA A Q b' a b i 2394 (cells + 16) (slots + 1300)) : W p l e room_1 s m args below meth c H locs cells slots Q (F0 m 1972 ls []) := by
  obtain ⟨S, hgK, hN, hK, hA, hZ, hfl, hX, hbl, hbA⟩ := C
  have S : CallFix p m c cL_law 9 s args gT RL := S
  obtain ⟨hx, hb, hml, hown, hts⟩ := id S
  have hl : lv_has ls 9 [(0, .ref b'), (1, .ref (a 0)), (2, .ref (b 0)), (3, .ref (b 8)), (4, .ref (b 9)), (5, .int i)] := hl
  obtain ⟨v, σ', res, em, er, ea⟩ := e_overdueWithin hI (xs (i + 1).toNatClampNeg)
  have ht : ∀ E τ1, res = .inl (E, τ1) → E = eIAE := fun E τ1 h9 => mem1 (ansE ea E τ1 h9)
  refine lv_aload_n hx hb dL_law_1972 rfl (lv_at hl 1 rfl) ?_
  refine g_arg (k := 1) (k0 := 0) (k5 := 5) hx hb hX hbl hbA hS hl rfl rfl h1 dL_law_1973 dL_law_1974 dL_law_1976 rfl dL_law_1977 dL_law_1978 ?_
  refine lv_aload_n hx hb dL_law_1979 rfl (lv_at hl 3 rfl) ?_
  refine gLx (gLS S hgK hN hK hP hD hS hA hZ (c_L_overdueWithin l D dA zp hfl b a ads fo fd σ τ (xs (i + 1).toNatClampNeg) H.size res er ht) kw_overdueWithin (gt_6 (i := 61) rfl rfl) rfl hl.1 rfl ⟨rfl, rfl, Nat.le_of_ble_eq_true rfl, Nat.le_of_ble_eq_true rfl⟩ ⟨hcs.1, hcs.2⟩ (Nat.le_of_ble_eq_true rfl) dL_law_1980) hD hS hA (fun r u ads H locs hp hP hD hS => ?_)
  obtain ⟨τ1, fo1, fd1⟩ := u
  obtain ⟨ht1, hI1, hg1⟩ := lans (tOne_u (by decide +kernel)) (tOne_z (by decide +kernel)) (fun _ => rfl) ea hp
  have hP : va_P D vwCl (wX dA b a ads fo1 fd1 σ τ1) H := hP
  have hD : va_D A (wX dA b a ads fo1 fd1 σ τ1) := hD
  refine lv_istore (lv' := [(6, .int r), (0, .ref b'), (1, .ref (a 0)), (2, .ref (b 0)), (3, .ref (b 8)), (4, .ref (b 9)), (5, .int i)]) hx hb dL_law_1983 hl (by decide) rfl (fun ls hl => ?_)
  refine lv_aload_n hx hb dL_law_1985 rfl (lv_at hl 3 rfl) ?_
  refine g_arg (k := 1) (k0 := 1) (k5 := 6) hx hb hX hbl hbA hS hl rfl rfl h1 dL_law_1986 dL_law_1987 dL_law_1989 rfl dL_law_1990 dL_law_1991 ?_
  refine gmi (w1 := wX dA b a ads fo1 fd1 σ' τ1) (gmV S hgK hK hP hD hS hA hZ (gGri (ws' := wX dA b a ads fo1 fd1 σ' τ1) (c_m_overdueWithin l D dA zp b σ (xs (i + 1).toNatClampNeg) H.size v σ' em) wX_M wX_M) k_X9_overdueWithin (gt_8 (i := 173) rfl rfl) 2 rfl rfl rfl hl.1 rfl ⟨rfl, rfl, Nat.le_of_ble_eq_true rfl, Nat.le_of_ble_eq_true rfl⟩ ⟨hcs.1, hcs.2⟩ (Nat.le_of_ble_eq_true rfl) dL_law_1992) hD hS hA (fun H locs hP hD hS => ?_)
  refine lv_istore (lv' := [(7, .int v), (6, .int r), (0, .ref b'), (1, .ref (a 0)), (2, .ref (b 0)), (3, .ref (b 8)), (4, .ref (b 9)), (5, .int i)]) hx hb dL_law_1995 hl (by decide) rfl (fun ls hl => ?_)
  refine lv_aload_n hx hb dL_law_1997 rfl (lv_at hl 4 rfl) ?_
  refine gci (gcV S hgK hK hP hS hZ (gGrR (c_m_thrown l D dA zp b σ' r (by rw [← ht1]; rfl)) wX_M) k_X9_thrown (gt_7 (i := 107) rfl rfl) 2 rfl rfl rfl hl.1 rfl ⟨rfl, rfl, Nat.le_of_ble_eq_true rfl, Nat.le_of_ble_eq_true rfl⟩ ⟨hcs.1, hcs.2⟩ (Nat.le_of_ble_eq_true rfl) dL_law_1998) ?_
  refine lv_iload hx hb dL_law_2001 (lv_at hl 1 rfl) ?_
  refine lv_icmp_eq (tgt := 2008) hx hb dL_law_2003 (by decide) (fun _ => ?_) (fun h9 => absurd rfl h9)
  refine lv_iload hx hb dL_law_2008 (lv_at hl 1 rfl) ?_
  refine lv_if_ne (tgt := 2025) hx hb dL_law_2010 (by decide) (fun hne => ?_) (fun heq => ?_)
  · refine lv_goto (tgt := 2394) hx hb dL_law_2025 (by decide) ?_
    exact K _ _ _ _ _ _ _ _ hI1 hP hD hS (lv_sub hl [2, 3, 4, 5, 6, 7] rfl)
  · obtain rfl : fo1 = vp_updL fo 0 v.toInt64 := congrArg (fun z => z.2.1) (hg1 heq)
    refine lv_aload_n hx hb dL_law_2013 rfl (lv_at hl 5 rfl) ?_
    refine lv_iconst (v := 0) hx hb dL_law_2014 (by decide) ?_
    refine g_lald (k := 0) hx hb hK hP 0 1 rfl rfl (by decide) (by decide) dL_law_2015 ?_
    refine lv_iload hx hb dL_law_2016 (lv_at hl 0 rfl) ?_
    refine lv_i2l (v := v.toInt64) hx hb dL_law_2018 rfl ?_
    refine gl_eq (tgt := 2025) hx hb dL_law_2019 dL_law_2020 (by decide) (fun _ => ?_) (fun h9 => absurd (if_pos rfl) h9)
    refine lv_goto (tgt := 2394) hx hb dL_law_2025 (by decide) ?_
    exact K _ _ _ _ _ _ _ _ hI1 hP hD hS (lv_sub hl [2, 3, 4, 5, 6, 7] rfl)
theorem kw_append : gKWs yL_append cL_append 3 (some .int) hL_append 2 := ⟨(gt_6 (i := 71) rfl rfl), (gt_1 (i := 0) rfl rfl), (gt_6 (i := 72) rfl rfl), by decide +kernel⟩
set_option maxHeartbeats 4000000 in
set_option maxRecDepth 100000 in
theorem lc_29 {p : Program} {l : Launch} {e : Env} {s : State} {m : MethodId} {args : Array Value} {below : List Frame} {meth : Method} {c : Code} {D : va_G} {dA : Nat → ClassId} {zp : Nat → Nat} {A : Nat → Prop} {Q : State → Prop} {b' L : Nat} {xs : Nat → Int32} {a b : Nat → Nat} {i : Int32} {ads : gAd} {fo : Nat → Int64} {fd : Nat → UInt64} {σ : MS} {τ : RS} {H : Heap} {locs : List Loc} {ls : Array Slot} {cells slots : Nat}
    (C : lwC p l s m c args D dA zp A b' L xs) (h1 : vp_in (i + 1) L) (h2 : vp_in (i + 2) L) (h3 : vp_in (i + 3) L) (h4 : vp_in (i + 4) L) (hI : mOK σ τ) (hP : va_P D vwCl (wX dA b a ads fo fd σ τ) H) (hD : va_D A (wX dA b a ads fo fd σ τ)) (hS : va_S A s.heap H locs) (hl : lv_has ls 9 (lwL b' a b i)) (hcs : cells + 16 ≤ room_1.cells ∧ slots + 1300 ≤ room_1.slots)
    (K : lwK p l e s m args below meth c D dA A Q b' a b i 2394 (cells + 16) (slots + 1300)) : W p l e room_1 s m args below meth c H locs cells slots Q (F0 m 2028 ls []) := by
  obtain ⟨S, hgK, hN, hK, hA, hZ, hfl, hX, hbl, hbA⟩ := C
  have S : CallFix p m c cL_law 9 s args gT RL := S
  obtain ⟨hx, hb, hml, hown, hts⟩ := id S
  have hl : lv_has ls 9 [(0, .ref b'), (1, .ref (a 0)), (2, .ref (b 0)), (3, .ref (b 8)), (4, .ref (b 9)), (5, .int i)] := hl
  obtain ⟨σ', res, em, er, ea, ex⟩ := bothv_ex (e_append hI (((xs (i + 1).toNatClampNeg).toUInt32 % 65536).toInt32))
  have ht : ∀ E τ1, res = .inl (E, τ1) → E = eISE := fun E τ1 h9 => mem1 (ex E τ1 h9)
  refine lv_aload_n hx hb dL_law_2028 rfl (lv_at hl 1 rfl) ?_
  refine g_arg (k := 1) (k0 := 0) (k5 := 5) hx hb hX hbl hbA hS hl rfl rfl h1 dL_law_2029 dL_law_2030 dL_law_2032 rfl dL_law_2033 dL_law_2034 ?_
  refine lv_i2c (v := ((xs (i + 1).toNatClampNeg).toUInt32 % 65536).toInt32) hx hb dL_law_2035 rfl ?_
  refine gLx (gLS S hgK hN hK hP hD hS hA hZ (c_L_append l D dA zp hfl b a ads fo fd σ τ (((xs (i + 1).toNatClampNeg).toUInt32 % 65536).toInt32) H.size res er ht) kw_append (gt_6 (i := 70) rfl rfl) rfl hl.1 rfl ⟨rfl, rfl, Nat.le_of_ble_eq_true rfl, Nat.le_of_ble_eq_true rfl⟩ ⟨hcs.1, hcs.2⟩ (Nat.le_of_ble_eq_true rfl) dL_law_2036) hD hS hA (fun r u ads H locs hp hP hD hS => ?_)
  obtain ⟨τ1, fo1, fd1⟩ := u
  obtain ⟨ht1, hI1⟩ := lansv (tOne_u (by decide +kernel)) ea hp
  have hP : va_P D vwCl (wX dA b a ads fo1 fd1 σ τ1) H := hP
  have hD : va_D A (wX dA b a ads fo1 fd1 σ τ1) := hD
  refine lv_istore (lv' := [(6, .int r), (0, .ref b'), (1, .ref (a 0)), (2, .ref (b 0)), (3, .ref (b 8)), (4, .ref (b 9)), (5, .int i)]) hx hb dL_law_2039 hl (by decide) rfl (fun ls hl => ?_)
  refine lv_aload_n hx hb dL_law_2041 rfl (lv_at hl 3 rfl) ?_
  refine g_arg (k := 1) (k0 := 1) (k5 := 6) hx hb hX hbl hbA hS hl rfl rfl h1 dL_law_2042 dL_law_2043 dL_law_2045 rfl dL_law_2046 dL_law_2047 ?_
  refine lv_i2c (v := ((xs (i + 1).toNatClampNeg).toUInt32 % 65536).toInt32) hx hb dL_law_2048 rfl ?_
  refine gmv (w1 := wX dA b a ads fo1 fd1 σ' τ1) (gmV S hgK hK hP hD hS hA hZ (gGrv (ws' := wX dA b a ads fo1 fd1 σ' τ1) (c_m_append l D dA zp b σ (((xs (i + 1).toNatClampNeg).toUInt32 % 65536).toInt32) H.size σ' em) wX_M wX_M) k_X9_append (gt_8 (i := 177) rfl rfl) 2 rfl rfl rfl hl.1 rfl ⟨rfl, rfl, Nat.le_of_ble_eq_true rfl, Nat.le_of_ble_eq_true rfl⟩ ⟨hcs.1, hcs.2⟩ (Nat.le_of_ble_eq_true rfl) dL_law_2049) hD hS hA (fun H locs hP hD hS => ?_)
  refine lv_aload_n hx hb dL_law_2052 rfl (lv_at hl 3 rfl) ?_
  refine gci (gcV S hgK hK hP hS hZ (gGrR (c_m_thrown l D dA zp b σ' r (by rw [← ht1]; rfl)) wX_M) k_X9_thrown (gt_7 (i := 107) rfl rfl) 2 rfl rfl rfl hl.1 rfl ⟨rfl, rfl, Nat.le_of_ble_eq_true rfl, Nat.le_of_ble_eq_true rfl⟩ ⟨hcs.1, hcs.2⟩ (Nat.le_of_ble_eq_true rfl) dL_law_2053) ?_
  refine lv_iload hx hb dL_law_2056 (lv_at hl 0 rfl) ?_
  refine lv_icmp_eq (tgt := 2063) hx hb dL_law_2058 (by decide) (fun _ => ?_) (fun h9 => absurd rfl h9)
  refine lv_goto (tgt := 2394) hx hb dL_law_2063 (by decide) ?_
  exact K _ _ _ _ _ _ _ _ hI1 hP hD hS (lv_sub hl [1, 2, 3, 4, 5, 6] rfl)
theorem kw_read : gKWs yL_read cL_read 3 (some .int) hL_read 2 := ⟨(gt_6 (i := 87) rfl rfl), (gt_1 (i := 0) rfl rfl), (gt_6 (i := 88) rfl rfl), by decide +kernel⟩
set_option maxHeartbeats 4000000 in
set_option maxRecDepth 100000 in
theorem lc_30 {p : Program} {l : Launch} {e : Env} {s : State} {m : MethodId} {args : Array Value} {below : List Frame} {meth : Method} {c : Code} {D : va_G} {dA : Nat → ClassId} {zp : Nat → Nat} {A : Nat → Prop} {Q : State → Prop} {b' L : Nat} {xs : Nat → Int32} {a b : Nat → Nat} {i : Int32} {ads : gAd} {fo : Nat → Int64} {fd : Nat → UInt64} {σ : MS} {τ : RS} {H : Heap} {locs : List Loc} {ls : Array Slot} {cells slots : Nat}
    (C : lwC p l s m c args D dA zp A b' L xs) (h1 : vp_in (i + 1) L) (h2 : vp_in (i + 2) L) (h3 : vp_in (i + 3) L) (h4 : vp_in (i + 4) L) (hI : mOK σ τ) (hP : va_P D vwCl (wX dA b a ads fo fd σ τ) H) (hD : va_D A (wX dA b a ads fo fd σ τ)) (hS : va_S A s.heap H locs) (hl : lv_has ls 9 (lwL b' a b i)) (hcs : cells + 16 ≤ room_1.cells ∧ slots + 1300 ≤ room_1.slots)
    (K : lwK p l e s m args below meth c D dA A Q b' a b i 2394 (cells + 16) (slots + 1300)) : W p l e room_1 s m args below meth c H locs cells slots Q (F0 m 2066 ls []) := by
  obtain ⟨S, hgK, hN, hK, hA, hZ, hfl, hX, hbl, hbA⟩ := C
  have S : CallFix p m c cL_law 9 s args gT RL := S
  obtain ⟨hx, hb, hml, hown, hts⟩ := id S
  have hl : lv_has ls 9 [(0, .ref b'), (1, .ref (a 0)), (2, .ref (b 0)), (3, .ref (b 8)), (4, .ref (b 9)), (5, .int i)] := hl
  obtain ⟨v, σ', res, em, er, ea⟩ := e_read hI
  have ht : ∀ E τ1, res = .inl (E, τ1) → E = eIAE ∨ E = eUOE := fun E τ1 h9 => mem2 (ansE ea E τ1 h9)
  refine lv_aload_n hx hb dL_law_2066 rfl (lv_at hl 1 rfl) ?_
  refine lv_aload_n hx hb dL_law_2067 rfl (lv_at hl 3 rfl) ?_
  refine gLx (gLS S hgK hN hK hP hD hS hA hZ (c_L_read l D dA zp hfl b a ads fo fd σ τ H.size res er ht) kw_read (gt_6 (i := 86) rfl rfl) rfl hl.1 rfl ⟨rfl, rfl, Nat.le_of_ble_eq_true rfl, Nat.le_of_ble_eq_true rfl⟩ ⟨hcs.1, hcs.2⟩ (Nat.le_of_ble_eq_true rfl) dL_law_2068) hD hS hA (fun r u ads H locs hp hP hD hS => ?_)
  obtain ⟨τ1, fo1, fd1⟩ := u
  obtain ⟨ht1, hI1, hg1⟩ := lans (tOne_u (by decide +kernel)) (tOne_z (by decide +kernel)) (fun _ => rfl) ea hp
  have hP : va_P D vwCl (wX dA b a ads fo1 fd1 σ τ1) H := hP
  have hD : va_D A (wX dA b a ads fo1 fd1 σ τ1) := hD
  refine lv_istore (lv' := [(6, .int r), (0, .ref b'), (1, .ref (a 0)), (2, .ref (b 0)), (3, .ref (b 8)), (4, .ref (b 9)), (5, .int i)]) hx hb dL_law_2071 hl (by decide) rfl (fun ls hl => ?_)
  refine lv_aload_n hx hb dL_law_2073 rfl (lv_at hl 3 rfl) ?_
  refine gmi (w1 := wX dA b a ads fo1 fd1 σ' τ1) (gmV S hgK hK hP hD hS hA hZ (gGri (ws' := wX dA b a ads fo1 fd1 σ' τ1) (c_m_read l D dA zp b σ H.size v σ' em) wX_M wX_M) k_X9_read (gt_8 (i := 181) rfl rfl) 2 rfl rfl rfl hl.1 rfl ⟨rfl, rfl, Nat.le_of_ble_eq_true rfl, Nat.le_of_ble_eq_true rfl⟩ ⟨hcs.1, hcs.2⟩ (Nat.le_of_ble_eq_true rfl) dL_law_2074) hD hS hA (fun H locs hP hD hS => ?_)
  refine lv_istore (lv' := [(7, .int v), (6, .int r), (0, .ref b'), (1, .ref (a 0)), (2, .ref (b 0)), (3, .ref (b 8)), (4, .ref (b 9)), (5, .int i)]) hx hb dL_law_2077 hl (by decide) rfl (fun ls hl => ?_)
  refine lv_aload_n hx hb dL_law_2079 rfl (lv_at hl 4 rfl) ?_
  refine gci (gcV S hgK hK hP hS hZ (gGrR (c_m_thrown l D dA zp b σ' r (by rw [← ht1]; rfl)) wX_M) k_X9_thrown (gt_7 (i := 107) rfl rfl) 2 rfl rfl rfl hl.1 rfl ⟨rfl, rfl, Nat.le_of_ble_eq_true rfl, Nat.le_of_ble_eq_true rfl⟩ ⟨hcs.1, hcs.2⟩ (Nat.le_of_ble_eq_true rfl) dL_law_2080) ?_
  refine lv_iload hx hb dL_law_2083 (lv_at hl 1 rfl) ?_
  refine lv_icmp_eq (tgt := 2090) hx hb dL_law_2085 (by decide) (fun _ => ?_) (fun h9 => absurd rfl h9)
  refine lv_iload hx hb dL_law_2090 (lv_at hl 1 rfl) ?_
  refine lv_if_ne (tgt := 2107) hx hb dL_law_2092 (by decide) (fun hne => ?_) (fun heq => ?_)
  · refine lv_goto (tgt := 2394) hx hb dL_law_2107 (by decide) ?_
    exact K _ _ _ _ _ _ _ _ hI1 hP hD hS (lv_sub hl [2, 3, 4, 5, 6, 7] rfl)
  · obtain rfl : fo1 = vp_updL fo 0 v.toInt64 := congrArg (fun z => z.2.1) (hg1 heq)
    refine lv_aload_n hx hb dL_law_2095 rfl (lv_at hl 5 rfl) ?_
    refine lv_iconst (v := 0) hx hb dL_law_2096 (by decide) ?_
    refine g_lald (k := 0) hx hb hK hP 0 1 rfl rfl (by decide) (by decide) dL_law_2097 ?_
    refine lv_iload hx hb dL_law_2098 (lv_at hl 0 rfl) ?_
    refine lv_i2l (v := v.toInt64) hx hb dL_law_2100 rfl ?_
    refine gl_eq (tgt := 2107) hx hb dL_law_2101 dL_law_2102 (by decide) (fun _ => ?_) (fun h9 => absurd (if_pos rfl) h9)
    refine lv_goto (tgt := 2394) hx hb dL_law_2107 (by decide) ?_
    exact K _ _ _ _ _ _ _ _ hI1 hP hD hS (lv_sub hl [2, 3, 4, 5, 6, 7] rfl)
set_option maxHeartbeats 4000000 in
set_option maxRecDepth 100000 in
theorem lc_31 {p : Program} {l : Launch} {e : Env} {s : State} {m : MethodId} {args : Array Value} {below : List Frame} {meth : Method} {c : Code} {D : va_G} {dA : Nat → ClassId} {zp : Nat → Nat} {A : Nat → Prop} {Q : State → Prop} {b' L : Nat} {xs : Nat → Int32} {a b : Nat → Nat} {i : Int32} {ads : gAd} {fo : Nat → Int64} {fd : Nat → UInt64} {σ : MS} {τ : RS} {H : Heap} {locs : List Loc} {ls : Array Slot} {cells slots : Nat}
    (C : lwC p l s m c args D dA zp A b' L xs) (h1 : vp_in (i + 1) L) (h2 : vp_in (i + 2) L) (h3 : vp_in (i + 3) L) (h4 : vp_in (i + 4) L) (hI : mOK σ τ) (hP : va_P D vwCl (wX dA b a ads fo fd σ τ) H) (hD : va_D A (wX dA b a ads fo fd σ τ)) (hS : va_S A s.heap H locs) (hl : lv_has ls 9 (lwL b' a b i)) (hcs : cells + 16 ≤ room_1.cells ∧ slots + 1300 ≤ room_1.slots)
    (K : lwK p l e s m args below meth c D dA A Q b' a b i 2394 (cells + 16) (slots + 1300)) : W p l e room_1 s m args below meth c H locs cells slots Q (F0 m 2110 ls []) := by
  obtain ⟨S, hgK, hN, hK, hA, hZ, hfl, hX, hbl, hbA⟩ := C
  have S : CallFix p m c cL_law 9 s args gT RL := S
  obtain ⟨hx, hb, hml, hown, hts⟩ := id S
  have hl : lv_has ls 9 [(0, .ref b'), (1, .ref (a 0)), (2, .ref (b 0)), (3, .ref (b 8)), (4, .ref (b 9)), (5, .int i)] := hl
  obtain ⟨v, σ', em, er, hI1⟩ := e_faultPosition hI
  refine lv_aload_n hx hb dL_law_2110 rfl (lv_at hl 1 rfl) ?_
  refine gci (gcV S hgK hK hP hS hZ (gGrR (c_r_faultPosition l D dA zp a ads τ v er) wX_R) k_X8_faultPosition (gt_2 (i := 90) rfl rfl) 10 rfl rfl rfl hl.1 rfl ⟨rfl, rfl, Nat.le_of_ble_eq_true rfl, Nat.le_of_ble_eq_true rfl⟩ ⟨Nat.le_trans (Nat.le_add_right _ _) hcs.1, Nat.le_trans (Nat.le_add_right _ _) hcs.2⟩ (Nat.le_of_ble_eq_true rfl) dL_law_2111) ?_
  refine lv_aload_n hx hb dL_law_2114 rfl (lv_at hl 2 rfl) ?_
  refine gmi (w1 := wX dA b a ads fo fd σ' τ) (gmV S hgK hK hP hD hS hA hZ (gGri (ws' := wX dA b a ads fo fd σ' τ) (c_m_faultPosition l D dA zp b σ H.size v σ' em) wX_M wX_M) k_X9_faultPosition (gt_8 (i := 232) rfl rfl) 2 rfl rfl rfl hl.1 rfl ⟨rfl, rfl, Nat.le_of_ble_eq_true rfl, Nat.le_of_ble_eq_true rfl⟩ ⟨Nat.le_trans (Nat.le_add_right _ _) hcs.1, Nat.le_trans (Nat.le_add_right _ _) hcs.2⟩ (Nat.le_of_ble_eq_true rfl) dL_law_2115) hD hS hA (fun H locs hP hD hS => ?_)
  refine lv_icmp_eq (tgt := 2394) hx hb dL_law_2118 (by decide) (fun _ => ?_) (fun h9 => absurd rfl h9)
  exact W.widen (k := cells + 16) (n := slots + 1300) (by omega) (by omega) (K _ _ _ _ _ _ _ _ hI1 hP hD hS hl)
theorem kw_refusal : gKWs yL_refusal cL_refusal 4 (some .int) hL_refusal 3 := ⟨(gt_6 (i := 210) rfl rfl), (gt_1 (i := 0) rfl rfl), (gt_6 (i := 211) rfl rfl), by decide +kernel⟩
set_option maxHeartbeats 4000000 in
set_option maxRecDepth 100000 in
theorem lc_32 {p : Program} {l : Launch} {e : Env} {s : State} {m : MethodId} {args : Array Value} {below : List Frame} {meth : Method} {c : Code} {D : va_G} {dA : Nat → ClassId} {zp : Nat → Nat} {A : Nat → Prop} {Q : State → Prop} {b' L : Nat} {xs : Nat → Int32} {a b : Nat → Nat} {i : Int32} {ads : gAd} {fo : Nat → Int64} {fd : Nat → UInt64} {σ : MS} {τ : RS} {H : Heap} {locs : List Loc} {ls : Array Slot} {cells slots : Nat}
    (C : lwC p l s m c args D dA zp A b' L xs) (h1 : vp_in (i + 1) L) (h2 : vp_in (i + 2) L) (h3 : vp_in (i + 3) L) (h4 : vp_in (i + 4) L) (hI : mOK σ τ) (hP : va_P D vwCl (wX dA b a ads fo fd σ τ) H) (hD : va_D A (wX dA b a ads fo fd σ τ)) (hS : va_S A s.heap H locs) (hl : lv_has ls 9 (lwL b' a b i)) (hcs : cells + 16 ≤ room_1.cells ∧ slots + 1300 ≤ room_1.slots)
    (K : lwK p l e s m args below meth c D dA A Q b' a b i 2394 (cells + 16) (slots + 1300)) : W p l e room_1 s m args below meth c H locs cells slots Q (F0 m 2123 ls []) := by
  obtain ⟨S, hgK, hN, hK, hA, hZ, hfl, hX, hbl, hbA⟩ := C
  have S : CallFix p m c cL_law 9 s args gT RL := S
  obtain ⟨hx, hb, hml, hown, hts⟩ := id S
  have hl : lv_has ls 9 [(0, .ref b'), (1, .ref (a 0)), (2, .ref (b 0)), (3, .ref (b 8)), (4, .ref (b 9)), (5, .int i)] := hl
  obtain ⟨v, σ', res, em, er, ea⟩ := e_refusal hI (decide ((xs (i + 1).toNatClampNeg) ≠ 0))
  have ht : ∀ E τ1, res = .inl (E, τ1) → E = eNSE := fun E τ1 h9 => mem1 (ansE ea E τ1 h9)
  refine lv_aload_n hx hb dL_law_2123 rfl (lv_at hl 1 rfl) ?_
  refine g_arg (k := 1) (k0 := 0) (k5 := 5) hx hb hX hbl hbA hS hl rfl rfl h1 dL_law_2124 dL_law_2125 dL_law_2127 rfl dL_law_2128 dL_law_2129 ?_
  refine g_bool (tgt := 2137) (j := 2138) hx hb dL_law_2130 (by decide) dL_law_2133 dL_law_2134 (by decide) dL_law_2137 rfl ?_
  refine lv_aload_n hx hb dL_law_2138 rfl (lv_at hl 3 rfl) ?_
  refine gLx (gLS S hgK hN hK hP hD hS hA hZ (c_L_refusal l D dA zp hfl b a ads fo fd σ τ (decide ((xs (i + 1).toNatClampNeg) ≠ 0)) H.size res er ht) kw_refusal (gt_6 (i := 209) rfl rfl) rfl hl.1 rfl ⟨rfl, rfl, Nat.le_of_ble_eq_true rfl, Nat.le_of_ble_eq_true rfl⟩ ⟨hcs.1, hcs.2⟩ (Nat.le_of_ble_eq_true rfl) dL_law_2139) hD hS hA (fun r u ads H locs hp hP hD hS => ?_)
  obtain ⟨τ1, fo1, fd1⟩ := u
  obtain ⟨ht1, hI1, hg1⟩ := lans (tOne_u (by decide +kernel)) (tOne_z (by decide +kernel)) (fun _ => rfl) ea hp
  have hP : va_P D vwCl (wX dA b a ads fo1 fd1 σ τ1) H := hP
  have hD : va_D A (wX dA b a ads fo1 fd1 σ τ1) := hD
  refine lv_istore (lv' := [(6, .int r), (0, .ref b'), (1, .ref (a 0)), (2, .ref (b 0)), (3, .ref (b 8)), (4, .ref (b 9)), (5, .int i)]) hx hb dL_law_2142 hl (by decide) rfl (fun ls hl => ?_)
  refine lv_aload_n hx hb dL_law_2144 rfl (lv_at hl 3 rfl) ?_
  refine g_arg (k := 1) (k0 := 1) (k5 := 6) hx hb hX hbl hbA hS hl rfl rfl h1 dL_law_2145 dL_law_2146 dL_law_2148 rfl dL_law_2149 dL_law_2150 ?_
  refine g_bool (tgt := 2158) (j := 2159) hx hb dL_law_2151 (by decide) dL_law_2154 dL_law_2155 (by decide) dL_law_2158 rfl ?_
  refine gmi (w1 := wX dA b a ads fo1 fd1 σ' τ1) (gmV S hgK hK hP hD hS hA hZ (gGri (ws' := wX dA b a ads fo1 fd1 σ' τ1) (c_m_refusal l D dA zp b σ (decide ((xs (i + 1).toNatClampNeg) ≠ 0)) H.size v σ' em) wX_M wX_M) k_X9_refusal (gt_8 (i := 236) rfl rfl) 2 rfl rfl rfl hl.1 rfl ⟨rfl, rfl, Nat.le_of_ble_eq_true rfl, Nat.le_of_ble_eq_true rfl⟩ ⟨hcs.1, hcs.2⟩ (Nat.le_of_ble_eq_true rfl) dL_law_2159) hD hS hA (fun H locs hP hD hS => ?_)
  refine lv_istore (lv' := [(7, .int v), (6, .int r), (0, .ref b'), (1, .ref (a 0)), (2, .ref (b 0)), (3, .ref (b 8)), (4, .ref (b 9)), (5, .int i)]) hx hb dL_law_2162 hl (by decide) rfl (fun ls hl => ?_)
  refine lv_aload_n hx hb dL_law_2164 rfl (lv_at hl 4 rfl) ?_
  refine gci (gcV S hgK hK hP hS hZ (gGrR (c_m_thrown l D dA zp b σ' r (by rw [← ht1]; rfl)) wX_M) k_X9_thrown (gt_7 (i := 107) rfl rfl) 2 rfl rfl rfl hl.1 rfl ⟨rfl, rfl, Nat.le_of_ble_eq_true rfl, Nat.le_of_ble_eq_true rfl⟩ ⟨hcs.1, hcs.2⟩ (Nat.le_of_ble_eq_true rfl) dL_law_2165) ?_
  refine lv_iload hx hb dL_law_2168 (lv_at hl 1 rfl) ?_
  refine lv_icmp_eq (tgt := 2175) hx hb dL_law_2170 (by decide) (fun _ => ?_) (fun h9 => absurd rfl h9)
  refine lv_iload hx hb dL_law_2175 (lv_at hl 1 rfl) ?_
  refine lv_if_ne (tgt := 2192) hx hb dL_law_2177 (by decide) (fun hne => ?_) (fun heq => ?_)
  · refine lv_goto (tgt := 2394) hx hb dL_law_2192 (by decide) ?_
    exact K _ _ _ _ _ _ _ _ hI1 hP hD hS (lv_sub hl [2, 3, 4, 5, 6, 7] rfl)
  · obtain rfl : fo1 = vp_updL fo 0 v.toInt64 := congrArg (fun z => z.2.1) (hg1 heq)
    refine lv_aload_n hx hb dL_law_2180 rfl (lv_at hl 5 rfl) ?_
    refine lv_iconst (v := 0) hx hb dL_law_2181 (by decide) ?_
    refine g_lald (k := 0) hx hb hK hP 0 1 rfl rfl (by decide) (by decide) dL_law_2182 ?_
    refine lv_iload hx hb dL_law_2183 (lv_at hl 0 rfl) ?_
    refine lv_i2l (v := v.toInt64) hx hb dL_law_2185 rfl ?_
    refine gl_eq (tgt := 2192) hx hb dL_law_2186 dL_law_2187 (by decide) (fun _ => ?_) (fun h9 => absurd (if_pos rfl) h9)
    refine lv_goto (tgt := 2394) hx hb dL_law_2192 (by decide) ?_
    exact K _ _ _ _ _ _ _ _ hI1 hP hD hS (lv_sub hl [2, 3, 4, 5, 6, 7] rfl)
theorem kw_account : gKWs yL_account cL_account 4 (some .int) hL_account 3 := ⟨(gt_6 (i := 218) rfl rfl), (gt_1 (i := 0) rfl rfl), (gt_6 (i := 219) rfl rfl), by decide +kernel⟩
set_option maxHeartbeats 4000000 in
set_option maxRecDepth 100000 in
theorem lc_33 {p : Program} {l : Launch} {e : Env} {s : State} {m : MethodId} {args : Array Value} {below : List Frame} {meth : Method} {c : Code} {D : va_G} {dA : Nat → ClassId} {zp : Nat → Nat} {A : Nat → Prop} {Q : State → Prop} {b' L : Nat} {xs : Nat → Int32} {a b : Nat → Nat} {i : Int32} {ads : gAd} {fo : Nat → Int64} {fd : Nat → UInt64} {σ : MS} {τ : RS} {H : Heap} {locs : List Loc} {ls : Array Slot} {cells slots : Nat}
    (C : lwC p l s m c args D dA zp A b' L xs) (h1 : vp_in (i + 1) L) (h2 : vp_in (i + 2) L) (h3 : vp_in (i + 3) L) (h4 : vp_in (i + 4) L) (hI : mOK σ τ) (hP : va_P D vwCl (wX dA b a ads fo fd σ τ) H) (hD : va_D A (wX dA b a ads fo fd σ τ)) (hS : va_S A s.heap H locs) (hl : lv_has ls 9 (lwL b' a b i)) (hcs : cells + 16 ≤ room_1.cells ∧ slots + 1300 ≤ room_1.slots)
    (K : lwK p l e s m args below meth c D dA A Q b' a b i 2394 (cells + 16) (slots + 1300)) : W p l e room_1 s m args below meth c H locs cells slots Q (F0 m 2195 ls []) := by
  obtain ⟨S, hgK, hN, hK, hA, hZ, hfl, hX, hbl, hbA⟩ := C
  have S : CallFix p m c cL_law 9 s args gT RL := S
  obtain ⟨hx, hb, hml, hown, hts⟩ := id S
  have hl : lv_has ls 9 [(0, .ref b'), (1, .ref (a 0)), (2, .ref (b 0)), (3, .ref (b 8)), (4, .ref (b 9)), (5, .int i)] := hl
  obtain ⟨v, σ', res, em, er, ea⟩ := e_account hI (xs (i + 1).toNatClampNeg)
  have ht : ∀ E τ1, res = .inl (E, τ1) → E = eIAE := fun E τ1 h9 => mem1 (ansE ea E τ1 h9)
  refine lv_aload_n hx hb dL_law_2195 rfl (lv_at hl 1 rfl) ?_
  refine g_arg (k := 1) (k0 := 0) (k5 := 5) hx hb hX hbl hbA hS hl rfl rfl h1 dL_law_2196 dL_law_2197 dL_law_2199 rfl dL_law_2200 dL_law_2201 ?_
  refine lv_aload_n hx hb dL_law_2202 rfl (lv_at hl 3 rfl) ?_
  refine gLx (gLS S hgK hN hK hP hD hS hA hZ (c_L_account l D dA zp hfl b a ads fo fd σ τ (xs (i + 1).toNatClampNeg) H.size res er ht) kw_account (gt_6 (i := 217) rfl rfl) rfl hl.1 rfl ⟨rfl, rfl, Nat.le_of_ble_eq_true rfl, Nat.le_of_ble_eq_true rfl⟩ ⟨hcs.1, hcs.2⟩ (Nat.le_of_ble_eq_true rfl) dL_law_2203) hD hS hA (fun r u ads H locs hp hP hD hS => ?_)
  obtain ⟨τ1, fo1, fd1⟩ := u
  obtain ⟨ht1, hI1, hg1⟩ := lans (tOne_u (by decide +kernel)) (tOne_z (by decide +kernel)) (fun _ => rfl) ea hp
  have hP : va_P D vwCl (wX dA b a ads fo1 fd1 σ τ1) H := hP
  have hD : va_D A (wX dA b a ads fo1 fd1 σ τ1) := hD
  refine lv_istore (lv' := [(6, .int r), (0, .ref b'), (1, .ref (a 0)), (2, .ref (b 0)), (3, .ref (b 8)), (4, .ref (b 9)), (5, .int i)]) hx hb dL_law_2206 hl (by decide) rfl (fun ls hl => ?_)
  refine lv_aload_n hx hb dL_law_2208 rfl (lv_at hl 3 rfl) ?_
  refine g_arg (k := 1) (k0 := 1) (k5 := 6) hx hb hX hbl hbA hS hl rfl rfl h1 dL_law_2209 dL_law_2210 dL_law_2212 rfl dL_law_2213 dL_law_2214 ?_
  refine gml (w1 := wX dA b a ads fo1 fd1 σ' τ1) (gmV S hgK hK hP hD hS hA hZ (gGrl (ws' := wX dA b a ads fo1 fd1 σ' τ1) (c_m_account l D dA zp b σ (xs (i + 1).toNatClampNeg) H.size v σ' em) wX_M wX_M) k_X9_account (gt_9 (i := 0) rfl rfl) 2 rfl rfl rfl hl.1 rfl ⟨rfl, rfl, Nat.le_of_ble_eq_true rfl, Nat.le_of_ble_eq_true rfl⟩ ⟨hcs.1, hcs.2⟩ (Nat.le_of_ble_eq_true rfl) dL_law_2215) hD hS hA (fun H locs hP hD hS => ?_)
  refine lv_lstore (lv' := [(7, .long v), (6, .int r), (0, .ref b'), (1, .ref (a 0)), (2, .ref (b 0)), (3, .ref (b 8)), (4, .ref (b 9)), (5, .int i)]) hx hb dL_law_2218 hl (by decide) rfl (fun ls hl => ?_)
  refine lv_aload_n hx hb dL_law_2220 rfl (lv_at hl 4 rfl) ?_
  refine gci (gcV S hgK hK hP hS hZ (gGrR (c_m_thrown l D dA zp b σ' r (by rw [← ht1]; rfl)) wX_M) k_X9_thrown (gt_7 (i := 107) rfl rfl) 2 rfl rfl rfl hl.1 rfl ⟨rfl, rfl, Nat.le_of_ble_eq_true rfl, Nat.le_of_ble_eq_true rfl⟩ ⟨hcs.1, hcs.2⟩ (Nat.le_of_ble_eq_true rfl) dL_law_2221) ?_
  refine lv_iload hx hb dL_law_2224 (lv_at hl 1 rfl) ?_
  refine lv_icmp_eq (tgt := 2231) hx hb dL_law_2226 (by decide) (fun _ => ?_) (fun h9 => absurd rfl h9)
  refine lv_iload hx hb dL_law_2231 (lv_at hl 1 rfl) ?_
  refine lv_if_ne (tgt := 2247) hx hb dL_law_2233 (by decide) (fun hne => ?_) (fun heq => ?_)
  · refine lv_goto (tgt := 2394) hx hb dL_law_2247 (by decide) ?_
    exact K _ _ _ _ _ _ _ _ hI1 hP hD hS (lv_sub hl [2, 3, 4, 5, 6, 7] rfl)
  · obtain rfl : fo1 = vp_updL fo 0 v := congrArg (fun z => z.2.1) (hg1 heq)
    refine lv_aload_n hx hb dL_law_2236 rfl (lv_at hl 5 rfl) ?_
    refine lv_iconst (v := 0) hx hb dL_law_2237 (by decide) ?_
    refine g_lald (k := 0) hx hb hK hP 0 1 rfl rfl (by decide) (by decide) dL_law_2238 ?_
    refine lv_lload hx hb dL_law_2239 (lv_at hl 0 rfl) ?_
    refine gl_eq (tgt := 2247) hx hb dL_law_2241 dL_law_2242 (by decide) (fun _ => ?_) (fun h9 => absurd (if_pos rfl) h9)
    refine lv_goto (tgt := 2394) hx hb dL_law_2247 (by decide) ?_
    exact K _ _ _ _ _ _ _ _ hI1 hP hD hS (lv_sub hl [2, 3, 4, 5, 6, 7] rfl)
theorem kw_goodShare : gKWs yL_goodShare cL_goodShare 3 (some .int) hL_goodShare 2 := ⟨(gt_6 (i := 237) rfl rfl), (gt_1 (i := 0) rfl rfl), (gt_6 (i := 238) rfl rfl), by decide +kernel⟩
set_option maxHeartbeats 4000000 in
set_option maxRecDepth 100000 in
theorem lc_34 {p : Program} {l : Launch} {e : Env} {s : State} {m : MethodId} {args : Array Value} {below : List Frame} {meth : Method} {c : Code} {D : va_G} {dA : Nat → ClassId} {zp : Nat → Nat} {A : Nat → Prop} {Q : State → Prop} {b' L : Nat} {xs : Nat → Int32} {a b : Nat → Nat} {i : Int32} {ads : gAd} {fo : Nat → Int64} {fd : Nat → UInt64} {σ : MS} {τ : RS} {H : Heap} {locs : List Loc} {ls : Array Slot} {cells slots : Nat}
    (C : lwC p l s m c args D dA zp A b' L xs) (h1 : vp_in (i + 1) L) (h2 : vp_in (i + 2) L) (h3 : vp_in (i + 3) L) (h4 : vp_in (i + 4) L) (hI : mOK σ τ) (hP : va_P D vwCl (wX dA b a ads fo fd σ τ) H) (hD : va_D A (wX dA b a ads fo fd σ τ)) (hS : va_S A s.heap H locs) (hl : lv_has ls 9 (lwL b' a b i)) (hcs : cells + 16 ≤ room_1.cells ∧ slots + 1300 ≤ room_1.slots)
    (K : lwK p l e s m args below meth c D dA A Q b' a b i 2394 (cells + 16) (slots + 1300)) : W p l e room_1 s m args below meth c H locs cells slots Q (F0 m 2250 ls []) := by
  obtain ⟨S, hgK, hN, hK, hA, hZ, hfl, hX, hbl, hbA⟩ := C
  have S : CallFix p m c cL_law 9 s args gT RL := S
  obtain ⟨hx, hb, hml, hown, hts⟩ := id S
  have hl : lv_has ls 9 [(0, .ref b'), (1, .ref (a 0)), (2, .ref (b 0)), (3, .ref (b 8)), (4, .ref (b 9)), (5, .int i)] := hl
  obtain ⟨v, σ', res, em, er, ea⟩ := e_goodShare hI
  have ht : ∀ E τ1, res = .inl (E, τ1) → E = eAE := fun E τ1 h9 => mem1 (ansE ea E τ1 h9)
  refine lv_aload_n hx hb dL_law_2250 rfl (lv_at hl 1 rfl) ?_
  refine lv_aload hx hb dL_law_2251 (lv_at hl 4 rfl) ?_
  refine gLx (gLS S hgK hN hK hP hD hS hA hZ (c_L_goodShare l D dA zp hfl b a ads fo fd σ τ H.size res er ht) kw_goodShare (gt_6 (i := 236) rfl rfl) rfl hl.1 rfl ⟨rfl, rfl, Nat.le_of_ble_eq_true rfl, Nat.le_of_ble_eq_true rfl⟩ ⟨hcs.1, hcs.2⟩ (Nat.le_of_ble_eq_true rfl) dL_law_2253) hD hS hA (fun r u ads H locs hp hP hD hS => ?_)
  obtain ⟨τ1, fo1, fd1⟩ := u
  obtain ⟨ht1, hI1, hg1⟩ := lans (tOne_u (by decide +kernel)) (tOne_z (by decide +kernel)) (fun _ => rfl) ea hp
  have hP : va_P D vwCl (wX dA b a ads fo1 fd1 σ τ1) H := hP
  have hD : va_D A (wX dA b a ads fo1 fd1 σ τ1) := hD
  refine lv_istore (lv' := [(6, .int r), (0, .ref b'), (1, .ref (a 0)), (2, .ref (b 0)), (3, .ref (b 8)), (4, .ref (b 9)), (5, .int i)]) hx hb dL_law_2256 hl (by decide) rfl (fun ls hl => ?_)
  refine lv_aload_n hx hb dL_law_2258 rfl (lv_at hl 3 rfl) ?_
  refine gmd (w1 := wX dA b a ads fo1 fd1 σ' τ1) (gmV S hgK hK hP hD hS hA hZ (gGrd (ws' := wX dA b a ads fo1 fd1 σ' τ1) (c_m_goodShare l D dA zp b σ H.size v σ' em) wX_M wX_M) k_X9_goodShare (gt_9 (i := 20) rfl rfl) 2 rfl rfl rfl hl.1 rfl ⟨rfl, rfl, Nat.le_of_ble_eq_true rfl, Nat.le_of_ble_eq_true rfl⟩ ⟨hcs.1, hcs.2⟩ (Nat.le_of_ble_eq_true rfl) dL_law_2259) hD hS hA (fun H locs hP hD hS => ?_)
  refine lv_dstore (lv' := [(7, .double v), (6, .int r), (0, .ref b'), (1, .ref (a 0)), (2, .ref (b 0)), (3, .ref (b 8)), (4, .ref (b 9)), (5, .int i)]) hx hb dL_law_2262 hl (by decide) rfl (fun ls hl => ?_)
  refine lv_aload_n hx hb dL_law_2264 rfl (lv_at hl 4 rfl) ?_
  refine gci (gcV S hgK hK hP hS hZ (gGrR (c_m_thrown l D dA zp b σ' r (by rw [← ht1]; rfl)) wX_M) k_X9_thrown (gt_7 (i := 107) rfl rfl) 2 rfl rfl rfl hl.1 rfl ⟨rfl, rfl, Nat.le_of_ble_eq_true rfl, Nat.le_of_ble_eq_true rfl⟩ ⟨hcs.1, hcs.2⟩ (Nat.le_of_ble_eq_true rfl) dL_law_2265) ?_
  refine lv_iload hx hb dL_law_2268 (lv_at hl 1 rfl) ?_
  refine lv_icmp_eq (tgt := 2275) hx hb dL_law_2270 (by decide) (fun _ => ?_) (fun h9 => absurd rfl h9)
  refine lv_iload hx hb dL_law_2275 (lv_at hl 1 rfl) ?_
  refine lv_if_ne (tgt := 2312) hx hb dL_law_2277 (by decide) (fun hne => ?_) (fun heq => ?_)
  · refine lv_goto (tgt := 2394) hx hb dL_law_2312 (by decide) ?_
    exact K _ _ _ _ _ _ _ _ hI1 hP hD hS (lv_sub hl [2, 3, 4, 5, 6, 7] rfl)
  · obtain rfl : fd1 = vf_upd fd 0 v := congrArg (fun z => z.2.2) (hg1 heq)
    obtain ⟨w, hw⟩ : ∃ w, Op.cmpValue (FP.dcmp v v) .l = w := ⟨_, rfl⟩
    refine lv_aload hx hb dL_law_2280 (lv_at hl 6 rfl) ?_
    refine lv_iconst (v := 0) hx hb dL_law_2282 (by decide) ?_
    refine g_dald (k := 0) hx hb hK hP 1 6 rfl rfl (by decide) (by decide) dL_law_2283 ?_
    rw [show vf_upd fd 0 v 0 = v from if_pos rfl]
    refine lv_dload hx hb dL_law_2284 (lv_at hl 0 rfl) ?_
    refine lv_dcmpl (v := w) hx hb dL_law_2286 hw ?_
    refine lv_if_eq (tgt := 2312) hx hb dL_law_2287 (by decide) (fun _ => ?_) (fun hnz => ?_)
    · refine lv_goto (tgt := 2394) hx hb dL_law_2312 (by decide) ?_
      exact K _ _ _ _ _ _ _ _ hI1 hP hD hS (lv_sub hl [2, 3, 4, 5, 6, 7] rfl)
    · refine lv_aload hx hb dL_law_2290 (lv_at hl 6 rfl) ?_
      refine lv_iconst (v := 0) hx hb dL_law_2292 (by decide) ?_
      refine g_dald (k := 0) hx hb hK hP 1 6 rfl rfl (by decide) (by decide) dL_law_2293 ?_
      rw [show vf_upd fd 0 v 0 = v from if_pos rfl]
      refine lv_aload hx hb dL_law_2294 (lv_at hl 6 rfl) ?_
      refine lv_iconst (v := 0) hx hb dL_law_2296 (by decide) ?_
      refine g_dald (k := 0) hx hb hK hP 1 6 rfl rfl (by decide) (by decide) dL_law_2297 ?_
      rw [show vf_upd fd 0 v 0 = v from if_pos rfl]
      refine lv_dcmpl (v := w) hx hb dL_law_2298 hw ?_
      refine lv_if_eq (tgt := 2310) hx hb dL_law_2299 (by decide) (fun h9 => absurd h9 hnz) (fun _ => ?_)
      refine lv_dload hx hb dL_law_2302 (lv_at hl 0 rfl) ?_
      refine lv_dload hx hb dL_law_2304 (lv_at hl 0 rfl) ?_
      refine lv_dcmpl (v := w) hx hb dL_law_2306 hw ?_
      refine lv_if_ne (tgt := 2312) hx hb dL_law_2307 (by decide) (fun _ => ?_) (fun h9 => absurd h9 hnz)
      refine lv_goto (tgt := 2394) hx hb dL_law_2312 (by decide) ?_
      exact K _ _ _ _ _ _ _ _ hI1 hP hD hS (lv_sub hl [2, 3, 4, 5, 6, 7] rfl)
theorem kw_undo : gKWs yL_undo cL_undo 3 (some .int) hL_undo 2 := ⟨(gt_7 (i := 21) rfl rfl), (gt_1 (i := 0) rfl rfl), (gt_7 (i := 22) rfl rfl), by decide +kernel⟩
set_option maxHeartbeats 4000000 in
set_option maxRecDepth 100000 in
theorem lc_35 {p : Program} {l : Launch} {e : Env} {s : State} {m : MethodId} {args : Array Value} {below : List Frame} {meth : Method} {c : Code} {D : va_G} {dA : Nat → ClassId} {zp : Nat → Nat} {A : Nat → Prop} {Q : State → Prop} {b' L : Nat} {xs : Nat → Int32} {a b : Nat → Nat} {i : Int32} {ads : gAd} {fo : Nat → Int64} {fd : Nat → UInt64} {σ : MS} {τ : RS} {H : Heap} {locs : List Loc} {ls : Array Slot} {cells slots : Nat}
    (C : lwC p l s m c args D dA zp A b' L xs) (h1 : vp_in (i + 1) L) (h2 : vp_in (i + 2) L) (h3 : vp_in (i + 3) L) (h4 : vp_in (i + 4) L) (hI : mOK σ τ) (hP : va_P D vwCl (wX dA b a ads fo fd σ τ) H) (hD : va_D A (wX dA b a ads fo fd σ τ)) (hS : va_S A s.heap H locs) (hl : lv_has ls 9 (lwL b' a b i)) (hcs : cells + 16 ≤ room_1.cells ∧ slots + 1300 ≤ room_1.slots)
    (K : lwK p l e s m args below meth c D dA A Q b' a b i 2394 (cells + 16) (slots + 1300)) : W p l e room_1 s m args below meth c H locs cells slots Q (F0 m 2315 ls []) := by
  obtain ⟨S, hgK, hN, hK, hA, hZ, hfl, hX, hbl, hbA⟩ := C
  have S : CallFix p m c cL_law 9 s args gT RL := S
  obtain ⟨hx, hb, hml, hown, hts⟩ := id S
  have hl : lv_has ls 9 [(0, .ref b'), (1, .ref (a 0)), (2, .ref (b 0)), (3, .ref (b 8)), (4, .ref (b 9)), (5, .int i)] := hl
  obtain ⟨v, σ', res, em, er, ea⟩ := e_undo hI
  have ht : ∀ E τ1, res = .inl (E, τ1) → E = eISE := fun E τ1 h9 => mem1 (ansE ea E τ1 h9)
  refine lv_aload_n hx hb dL_law_2315 rfl (lv_at hl 1 rfl) ?_
  refine lv_aload_n hx hb dL_law_2316 rfl (lv_at hl 3 rfl) ?_
  refine gLx (gLS S hgK hN hK hP hD hS hA hZ (c_L_undo l D dA zp hfl b a ads fo fd σ τ H.size res er ht) kw_undo (gt_7 (i := 20) rfl rfl) rfl hl.1 rfl ⟨rfl, rfl, Nat.le_of_ble_eq_true rfl, Nat.le_of_ble_eq_true rfl⟩ ⟨hcs.1, hcs.2⟩ (Nat.le_of_ble_eq_true rfl) dL_law_2317) hD hS hA (fun r u ads H locs hp hP hD hS => ?_)
  obtain ⟨τ1, fo1, fd1⟩ := u
  obtain ⟨ht1, hI1, hg1⟩ := lans (tOne_u (by decide +kernel)) (tOne_z (by decide +kernel)) (fun _ => rfl) ea hp
  have hP : va_P D vwCl (wX dA b a ads fo1 fd1 σ τ1) H := hP
  have hD : va_D A (wX dA b a ads fo1 fd1 σ τ1) := hD
  refine lv_istore (lv' := [(6, .int r), (0, .ref b'), (1, .ref (a 0)), (2, .ref (b 0)), (3, .ref (b 8)), (4, .ref (b 9)), (5, .int i)]) hx hb dL_law_2320 hl (by decide) rfl (fun ls hl => ?_)
  refine lv_aload_n hx hb dL_law_2322 rfl (lv_at hl 3 rfl) ?_
  refine gmi (w1 := wX dA b a ads fo1 fd1 σ' τ1) (gmV S hgK hK hP hD hS hA hZ (gGri (ws' := wX dA b a ads fo1 fd1 σ' τ1) (c_m_undo l D dA zp b σ H.size v σ' em) wX_M wX_M) k_X9_undo (gt_9 (i := 24) rfl rfl) 2 rfl rfl rfl hl.1 rfl ⟨rfl, rfl, Nat.le_of_ble_eq_true rfl, Nat.le_of_ble_eq_true rfl⟩ ⟨hcs.1, hcs.2⟩ (Nat.le_of_ble_eq_true rfl) dL_law_2323) hD hS hA (fun H locs hP hD hS => ?_)
  refine lv_istore (lv' := [(7, .int v), (6, .int r), (0, .ref b'), (1, .ref (a 0)), (2, .ref (b 0)), (3, .ref (b 8)), (4, .ref (b 9)), (5, .int i)]) hx hb dL_law_2326 hl (by decide) rfl (fun ls hl => ?_)
  refine lv_aload_n hx hb dL_law_2328 rfl (lv_at hl 4 rfl) ?_
  refine gci (gcV S hgK hK hP hS hZ (gGrR (c_m_thrown l D dA zp b σ' r (by rw [← ht1]; rfl)) wX_M) k_X9_thrown (gt_7 (i := 107) rfl rfl) 2 rfl rfl rfl hl.1 rfl ⟨rfl, rfl, Nat.le_of_ble_eq_true rfl, Nat.le_of_ble_eq_true rfl⟩ ⟨hcs.1, hcs.2⟩ (Nat.le_of_ble_eq_true rfl) dL_law_2329) ?_
  refine lv_iload hx hb dL_law_2332 (lv_at hl 1 rfl) ?_
  refine lv_icmp_eq (tgt := 2339) hx hb dL_law_2334 (by decide) (fun _ => ?_) (fun h9 => absurd rfl h9)
  refine lv_iload hx hb dL_law_2339 (lv_at hl 1 rfl) ?_
  refine lv_if_ne (tgt := 2356) hx hb dL_law_2341 (by decide) (fun hne => ?_) (fun heq => ?_)
  · refine lv_goto (tgt := 2394) hx hb dL_law_2356 (by decide) ?_
    exact K _ _ _ _ _ _ _ _ hI1 hP hD hS (lv_sub hl [2, 3, 4, 5, 6, 7] rfl)
  · obtain rfl : fo1 = vp_updL fo 0 v.toInt64 := congrArg (fun z => z.2.1) (hg1 heq)
    refine lv_aload_n hx hb dL_law_2344 rfl (lv_at hl 5 rfl) ?_
    refine lv_iconst (v := 0) hx hb dL_law_2345 (by decide) ?_
    refine g_lald (k := 0) hx hb hK hP 0 1 rfl rfl (by decide) (by decide) dL_law_2346 ?_
    refine lv_iload hx hb dL_law_2347 (lv_at hl 0 rfl) ?_
    refine lv_i2l (v := v.toInt64) hx hb dL_law_2349 rfl ?_
    refine gl_eq (tgt := 2356) hx hb dL_law_2350 dL_law_2351 (by decide) (fun _ => ?_) (fun h9 => absurd (if_pos rfl) h9)
    refine lv_goto (tgt := 2394) hx hb dL_law_2356 (by decide) ?_
    exact K _ _ _ _ _ _ _ _ hI1 hP hD hS (lv_sub hl [2, 3, 4, 5, 6, 7] rfl)
set_option maxHeartbeats 4000000 in
set_option maxRecDepth 100000 in
theorem lc_36 {p : Program} {l : Launch} {e : Env} {s : State} {m : MethodId} {args : Array Value} {below : List Frame} {meth : Method} {c : Code} {D : va_G} {dA : Nat → ClassId} {zp : Nat → Nat} {A : Nat → Prop} {Q : State → Prop} {b' L : Nat} {xs : Nat → Int32} {a b : Nat → Nat} {i : Int32} {ads : gAd} {fo : Nat → Int64} {fd : Nat → UInt64} {σ : MS} {τ : RS} {H : Heap} {locs : List Loc} {ls : Array Slot} {cells slots : Nat}
    (C : lwC p l s m c args D dA zp A b' L xs) (h1 : vp_in (i + 1) L) (h2 : vp_in (i + 2) L) (h3 : vp_in (i + 3) L) (h4 : vp_in (i + 4) L) (hI : mOK σ τ) (hP : va_P D vwCl (wX dA b a ads fo fd σ τ) H) (hD : va_D A (wX dA b a ads fo fd σ τ)) (hS : va_S A s.heap H locs) (hl : lv_has ls 9 (lwL b' a b i)) (hcs : cells + 16 ≤ room_1.cells ∧ slots + 1300 ≤ room_1.slots)
    (K : lwK p l e s m args below meth c D dA A Q b' a b i 2394 (cells + 16) (slots + 1300)) : W p l e room_1 s m args below meth c H locs cells slots Q (F0 m 2359 ls []) := by
  obtain ⟨S, hgK, hN, hK, hA, hZ, hfl, hX, hbl, hbA⟩ := C
  have S : CallFix p m c cL_law 9 s args gT RL := S
  obtain ⟨hx, hb, hml, hown, hts⟩ := id S
  have hl : lv_has ls 9 [(0, .ref b'), (1, .ref (a 0)), (2, .ref (b 0)), (3, .ref (b 8)), (4, .ref (b 9)), (5, .int i)] := hl
  obtain ⟨σ', τ1, em, er, -, hI1⟩ := e_save hI
  refine lv_aload_n hx hb dL_law_2359 rfl (lv_at hl 1 rfl) ?_
  refine gmvE (wf := fun ads => wX dA b a ads fo fd σ τ1) (gmV S hgK hK hP hD hS hA hZ (gGrvE (wf' := fun ads => wX dA b a ads fo fd σ τ1) (c_r_save l D dA zp a ads τ H.size τ1 er) wX_R (fun ads => wX_R)) k_X8_save (gt_2 (i := 94) rfl rfl) 10 rfl rfl rfl hl.1 rfl ⟨rfl, rfl, Nat.le_of_ble_eq_true rfl, Nat.le_of_ble_eq_true rfl⟩ ⟨Nat.le_trans (Nat.add_le_add_left (by decide) _) hcs.1, Nat.le_trans (Nat.add_le_add_left (by decide) _) hcs.2⟩ (Nat.le_of_ble_eq_true rfl) dL_law_2360) hD hS hA (fun ads H locs hP hD hS => ?_)
  have hP : va_P D vwCl (wX dA b a ads fo fd σ τ1) H := hP
  have hD : va_D A (wX dA b a ads fo fd σ τ1) := hD
  refine lv_aload_n hx hb dL_law_2363 rfl (lv_at hl 2 rfl) ?_
  refine gmv (w1 := wX dA b a ads fo fd σ' τ1) (gmV S hgK hK hP hD hS hA hZ (gGrv (ws' := wX dA b a ads fo fd σ' τ1) (c_m_save l D dA zp b σ H.size σ' em) wX_M wX_M) k_X9_save (gt_9 (i := 28) rfl rfl) 2 rfl rfl rfl hl.1 rfl ⟨rfl, rfl, Nat.le_of_ble_eq_true rfl, Nat.le_of_ble_eq_true rfl⟩ ⟨(show cells + 13 ≤ room_1.cells by omega), (show slots + 1213 ≤ room_1.slots by omega)⟩ (Nat.le_of_ble_eq_true rfl) dL_law_2364) hD hS hA (fun H locs hP hD hS => ?_)
  refine lv_goto (tgt := 2394) hx hb dL_law_2367 (by decide) ?_
  exact W.widen (k := cells + 16) (n := slots + 1300) (by omega) (by omega) (K _ _ _ _ _ _ _ _ hI1 hP hD hS hl)
theorem kw_restore : gKWs yL_restore cL_restore 2 (some .int) hL_restore 1 := ⟨(gt_7 (i := 34) rfl rfl), (gt_1 (i := 0) rfl rfl), (gt_7 (i := 35) rfl rfl), by decide +kernel⟩
set_option maxHeartbeats 4000000 in
set_option maxRecDepth 100000 in
theorem lc_37 {p : Program} {l : Launch} {e : Env} {s : State} {m : MethodId} {args : Array Value} {below : List Frame} {meth : Method} {c : Code} {D : va_G} {dA : Nat → ClassId} {zp : Nat → Nat} {A : Nat → Prop} {Q : State → Prop} {b' L : Nat} {xs : Nat → Int32} {a b : Nat → Nat} {i : Int32} {ads : gAd} {fo : Nat → Int64} {fd : Nat → UInt64} {σ : MS} {τ : RS} {H : Heap} {locs : List Loc} {ls : Array Slot} {cells slots : Nat}
    (C : lwC p l s m c args D dA zp A b' L xs) (h1 : vp_in (i + 1) L) (h2 : vp_in (i + 2) L) (h3 : vp_in (i + 3) L) (h4 : vp_in (i + 4) L) (hI : mOK σ τ) (hP : va_P D vwCl (wX dA b a ads fo fd σ τ) H) (hD : va_D A (wX dA b a ads fo fd σ τ)) (hS : va_S A s.heap H locs) (hl : lv_has ls 9 (lwL b' a b i)) (hcs : cells + 16 ≤ room_1.cells ∧ slots + 1300 ≤ room_1.slots)
    (K : lwK p l e s m args below meth c D dA A Q b' a b i 2394 (cells + 16) (slots + 1300)) : W p l e room_1 s m args below meth c H locs cells slots Q (F0 m 2370 ls []) := by
  obtain ⟨S, hgK, hN, hK, hA, hZ, hfl, hX, hbl, hbA⟩ := C
  have S : CallFix p m c cL_law 9 s args gT RL := S
  obtain ⟨hx, hb, hml, hown, hts⟩ := id S
  have hl : lv_has ls 9 [(0, .ref b'), (1, .ref (a 0)), (2, .ref (b 0)), (3, .ref (b 8)), (4, .ref (b 9)), (5, .int i)] := hl
  obtain ⟨σ', res, em, er, ea, ex⟩ := bothv_ex (e_restore hI)
  have ht : ∀ E τ1, res = .inl (E, τ1) → E = eISE := fun E τ1 h9 => mem1 (ex E τ1 h9)
  refine lv_aload_n hx hb dL_law_2370 rfl (lv_at hl 1 rfl) ?_
  refine gLx (gLS S hgK hN hK hP hD hS hA hZ (c_L_restore l D dA zp hfl b a ads fo fd σ τ H.size res er ht) kw_restore (gt_7 (i := 33) rfl rfl) rfl hl.1 rfl ⟨rfl, rfl, Nat.le_of_ble_eq_true rfl, Nat.le_of_ble_eq_true rfl⟩ ⟨hcs.1, hcs.2⟩ (Nat.le_of_ble_eq_true rfl) dL_law_2371) hD hS hA (fun r u ads H locs hp hP hD hS => ?_)
  obtain ⟨τ1, fo1, fd1⟩ := u
  obtain ⟨ht1, hI1⟩ := lansv (tOne_u (by decide +kernel)) ea hp
  have hP : va_P D vwCl (wX dA b a ads fo1 fd1 σ τ1) H := hP
  have hD : va_D A (wX dA b a ads fo1 fd1 σ τ1) := hD
  refine lv_istore (lv' := [(6, .int r), (0, .ref b'), (1, .ref (a 0)), (2, .ref (b 0)), (3, .ref (b 8)), (4, .ref (b 9)), (5, .int i)]) hx hb dL_law_2374 hl (by decide) rfl (fun ls hl => ?_)
  refine lv_aload_n hx hb dL_law_2376 rfl (lv_at hl 3 rfl) ?_
  refine gmv (w1 := wX dA b a ads fo1 fd1 σ' τ1) (gmV S hgK hK hP hD hS hA hZ (gGrv (ws' := wX dA b a ads fo1 fd1 σ' τ1) (c_m_restore l D dA zp b σ H.size σ' em) wX_M wX_M) k_X9_restore (gt_9 (i := 32) rfl rfl) 2 rfl rfl rfl hl.1 rfl ⟨rfl, rfl, Nat.le_of_ble_eq_true rfl, Nat.le_of_ble_eq_true rfl⟩ ⟨hcs.1, hcs.2⟩ (Nat.le_of_ble_eq_true rfl) dL_law_2377) hD hS hA (fun H locs hP hD hS => ?_)
  refine lv_aload_n hx hb dL_law_2380 rfl (lv_at hl 3 rfl) ?_
  refine gci (gcV S hgK hK hP hS hZ (gGrR (c_m_thrown l D dA zp b σ' r (by rw [← ht1]; rfl)) wX_M) k_X9_thrown (gt_7 (i := 107) rfl rfl) 2 rfl rfl rfl hl.1 rfl ⟨rfl, rfl, Nat.le_of_ble_eq_true rfl, Nat.le_of_ble_eq_true rfl⟩ ⟨hcs.1, hcs.2⟩ (Nat.le_of_ble_eq_true rfl) dL_law_2381) ?_
  refine lv_iload hx hb dL_law_2384 (lv_at hl 0 rfl) ?_
  refine lv_icmp_eq (tgt := 2391) hx hb dL_law_2386 (by decide) (fun _ => ?_) (fun h9 => absurd rfl h9)
  refine lv_goto (tgt := 2394) hx hb dL_law_2391 (by decide) ?_
  exact K _ _ _ _ _ _ _ _ hI1 hP hD hS (lv_sub hl [1, 2, 3, 4, 5, 6] rfl)
