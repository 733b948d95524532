section LCASE
variable {p : Program} {l : Launch} {e : Env} {s : State} {m : MethodId} {args : Array Value} {below : List Frame} {meth : Method} {c : Code} {H : Heap} {locs : List Loc} {cells slots : Nat} {Q : State → Prop} {ls : Array Slot}
variable {b L : Nat} {xs : Nat → Int32} {D : va_G} {cy : Nat → ClassId} {cl cd : ClassId} {xq ad am : Nat → Nat} {qo qd : Nat} {pm : Nat → Nat} {rj : Option Nat} {rc : Option RC} {σ μ : Nat → Nat → Int32} {f : Nat → Int64} {g : Nat → UInt64} {i B : Nat}
set_option maxHeartbeats 4000000 in
set_option maxRecDepth 100000 in
theorem lc_0 (E0 : LE p l s m c args b L xs D cy cl cd xq) (hi : 7 * i + 7 ≤ L) (hL : L ≤ 3584) (hcl : cells + 60 ≤ 606307) (hsl : slots + 240 ≤ 7176832) (hW : LW s.heap.size D cy ad am qo qd pm rj rc σ μ (eL cl f) (eD cd g) H) (hR : RR B σ pm rc μ) (hB : B ≤ 20 * i + 1) (hS : va_S (fun q => s.heap.size ≤ q) s.heap H locs) (hl : lv_has ls 9 [(0, .ref b), (1, .ref (ad 429)), (2, .ref (am 0)), (3, .ref qo), (4, .ref qd), (5, .int (nI (7 * i)))]) (ih : LIH p l e s m args below meth c D cy cl cd ad am qo qd b i B cells slots Q) : W p l e room_1 s m args below meth c H locs cells slots Q (F0 m 308 ls []) := by
  obtain ⟨hx, hb, hml, hown, hts, hX, hbl, hst, hK, hE0, hNC⟩ := E0
  have hbA : ¬ (fun q : Nat => s.heap.size ≤ q) b := Nat.not_le.mpr hbl
  obtain ⟨n, t, pi, ro, hbr⟩ := hR.1
  obtain ⟨⟨ch, hc8, hch, -⟩, hpm, -⟩ := hR.2.1
  have hRJ := hR.2.2.2.1
  have hB6 : B + 20 < 1000000 := by omega
  have hA := hW.1
  have hKg := hK.sub (tys' := tyG cy) [0, 1, 2, 3, 4, 5] rfl
  refine lv_aload_n hx hb dL_law_308 rfl (lv_at hl 1 rfl) ?_
  refine lv_aload_n hx hb dL_law_309 rfl (lv_at hl 0 rfl) ?_
  refine lv_iload hx hb dL_law_310 (lv_at hl 5 rfl) ?_
  refine lv_iconst (v := 1) hx hb dL_law_312 (by decide) ?_
  refine lv_iadd hx hb dL_law_313 ?_
  refine W.eq (g2 := F0 m 314 ls [.int (nI (7 * i + 1)), .ref b, .ref (ad 429)]) (congrArg (fun z9 => F0 m 314 ls [.int z9, .ref b, .ref (ad 429)]) (show nI (7 * i) + 1 = nI (7 * i + 1) from nI_addE rfl (by decide +kernel))) ?_
  refine va_sld hx hb hX hbl hbA hS (i := nI (7 * i + 1)) (vp_in_nI (by omega) (by omega)) dL_law_314 ?_
  refine lv_aload_n hx hb dL_law_315 rfl (lv_at hl 3 rfl) ?_
  refine LW.call hW (vx_runSW (As := [.ref (ad 429), .int (xs (nI (7 * i + 1)).toNatClampNeg), .ref qo]) (rest := []) ⟨hx, hb, hml, hown, hts⟩ (c_L_addTrack l D ad cy pm rj σ xq hst _ hA.1 (xs (nI (7 * i + 1)).toNatClampNeg) hpm cl cd qo f g) (vx_cwSW 3 hts gL_law_L_addTrack rfl rfl rfl (by decide +kernel) ⟨Nat.le_of_ble_eq_true rfl, Nat.le_of_ble_eq_true rfl⟩) (lwPre hW.2.1 hW.2.2.2.1 hK (lwEX hE0 hA hS) hNC (fun k hk => (hA.2.2.2.1 k hk).1) trivial) rfl rfl hl.1 rfl (lv_room (Nat.le_of_ble_eq_true rfl)) dL_law_316 ⟨by show cells + 2 ≤ 606307; omega, by show slots + 9 ≤ 7176832; omega⟩) hS (fun H2 locs2 pm2 rj2 rc2 σ2 e2 hW hO hS => ?_)
  refine lv_topi (fun k6 ek6 => ?_)
  refine lv_istore (lv' := [(6, .int k6), (0, .ref b), (1, .ref (ad 429)), (2, .ref (am 0)), (3, .ref qo), (4, .ref qd), (5, .int (nI (7 * i)))]) hx hb dL_law_319 hl (by decide) rfl (fun ls hl => ?_)
  refine lv_aload_n hx hb dL_law_321 rfl (lv_at hl 3 rfl) ?_
  refine lv_aload_n hx hb dL_law_322 rfl (lv_at hl 1 rfl) ?_
  refine lv_iload hx hb dL_law_323 (lv_at hl 6 rfl) ?_
  refine lv_iconst (v := 1) hx hb dL_law_325 (by decide) ?_
  refine lv_iadd hx hb dL_law_326 ?_
  refine W.eq (g2 := F0 m 327 ls [.int (nI (7 * i + 1)), .ref b, .ref (am 0)]) (congrArg (fun z9 => F0 m 327 ls [.int z9, .ref b, .ref (am 0)]) (show nI (7 * i) + 1 = nI (7 * i + 1) from nI_addE rfl (by decide +kernel))) ?_
  refine va_sld hx hb hX hbl hbA hS (i := nI (7 * i + 1)) (vp_in_nI (by omega) (by omega)) dL_law_327 ?_
  refine sp_callm (va_runV (As := [.int (xs (nI (7 * i + 1)).toNatClampNeg)]) (rest := []) ⟨hx, hb, hml, hown, hts⟩ (c_X10_addTrack l D am cy μ _ hA.2.1 n t hbr.1 ch hch hc8 (xs (nI (7 * i + 1)).toNatClampNeg)) (cwV 1 hts gL_law_X10_addTrack rfl rfl rfl (by decide +kernel) ⟨Nat.le_of_ble_eq_true rfl, Nat.le_of_ble_eq_true rfl⟩) (sp_preVm hKg hW.2.2.1 (κ := 0) (by decide) mE_0 rfl) rfl rfl hl.1 rfl (lv_room (Nat.le_of_ble_eq_true rfl)) dL_law_328 ⟨by show cells + 2 + 0 ≤ 606307; omega, by show slots + 9 + 0 ≤ 7176832; omega⟩) hS (fun q _ h => lwAm hA hS q h) (fun q h => lwAm hA hS q h) (fun H3 locs3 hPm hle hfr hS => ?_)
  have hW := hW.model hPm hfr
  refine lv_topi (fun b7 eb7 => ?_)
  refine lv_istore (lv' := [(7, .int b7), (6, .int k6), (0, .ref b), (1, .ref (ad 429)), (2, .ref (am 0)), (3, .ref qo), (4, .ref qd), (5, .int (nI (7 * i)))]) hx hb dL_law_331 hl (by decide) rfl (fun ls hl => ?_)
  refine lv_aload_n hx hb dL_law_333 rfl (lv_at hl 4 rfl) ?_
  refine sp_call (W.runV (As := []) (rest := []) ⟨hx, hb, hml, hown, hts⟩ (c_X10_thrown l D am cy _) (cwV 0 hts gL_law_X10_thrown rfl rfl rfl (by decide +kernel) ⟨Nat.le_of_ble_eq_true rfl, Nat.le_of_ble_eq_true rfl⟩) (sp_preV hKg hW.2.2.1 (κ := 0) (by decide) mE_0 rfl) rfl rfl hl.1 rfl (lv_room (Nat.le_of_ble_eq_true rfl)) dL_law_334 ⟨by show cells + 2 + 0 + 0 ≤ 606307; omega, by show slots + 9 + 0 + 0 ≤ 7176832; omega⟩) ?_
  refine lv_iload hx hb dL_law_337 (lv_at hl 1 rfl) ?_
  have hp2 := CHG.p2 (ch_addTrack hR hbr hch hc8 (by omega) (xs (nI (7 * i + 1)).toNatClampNeg)) hB6
  refine lv_icmp_eq (tgt := 344) hx hb dL_law_339 (by decide) (fun c_1 => ?_) (fun c_1 => absurd (hp2.1.trans ek6.symm) c_1)
  refine lv_iload hx hb dL_law_344 (lv_at hl 1 rfl) ?_
  obtain ⟨f2, rfl, hf2⟩ := outL hO
  have fin : W p l e room_1 s m args below meth c H3 locs3 (cells + 2 + 0) (slots + 9 + 0) Q (F0 m 361 ls []) := by
    refine lv_goto (tgt := 3617) hx hb dL_law_361 (by decide) ?_
    refine W.widen (k := cells + 60) (n := slots + 240) (by omega) (by omega) ?_
    exact ih _ _ _ _ _ _ _ _ _ _ hW (hp2.rr hO) hS (lv_sub hl [2, 3, 4, 5, 6, 7] rfl)
  refine lv_if_ne (tgt := 361) hx hb dL_law_346 (by decide) (fun c_2 => fin) (fun c_2 => ?_)
  have hn := kC_0 (by decide) (ek6.symm.trans c_2)
  have hok := (hp2.2.1 hn).1
  have hv := hf2 hn
  have hPq : va_P D vwCl [(qo, eL cl f2)] H3 := wCons hW.2.2.2.1 (fun k x hx9 => by (cases hx9))
  refine lv_aload_n hx hb dL_law_349 rfl (lv_at hl 5 rfl) ?_
  refine lv_iconst (v := 0) hx hb dL_law_350 (by decide) ?_
  refine va_lald hx hb hK hPq 0 6 rfl rfl (i := 0) vp01 dL_law_351 ?_
  refine lv_iload hx hb dL_law_352 (lv_at hl 0 rfl) ?_
  refine lv_i2l (v := Int32.toInt64 b7) hx hb dL_law_354 rfl ?_
  refine W.lcmp hx hb dL_law_355 ?_
  refine lv_if_eq (tgt := 361) hx hb dL_law_356 (by decide) (fun _ => fin) (fun c_4 => absurd (lg_same (hv.trans (congrArg Int32.toInt64 (hok.trans eb7.symm)))) c_4)
set_option maxHeartbeats 4000000 in
set_option maxRecDepth 100000 in
theorem lc_1 (E0 : LE p l s m c args b L xs D cy cl cd xq) (hi : 7 * i + 7 ≤ L) (hL : L ≤ 3584) (hcl : cells + 60 ≤ 606307) (hsl : slots + 240 ≤ 7176832) (hW : LW s.heap.size D cy ad am qo qd pm rj rc σ μ (eL cl f) (eD cd g) H) (hR : RR B σ pm rc μ) (hB : B ≤ 20 * i + 1) (hS : va_S (fun q => s.heap.size ≤ q) s.heap H locs) (hl : lv_has ls 9 [(0, .ref b), (1, .ref (ad 429)), (2, .ref (am 0)), (3, .ref qo), (4, .ref qd), (5, .int (nI (7 * i)))]) (ih : LIH p l e s m args below meth c D cy cl cd ad am qo qd b i B cells slots Q) : W p l e room_1 s m args below meth c H locs cells slots Q (F0 m 364 ls []) := by
  obtain ⟨hx, hb, hml, hown, hts, hX, hbl, hst, hK, hE0, hNC⟩ := E0
  have hbA : ¬ (fun q : Nat => s.heap.size ≤ q) b := Nat.not_le.mpr hbl
  obtain ⟨n, t, pi, ro, hbr⟩ := hR.1
  obtain ⟨⟨ch, hc8, hch, -⟩, hpm, -⟩ := hR.2.1
  have hRJ := hR.2.2.2.1
  have hB6 : B + 20 < 1000000 := by omega
  have hA := hW.1
  have hKg := hK.sub (tys' := tyG cy) [0, 1, 2, 3, 4, 5] rfl
  refine lv_aload_n hx hb dL_law_364 rfl (lv_at hl 1 rfl) ?_
  refine lv_aload_n hx hb dL_law_365 rfl (lv_at hl 0 rfl) ?_
  refine lv_iload hx hb dL_law_366 (lv_at hl 5 rfl) ?_
  refine lv_iconst (v := 1) hx hb dL_law_368 (by decide) ?_
  refine lv_iadd hx hb dL_law_369 ?_
  refine W.eq (g2 := F0 m 370 ls [.int (nI (7 * i + 1)), .ref b, .ref (ad 429)]) (congrArg (fun z9 => F0 m 370 ls [.int z9, .ref b, .ref (ad 429)]) (show nI (7 * i) + 1 = nI (7 * i + 1) from nI_addE rfl (by decide +kernel))) ?_
  refine va_sld hx hb hX hbl hbA hS (i := nI (7 * i + 1)) (vp_in_nI (by omega) (by omega)) dL_law_370 ?_
  refine lv_aload_n hx hb dL_law_371 rfl (lv_at hl 3 rfl) ?_
  refine LW.call hW (vx_runSW (As := [.ref (ad 429), .int (xs (nI (7 * i + 1)).toNatClampNeg), .ref qo]) (rest := []) ⟨hx, hb, hml, hown, hts⟩ (c_L_removeTrack l D ad cy pm rj σ xq hst _ hA.1 (xs (nI (7 * i + 1)).toNatClampNeg) hpm cl cd qo f g) (vx_cwSW 3 hts gL_law_L_removeTrack rfl rfl rfl (by decide +kernel) ⟨Nat.le_of_ble_eq_true rfl, Nat.le_of_ble_eq_true rfl⟩) (lwPre hW.2.1 hW.2.2.2.1 hK (lwEX hE0 hA hS) hNC (fun k hk => (hA.2.2.2.1 k hk).1) trivial) rfl rfl hl.1 rfl (lv_room (Nat.le_of_ble_eq_true rfl)) dL_law_372 ⟨by show cells + 1 ≤ 606307; omega, by show slots + 6 ≤ 7176832; omega⟩) hS (fun H2 locs2 pm2 rj2 rc2 σ2 e2 hW hO hS => ?_)
  refine lv_topi (fun k6 ek6 => ?_)
  refine lv_istore (lv' := [(6, .int k6), (0, .ref b), (1, .ref (ad 429)), (2, .ref (am 0)), (3, .ref qo), (4, .ref qd), (5, .int (nI (7 * i)))]) hx hb dL_law_375 hl (by decide) rfl (fun ls hl => ?_)
  refine lv_aload_n hx hb dL_law_377 rfl (lv_at hl 3 rfl) ?_
  refine lv_aload_n hx hb dL_law_378 rfl (lv_at hl 1 rfl) ?_
  refine lv_iload hx hb dL_law_379 (lv_at hl 6 rfl) ?_
  refine lv_iconst (v := 1) hx hb dL_law_381 (by decide) ?_
  refine lv_iadd hx hb dL_law_382 ?_
  refine W.eq (g2 := F0 m 383 ls [.int (nI (7 * i + 1)), .ref b, .ref (am 0)]) (congrArg (fun z9 => F0 m 383 ls [.int z9, .ref b, .ref (am 0)]) (show nI (7 * i) + 1 = nI (7 * i + 1) from nI_addE rfl (by decide +kernel))) ?_
  refine va_sld hx hb hX hbl hbA hS (i := nI (7 * i + 1)) (vp_in_nI (by omega) (by omega)) dL_law_383 ?_
  refine sp_callm (va_runV (As := [.int (xs (nI (7 * i + 1)).toNatClampNeg)]) (rest := []) ⟨hx, hb, hml, hown, hts⟩ (c_X10_removeTrack l D am cy μ _ hA.2.1 n t hbr.1 ch hch hc8 (xs (nI (7 * i + 1)).toNatClampNeg)) (cwV 1 hts gL_law_X10_removeTrack rfl rfl rfl (by decide +kernel) ⟨Nat.le_of_ble_eq_true rfl, Nat.le_of_ble_eq_true rfl⟩) (sp_preVm hKg hW.2.2.1 (κ := 0) (by decide) mE_0 rfl) rfl rfl hl.1 rfl (lv_room (Nat.le_of_ble_eq_true rfl)) dL_law_384 ⟨by show cells + 1 + 0 ≤ 606307; omega, by show slots + 6 + 0 ≤ 7176832; omega⟩) hS (fun q _ h => lwAm hA hS q h) (fun q h => lwAm hA hS q h) (fun H3 locs3 hPm hle hfr hS => ?_)
  have hW := hW.model hPm hfr
  refine lv_topi (fun b7 eb7 => ?_)
  refine lv_istore (lv' := [(7, .int b7), (6, .int k6), (0, .ref b), (1, .ref (ad 429)), (2, .ref (am 0)), (3, .ref qo), (4, .ref qd), (5, .int (nI (7 * i)))]) hx hb dL_law_387 hl (by decide) rfl (fun ls hl => ?_)
  refine lv_aload_n hx hb dL_law_389 rfl (lv_at hl 4 rfl) ?_
  refine sp_call (W.runV (As := []) (rest := []) ⟨hx, hb, hml, hown, hts⟩ (c_X10_thrown l D am cy _) (cwV 0 hts gL_law_X10_thrown rfl rfl rfl (by decide +kernel) ⟨Nat.le_of_ble_eq_true rfl, Nat.le_of_ble_eq_true rfl⟩) (sp_preV hKg hW.2.2.1 (κ := 0) (by decide) mE_0 rfl) rfl rfl hl.1 rfl (lv_room (Nat.le_of_ble_eq_true rfl)) dL_law_390 ⟨by show cells + 1 + 0 + 0 ≤ 606307; omega, by show slots + 6 + 0 + 0 ≤ 7176832; omega⟩) ?_
  refine lv_iload hx hb dL_law_393 (lv_at hl 1 rfl) ?_
  have hp2 := CHG.p2 (ch_removeTrack hR hbr hch hc8 (by omega) (xs (nI (7 * i + 1)).toNatClampNeg)) hB6
  refine lv_icmp_eq (tgt := 400) hx hb dL_law_395 (by decide) (fun c_1 => ?_) (fun c_1 => absurd (hp2.1.trans ek6.symm) c_1)
  refine lv_iload hx hb dL_law_400 (lv_at hl 1 rfl) ?_
  obtain ⟨f2, rfl, hf2⟩ := outL hO
  have fin : W p l e room_1 s m args below meth c H3 locs3 (cells + 1 + 0) (slots + 6 + 0) Q (F0 m 417 ls []) := by
    refine lv_goto (tgt := 3617) hx hb dL_law_417 (by decide) ?_
    refine W.widen (k := cells + 60) (n := slots + 240) (by omega) (by omega) ?_
    exact ih _ _ _ _ _ _ _ _ _ _ hW (hp2.rr hO) hS (lv_sub hl [2, 3, 4, 5, 6, 7] rfl)
  refine lv_if_ne (tgt := 417) hx hb dL_law_402 (by decide) (fun c_2 => fin) (fun c_2 => ?_)
  have hn := kC_0 (by decide) (ek6.symm.trans c_2)
  have hok := (hp2.2.1 hn).1
  have hv := hf2 hn
  have hPq : va_P D vwCl [(qo, eL cl f2)] H3 := wCons hW.2.2.2.1 (fun k x hx9 => by (cases hx9))
  refine lv_aload_n hx hb dL_law_405 rfl (lv_at hl 5 rfl) ?_
  refine lv_iconst (v := 0) hx hb dL_law_406 (by decide) ?_
  refine va_lald hx hb hK hPq 0 6 rfl rfl (i := 0) vp01 dL_law_407 ?_
  refine lv_iload hx hb dL_law_408 (lv_at hl 0 rfl) ?_
  refine lv_i2l (v := Int32.toInt64 b7) hx hb dL_law_410 rfl ?_
  refine W.lcmp hx hb dL_law_411 ?_
  refine lv_if_eq (tgt := 417) hx hb dL_law_412 (by decide) (fun _ => fin) (fun c_4 => absurd (lg_same (hv.trans (congrArg Int32.toInt64 (hok.trans eb7.symm)))) c_4)
set_option maxHeartbeats 4000000 in
set_option maxRecDepth 100000 in
theorem lc_2 (E0 : LE p l s m c args b L xs D cy cl cd xq) (hi : 7 * i + 7 ≤ L) (hL : L ≤ 3584) (hcl : cells + 60 ≤ 606307) (hsl : slots + 240 ≤ 7176832) (hW : LW s.heap.size D cy ad am qo qd pm rj rc σ μ (eL cl f) (eD cd g) H) (hR : RR B σ pm rc μ) (hB : B ≤ 20 * i + 1) (hS : va_S (fun q => s.heap.size ≤ q) s.heap H locs) (hl : lv_has ls 9 [(0, .ref b), (1, .ref (ad 429)), (2, .ref (am 0)), (3, .ref qo), (4, .ref qd), (5, .int (nI (7 * i)))]) (ih : LIH p l e s m args below meth c D cy cl cd ad am qo qd b i B cells slots Q) : W p l e room_1 s m args below meth c H locs cells slots Q (F0 m 420 ls []) := by
  obtain ⟨hx, hb, hml, hown, hts, hX, hbl, hst, hK, hE0, hNC⟩ := E0
  have hbA : ¬ (fun q : Nat => s.heap.size ≤ q) b := Nat.not_le.mpr hbl
  obtain ⟨n, t, pi, ro, hbr⟩ := hR.1
  obtain ⟨⟨ch, hc8, hch, -⟩, hpm, -⟩ := hR.2.1
  have hRJ := hR.2.2.2.1
  have hB6 : B + 20 < 1000000 := by omega
  have hA := hW.1
  have hKg := hK.sub (tys' := tyG cy) [0, 1, 2, 3, 4, 5] rfl
  refine lv_aload_n hx hb dL_law_420 rfl (lv_at hl 1 rfl) ?_
  refine lv_aload_n hx hb dL_law_421 rfl (lv_at hl 0 rfl) ?_
  refine lv_iload hx hb dL_law_422 (lv_at hl 5 rfl) ?_
  refine lv_iconst (v := 1) hx hb dL_law_424 (by decide) ?_
  refine lv_iadd hx hb dL_law_425 ?_
  refine W.eq (g2 := F0 m 426 ls [.int (nI (7 * i + 1)), .ref b, .ref (ad 429)]) (congrArg (fun z9 => F0 m 426 ls [.int z9, .ref b, .ref (ad 429)]) (show nI (7 * i) + 1 = nI (7 * i + 1) from nI_addE rfl (by decide +kernel))) ?_
  refine va_sld hx hb hX hbl hbA hS (i := nI (7 * i + 1)) (vp_in_nI (by omega) (by omega)) dL_law_426 ?_
  refine lv_aload_n hx hb dL_law_427 rfl (lv_at hl 0 rfl) ?_
  refine lv_iload hx hb dL_law_428 (lv_at hl 5 rfl) ?_
  refine lv_iconst (v := 2) hx hb dL_law_430 (by decide) ?_
  refine lv_iadd hx hb dL_law_431 ?_
  refine W.eq (g2 := F0 m 432 ls [.int (nI (7 * i + 2)), .ref b, .int (xs (nI (7 * i + 1)).toNatClampNeg), .ref (ad 429)]) (congrArg (fun z9 => F0 m 432 ls [.int z9, .ref b, .int (xs (nI (7 * i + 1)).toNatClampNeg), .ref (ad 429)]) (show nI (7 * i) + 2 = nI (7 * i + 2) from nI_addE rfl (by decide +kernel))) ?_
  refine va_sld hx hb hX hbl hbA hS (i := nI (7 * i + 2)) (vp_in_nI (by omega) (by omega)) dL_law_432 ?_
  refine lv_aload_n hx hb dL_law_433 rfl (lv_at hl 0 rfl) ?_
  refine lv_iload hx hb dL_law_434 (lv_at hl 5 rfl) ?_
  refine lv_iconst (v := 3) hx hb dL_law_436 (by decide) ?_
  refine lv_iadd hx hb dL_law_437 ?_
  refine W.eq (g2 := F0 m 438 ls [.int (nI (7 * i + 3)), .ref b, .int (xs (nI (7 * i + 2)).toNatClampNeg), .int (xs (nI (7 * i + 1)).toNatClampNeg), .ref (ad 429)]) (congrArg (fun z9 => F0 m 438 ls [.int z9, .ref b, .int (xs (nI (7 * i + 2)).toNatClampNeg), .int (xs (nI (7 * i + 1)).toNatClampNeg), .ref (ad 429)]) (show nI (7 * i) + 3 = nI (7 * i + 3) from nI_addE rfl (by decide +kernel))) ?_
  refine va_sld hx hb hX hbl hbA hS (i := nI (7 * i + 3)) (vp_in_nI (by omega) (by omega)) dL_law_438 ?_
  refine lv_aload_n hx hb dL_law_439 rfl (lv_at hl 0 rfl) ?_
  refine lv_iload hx hb dL_law_440 (lv_at hl 5 rfl) ?_
  refine lv_iconst (v := 4) hx hb dL_law_442 (by decide) ?_
  refine lv_iadd hx hb dL_law_443 ?_
  refine W.eq (g2 := F0 m 444 ls [.int (nI (7 * i + 4)), .ref b, .int (xs (nI (7 * i + 3)).toNatClampNeg), .int (xs (nI (7 * i + 2)).toNatClampNeg), .int (xs (nI (7 * i + 1)).toNatClampNeg), .ref (ad 429)]) (congrArg (fun z9 => F0 m 444 ls [.int z9, .ref b, .int (xs (nI (7 * i + 3)).toNatClampNeg), .int (xs (nI (7 * i + 2)).toNatClampNeg), .int (xs (nI (7 * i + 1)).toNatClampNeg), .ref (ad 429)]) (show nI (7 * i) + 4 = nI (7 * i + 4) from nI_addE rfl (by decide +kernel))) ?_
  refine va_sld hx hb hX hbl hbA hS (i := nI (7 * i + 4)) (vp_in_nI (by omega) (by omega)) dL_law_444 ?_
  refine lv_aload_n hx hb dL_law_445 rfl (lv_at hl 0 rfl) ?_
  refine lv_iload hx hb dL_law_446 (lv_at hl 5 rfl) ?_
  refine lv_iconst (v := 5) hx hb dL_law_448 (by decide) ?_
  refine lv_iadd hx hb dL_law_449 ?_
  refine W.eq (g2 := F0 m 450 ls [.int (nI (7 * i + 5)), .ref b, .int (xs (nI (7 * i + 4)).toNatClampNeg), .int (xs (nI (7 * i + 3)).toNatClampNeg), .int (xs (nI (7 * i + 2)).toNatClampNeg), .int (xs (nI (7 * i + 1)).toNatClampNeg), .ref (ad 429)]) (congrArg (fun z9 => F0 m 450 ls [.int z9, .ref b, .int (xs (nI (7 * i + 4)).toNatClampNeg), .int (xs (nI (7 * i + 3)).toNatClampNeg), .int (xs (nI (7 * i + 2)).toNatClampNeg), .int (xs (nI (7 * i + 1)).toNatClampNeg), .ref (ad 429)]) (show nI (7 * i) + 5 = nI (7 * i + 5) from nI_addE rfl (by decide +kernel))) ?_
  refine va_sld hx hb hX hbl hbA hS (i := nI (7 * i + 5)) (vp_in_nI (by omega) (by omega)) dL_law_450 ?_
  suffices key : W p l e room_1 s m args below meth c H locs (cells) (slots) Q (F0 m 459 ls [.int (b2i ((xs (nI (7 * i + 5)).toNatClampNeg) != 0)), .int (xs (nI (7 * i + 4)).toNatClampNeg), .int (xs (nI (7 * i + 3)).toNatClampNeg), .int (xs (nI (7 * i + 2)).toNatClampNeg), .int (xs (nI (7 * i + 1)).toNatClampNeg), .ref (ad 429)]) by
    refine lv_if_eq (tgt := 458) hx hb dL_law_451 (by decide) (fun c_1 => ?_) (fun c_1 => ?_)
    · refine lv_iconst (v := 0) hx hb dL_law_458 (by decide) ?_
      exact W.eq (g2 := F0 m 459 ls [.int (b2i ((xs (nI (7 * i + 5)).toNatClampNeg) != 0)), .int (xs (nI (7 * i + 4)).toNatClampNeg), .int (xs (nI (7 * i + 3)).toNatClampNeg), .int (xs (nI (7 * i + 2)).toNatClampNeg), .int (xs (nI (7 * i + 1)).toNatClampNeg), .ref (ad 429)]) (by rw [c_1]; rfl) key
    · refine lv_iconst (v := 1) hx hb dL_law_454 (by decide) ?_
      refine lv_goto (tgt := 459) hx hb dL_law_455 (by decide) ?_
      exact W.eq (g2 := F0 m 459 ls [.int (b2i ((xs (nI (7 * i + 5)).toNatClampNeg) != 0)), .int (xs (nI (7 * i + 4)).toNatClampNeg), .int (xs (nI (7 * i + 3)).toNatClampNeg), .int (xs (nI (7 * i + 2)).toNatClampNeg), .int (xs (nI (7 * i + 1)).toNatClampNeg), .ref (ad 429)]) (by rw [show ((xs (nI (7 * i + 5)).toNatClampNeg) != 0) = true from bne_iff_ne.mpr c_1]; rfl) key
  refine lv_aload_n hx hb dL_law_459 rfl (lv_at hl 0 rfl) ?_
  refine lv_iload hx hb dL_law_460 (lv_at hl 5 rfl) ?_
  refine lv_bipush (v := 6) hx hb dL_law_462 (by decide) ?_
  refine lv_iadd hx hb dL_law_464 ?_
  refine W.eq (g2 := F0 m 465 ls [.int (nI (7 * i + 6)), .ref b, .int (b2i ((xs (nI (7 * i + 5)).toNatClampNeg) != 0)), .int (xs (nI (7 * i + 4)).toNatClampNeg), .int (xs (nI (7 * i + 3)).toNatClampNeg), .int (xs (nI (7 * i + 2)).toNatClampNeg), .int (xs (nI (7 * i + 1)).toNatClampNeg), .ref (ad 429)]) (congrArg (fun z9 => F0 m 465 ls [.int z9, .ref b, .int (b2i ((xs (nI (7 * i + 5)).toNatClampNeg) != 0)), .int (xs (nI (7 * i + 4)).toNatClampNeg), .int (xs (nI (7 * i + 3)).toNatClampNeg), .int (xs (nI (7 * i + 2)).toNatClampNeg), .int (xs (nI (7 * i + 1)).toNatClampNeg), .ref (ad 429)]) (show nI (7 * i) + 6 = nI (7 * i + 6) from nI_addE rfl (by decide +kernel))) ?_
  refine va_sld hx hb hX hbl hbA hS (i := nI (7 * i + 6)) (vp_in_nI (by omega) (by omega)) dL_law_465 ?_
  refine lv_aload_n hx hb dL_law_466 rfl (lv_at hl 3 rfl) ?_
  refine LW.call hW (vx_runSW (As := [.ref (ad 429), .int (xs (nI (7 * i + 1)).toNatClampNeg), .int (xs (nI (7 * i + 2)).toNatClampNeg), .int (xs (nI (7 * i + 3)).toNatClampNeg), .int (xs (nI (7 * i + 4)).toNatClampNeg), .int (b2i ((xs (nI (7 * i + 5)).toNatClampNeg) != 0)), .int (xs (nI (7 * i + 6)).toNatClampNeg), .ref qo]) (rest := []) ⟨hx, hb, hml, hown, hts⟩ (c_L_addPrint l D ad cy pm rj σ xq hst _ hA.1 (xs (nI (7 * i + 1)).toNatClampNeg) (xs (nI (7 * i + 2)).toNatClampNeg) (xs (nI (7 * i + 3)).toNatClampNeg) (xs (nI (7 * i + 4)).toNatClampNeg) ((xs (nI (7 * i + 5)).toNatClampNeg) != 0) (xs (nI (7 * i + 6)).toNatClampNeg) hpm cl cd qo f g) (vx_cwSW 8 hts gL_law_L_addPrint rfl rfl rfl (by decide +kernel) ⟨Nat.le_of_ble_eq_true rfl, Nat.le_of_ble_eq_true rfl⟩) (lwPre hW.2.1 hW.2.2.2.1 hK (lwEX hE0 hA hS) hNC (fun k hk => (hA.2.2.2.1 k hk).1) trivial) rfl rfl hl.1 rfl (lv_room (Nat.le_of_ble_eq_true rfl)) dL_law_467 ⟨by show cells + 4 ≤ 606307; omega, by show slots + 21 ≤ 7176832; omega⟩) hS (fun H2 locs2 pm2 rj2 rc2 σ2 e2 hW hO hS => ?_)
  refine lv_topi (fun k6 ek6 => ?_)
  refine lv_istore (lv' := [(6, .int k6), (0, .ref b), (1, .ref (ad 429)), (2, .ref (am 0)), (3, .ref qo), (4, .ref qd), (5, .int (nI (7 * i)))]) hx hb dL_law_470 hl (by decide) rfl (fun ls hl => ?_)
  refine lv_aload_n hx hb dL_law_472 rfl (lv_at hl 3 rfl) ?_
  refine lv_aload_n hx hb dL_law_473 rfl (lv_at hl 1 rfl) ?_
  refine lv_iload hx hb dL_law_474 (lv_at hl 6 rfl) ?_
  refine lv_iconst (v := 1) hx hb dL_law_476 (by decide) ?_
  refine lv_iadd hx hb dL_law_477 ?_
  refine W.eq (g2 := F0 m 478 ls [.int (nI (7 * i + 1)), .ref b, .ref (am 0)]) (congrArg (fun z9 => F0 m 478 ls [.int z9, .ref b, .ref (am 0)]) (show nI (7 * i) + 1 = nI (7 * i + 1) from nI_addE rfl (by decide +kernel))) ?_
  refine va_sld hx hb hX hbl hbA hS (i := nI (7 * i + 1)) (vp_in_nI (by omega) (by omega)) dL_law_478 ?_
  refine lv_aload_n hx hb dL_law_479 rfl (lv_at hl 1 rfl) ?_
  refine lv_iload hx hb dL_law_480 (lv_at hl 6 rfl) ?_
  refine lv_iconst (v := 2) hx hb dL_law_482 (by decide) ?_
  refine lv_iadd hx hb dL_law_483 ?_
  refine W.eq (g2 := F0 m 484 ls [.int (nI (7 * i + 2)), .ref b, .int (xs (nI (7 * i + 1)).toNatClampNeg), .ref (am 0)]) (congrArg (fun z9 => F0 m 484 ls [.int z9, .ref b, .int (xs (nI (7 * i + 1)).toNatClampNeg), .ref (am 0)]) (show nI (7 * i) + 2 = nI (7 * i + 2) from nI_addE rfl (by decide +kernel))) ?_
  refine va_sld hx hb hX hbl hbA hS (i := nI (7 * i + 2)) (vp_in_nI (by omega) (by omega)) dL_law_484 ?_
  refine lv_aload_n hx hb dL_law_485 rfl (lv_at hl 1 rfl) ?_
  refine lv_iload hx hb dL_law_486 (lv_at hl 6 rfl) ?_
  refine lv_iconst (v := 3) hx hb dL_law_488 (by decide) ?_
  refine lv_iadd hx hb dL_law_489 ?_
  refine W.eq (g2 := F0 m 490 ls [.int (nI (7 * i + 3)), .ref b, .int (xs (nI (7 * i + 2)).toNatClampNeg), .int (xs (nI (7 * i + 1)).toNatClampNeg), .ref (am 0)]) (congrArg (fun z9 => F0 m 490 ls [.int z9, .ref b, .int (xs (nI (7 * i + 2)).toNatClampNeg), .int (xs (nI (7 * i + 1)).toNatClampNeg), .ref (am 0)]) (show nI (7 * i) + 3 = nI (7 * i + 3) from nI_addE rfl (by decide +kernel))) ?_
  refine va_sld hx hb hX hbl hbA hS (i := nI (7 * i + 3)) (vp_in_nI (by omega) (by omega)) dL_law_490 ?_
  refine lv_aload_n hx hb dL_law_491 rfl (lv_at hl 1 rfl) ?_
  refine lv_iload hx hb dL_law_492 (lv_at hl 6 rfl) ?_
  refine lv_iconst (v := 4) hx hb dL_law_494 (by decide) ?_
  refine lv_iadd hx hb dL_law_495 ?_
  refine W.eq (g2 := F0 m 496 ls [.int (nI (7 * i + 4)), .ref b, .int (xs (nI (7 * i + 3)).toNatClampNeg), .int (xs (nI (7 * i + 2)).toNatClampNeg), .int (xs (nI (7 * i + 1)).toNatClampNeg), .ref (am 0)]) (congrArg (fun z9 => F0 m 496 ls [.int z9, .ref b, .int (xs (nI (7 * i + 3)).toNatClampNeg), .int (xs (nI (7 * i + 2)).toNatClampNeg), .int (xs (nI (7 * i + 1)).toNatClampNeg), .ref (am 0)]) (show nI (7 * i) + 4 = nI (7 * i + 4) from nI_addE rfl (by decide +kernel))) ?_
  refine va_sld hx hb hX hbl hbA hS (i := nI (7 * i + 4)) (vp_in_nI (by omega) (by omega)) dL_law_496 ?_
  refine lv_aload_n hx hb dL_law_497 rfl (lv_at hl 1 rfl) ?_
  refine lv_iload hx hb dL_law_498 (lv_at hl 6 rfl) ?_
  refine lv_iconst (v := 5) hx hb dL_law_500 (by decide) ?_
  refine lv_iadd hx hb dL_law_501 ?_
  refine W.eq (g2 := F0 m 502 ls [.int (nI (7 * i + 5)), .ref b, .int (xs (nI (7 * i + 4)).toNatClampNeg), .int (xs (nI (7 * i + 3)).toNatClampNeg), .int (xs (nI (7 * i + 2)).toNatClampNeg), .int (xs (nI (7 * i + 1)).toNatClampNeg), .ref (am 0)]) (congrArg (fun z9 => F0 m 502 ls [.int z9, .ref b, .int (xs (nI (7 * i + 4)).toNatClampNeg), .int (xs (nI (7 * i + 3)).toNatClampNeg), .int (xs (nI (7 * i + 2)).toNatClampNeg), .int (xs (nI (7 * i + 1)).toNatClampNeg), .ref (am 0)]) (show nI (7 * i) + 5 = nI (7 * i + 5) from nI_addE rfl (by decide +kernel))) ?_
  refine va_sld hx hb hX hbl hbA hS (i := nI (7 * i + 5)) (vp_in_nI (by omega) (by omega)) dL_law_502 ?_
  suffices key : W p l e room_1 s m args below meth c H2 locs2 (cells + 4) (slots + 21) Q (F0 m 511 ls [.int (b2i ((xs (nI (7 * i + 5)).toNatClampNeg) != 0)), .int (xs (nI (7 * i + 4)).toNatClampNeg), .int (xs (nI (7 * i + 3)).toNatClampNeg), .int (xs (nI (7 * i + 2)).toNatClampNeg), .int (xs (nI (7 * i + 1)).toNatClampNeg), .ref (am 0)]) by
    refine lv_if_eq (tgt := 510) hx hb dL_law_503 (by decide) (fun c_1 => ?_) (fun c_1 => ?_)
    · refine lv_iconst (v := 0) hx hb dL_law_510 (by decide) ?_
      exact W.eq (g2 := F0 m 511 ls [.int (b2i ((xs (nI (7 * i + 5)).toNatClampNeg) != 0)), .int (xs (nI (7 * i + 4)).toNatClampNeg), .int (xs (nI (7 * i + 3)).toNatClampNeg), .int (xs (nI (7 * i + 2)).toNatClampNeg), .int (xs (nI (7 * i + 1)).toNatClampNeg), .ref (am 0)]) (by rw [c_1]; rfl) key
    · refine lv_iconst (v := 1) hx hb dL_law_506 (by decide) ?_
      refine lv_goto (tgt := 511) hx hb dL_law_507 (by decide) ?_
      exact W.eq (g2 := F0 m 511 ls [.int (b2i ((xs (nI (7 * i + 5)).toNatClampNeg) != 0)), .int (xs (nI (7 * i + 4)).toNatClampNeg), .int (xs (nI (7 * i + 3)).toNatClampNeg), .int (xs (nI (7 * i + 2)).toNatClampNeg), .int (xs (nI (7 * i + 1)).toNatClampNeg), .ref (am 0)]) (by rw [show ((xs (nI (7 * i + 5)).toNatClampNeg) != 0) = true from bne_iff_ne.mpr c_1]; rfl) key
  refine lv_aload_n hx hb dL_law_511 rfl (lv_at hl 1 rfl) ?_
  refine lv_iload hx hb dL_law_512 (lv_at hl 6 rfl) ?_
  refine lv_bipush (v := 6) hx hb dL_law_514 (by decide) ?_
  refine lv_iadd hx hb dL_law_516 ?_
  refine W.eq (g2 := F0 m 517 ls [.int (nI (7 * i + 6)), .ref b, .int (b2i ((xs (nI (7 * i + 5)).toNatClampNeg) != 0)), .int (xs (nI (7 * i + 4)).toNatClampNeg), .int (xs (nI (7 * i + 3)).toNatClampNeg), .int (xs (nI (7 * i + 2)).toNatClampNeg), .int (xs (nI (7 * i + 1)).toNatClampNeg), .ref (am 0)]) (congrArg (fun z9 => F0 m 517 ls [.int z9, .ref b, .int (b2i ((xs (nI (7 * i + 5)).toNatClampNeg) != 0)), .int (xs (nI (7 * i + 4)).toNatClampNeg), .int (xs (nI (7 * i + 3)).toNatClampNeg), .int (xs (nI (7 * i + 2)).toNatClampNeg), .int (xs (nI (7 * i + 1)).toNatClampNeg), .ref (am 0)]) (show nI (7 * i) + 6 = nI (7 * i + 6) from nI_addE rfl (by decide +kernel))) ?_
  refine va_sld hx hb hX hbl hbA hS (i := nI (7 * i + 6)) (vp_in_nI (by omega) (by omega)) dL_law_517 ?_
  refine sp_callm (va_runV (As := [.int (xs (nI (7 * i + 1)).toNatClampNeg), .int (xs (nI (7 * i + 2)).toNatClampNeg), .int (xs (nI (7 * i + 3)).toNatClampNeg), .int (xs (nI (7 * i + 4)).toNatClampNeg), .int (b2i ((xs (nI (7 * i + 5)).toNatClampNeg) != 0)), .int (xs (nI (7 * i + 6)).toNatClampNeg)]) (rest := []) ⟨hx, hb, hml, hown, hts⟩ (c_X10_addPrint l D am cy μ _ hA.2.1 n t hbr.1 ch hch hc8 (xs (nI (7 * i + 1)).toNatClampNeg) (xs (nI (7 * i + 2)).toNatClampNeg) (xs (nI (7 * i + 3)).toNatClampNeg) (xs (nI (7 * i + 4)).toNatClampNeg) ((xs (nI (7 * i + 5)).toNatClampNeg) != 0) (xs (nI (7 * i + 6)).toNatClampNeg)) (cwV 6 hts gL_law_X10_addPrint rfl rfl rfl (by decide +kernel) ⟨Nat.le_of_ble_eq_true rfl, Nat.le_of_ble_eq_true rfl⟩) (sp_preVm hKg hW.2.2.1 (κ := 0) (by decide) mE_0 rfl) rfl rfl hl.1 rfl (lv_room (Nat.le_of_ble_eq_true rfl)) dL_law_518 ⟨by show cells + 4 + 0 ≤ 606307; omega, by show slots + 21 + 0 ≤ 7176832; omega⟩) hS (fun q _ h => lwAm hA hS q h) (fun q h => lwAm hA hS q h) (fun H3 locs3 hPm hle hfr hS => ?_)
  have hW := hW.model hPm hfr
  refine lv_topi (fun b7 eb7 => ?_)
  refine lv_istore (lv' := [(7, .int b7), (6, .int k6), (0, .ref b), (1, .ref (ad 429)), (2, .ref (am 0)), (3, .ref qo), (4, .ref qd), (5, .int (nI (7 * i)))]) hx hb dL_law_521 hl (by decide) rfl (fun ls hl => ?_)
  refine lv_aload_n hx hb dL_law_523 rfl (lv_at hl 4 rfl) ?_
  refine sp_call (W.runV (As := []) (rest := []) ⟨hx, hb, hml, hown, hts⟩ (c_X10_thrown l D am cy _) (cwV 0 hts gL_law_X10_thrown rfl rfl rfl (by decide +kernel) ⟨Nat.le_of_ble_eq_true rfl, Nat.le_of_ble_eq_true rfl⟩) (sp_preV hKg hW.2.2.1 (κ := 0) (by decide) mE_0 rfl) rfl rfl hl.1 rfl (lv_room (Nat.le_of_ble_eq_true rfl)) dL_law_524 ⟨by show cells + 4 + 0 + 0 ≤ 606307; omega, by show slots + 21 + 0 + 0 ≤ 7176832; omega⟩) ?_
  refine lv_iload hx hb dL_law_527 (lv_at hl 1 rfl) ?_
  have hp2 := CHG.p2 (ch_addPrint hR hbr hch hc8 (by omega) (xs (nI (7 * i + 1)).toNatClampNeg) (xs (nI (7 * i + 2)).toNatClampNeg) (xs (nI (7 * i + 3)).toNatClampNeg) (xs (nI (7 * i + 4)).toNatClampNeg) (xs (nI (7 * i + 6)).toNatClampNeg) ((xs (nI (7 * i + 5)).toNatClampNeg) != 0)) hB6
  refine lv_icmp_eq (tgt := 534) hx hb dL_law_529 (by decide) (fun c_1 => ?_) (fun c_1 => absurd (hp2.1.trans ek6.symm) c_1)
  refine lv_iload hx hb dL_law_534 (lv_at hl 1 rfl) ?_
  obtain ⟨f2, rfl, hf2⟩ := outL hO
  have fin : W p l e room_1 s m args below meth c H3 locs3 (cells + 4 + 0) (slots + 21 + 0) Q (F0 m 551 ls []) := by
    refine lv_goto (tgt := 3617) hx hb dL_law_551 (by decide) ?_
    refine W.widen (k := cells + 60) (n := slots + 240) (by omega) (by omega) ?_
    exact ih _ _ _ _ _ _ _ _ _ _ hW (hp2.rr hO) hS (lv_sub hl [2, 3, 4, 5, 6, 7] rfl)
  refine lv_if_ne (tgt := 551) hx hb dL_law_536 (by decide) (fun c_2 => fin) (fun c_2 => ?_)
  have hn := kC_0 (by decide) (ek6.symm.trans c_2)
  have hok := (hp2.2.1 hn).1
  have hv := hf2 hn
  have hPq : va_P D vwCl [(qo, eL cl f2)] H3 := wCons hW.2.2.2.1 (fun k x hx9 => by (cases hx9))
  refine lv_aload_n hx hb dL_law_539 rfl (lv_at hl 5 rfl) ?_
  refine lv_iconst (v := 0) hx hb dL_law_540 (by decide) ?_
  refine va_lald hx hb hK hPq 0 6 rfl rfl (i := 0) vp01 dL_law_541 ?_
  refine lv_iload hx hb dL_law_542 (lv_at hl 0 rfl) ?_
  refine lv_i2l (v := Int32.toInt64 b7) hx hb dL_law_544 rfl ?_
  refine W.lcmp hx hb dL_law_545 ?_
  refine lv_if_eq (tgt := 551) hx hb dL_law_546 (by decide) (fun _ => fin) (fun c_4 => absurd (lg_same (hv.trans (congrArg Int32.toInt64 (hok.trans eb7.symm)))) c_4)
set_option maxHeartbeats 4000000 in
set_option maxRecDepth 100000 in
theorem lc_3 (E0 : LE p l s m c args b L xs D cy cl cd xq) (hi : 7 * i + 7 ≤ L) (hL : L ≤ 3584) (hcl : cells + 60 ≤ 606307) (hsl : slots + 240 ≤ 7176832) (hW : LW s.heap.size D cy ad am qo qd pm rj rc σ μ (eL cl f) (eD cd g) H) (hR : RR B σ pm rc μ) (hB : B ≤ 20 * i + 1) (hS : va_S (fun q => s.heap.size ≤ q) s.heap H locs) (hl : lv_has ls 9 [(0, .ref b), (1, .ref (ad 429)), (2, .ref (am 0)), (3, .ref qo), (4, .ref qd), (5, .int (nI (7 * i)))]) (ih : LIH p l e s m args below meth c D cy cl cd ad am qo qd b i B cells slots Q) : W p l e room_1 s m args below meth c H locs cells slots Q (F0 m 554 ls []) := by
  obtain ⟨hx, hb, hml, hown, hts, hX, hbl, hst, hK, hE0, hNC⟩ := E0
  have hbA : ¬ (fun q : Nat => s.heap.size ≤ q) b := Nat.not_le.mpr hbl
  obtain ⟨n, t, pi, ro, hbr⟩ := hR.1
  obtain ⟨⟨ch, hc8, hch, -⟩, hpm, -⟩ := hR.2.1
  have hRJ := hR.2.2.2.1
  have hB6 : B + 20 < 1000000 := by omega
  have hA := hW.1
  have hKg := hK.sub (tys' := tyG cy) [0, 1, 2, 3, 4, 5] rfl
  refine lv_aload_n hx hb dL_law_554 rfl (lv_at hl 1 rfl) ?_
  refine lv_aload_n hx hb dL_law_555 rfl (lv_at hl 0 rfl) ?_
  refine lv_iload hx hb dL_law_556 (lv_at hl 5 rfl) ?_
  refine lv_iconst (v := 1) hx hb dL_law_558 (by decide) ?_
  refine lv_iadd hx hb dL_law_559 ?_
  refine W.eq (g2 := F0 m 560 ls [.int (nI (7 * i + 1)), .ref b, .ref (ad 429)]) (congrArg (fun z9 => F0 m 560 ls [.int z9, .ref b, .ref (ad 429)]) (show nI (7 * i) + 1 = nI (7 * i + 1) from nI_addE rfl (by decide +kernel))) ?_
  refine va_sld hx hb hX hbl hbA hS (i := nI (7 * i + 1)) (vp_in_nI (by omega) (by omega)) dL_law_560 ?_
  refine lv_aload_n hx hb dL_law_561 rfl (lv_at hl 3 rfl) ?_
  refine LW.call hW (vx_runSW (As := [.ref (ad 429), .int (xs (nI (7 * i + 1)).toNatClampNeg), .ref qo]) (rest := []) ⟨hx, hb, hml, hown, hts⟩ (c_L_removePrint l D ad cy pm rj σ xq hst _ hA.1 (xs (nI (7 * i + 1)).toNatClampNeg) hpm cl cd qo f g) (vx_cwSW 3 hts gL_law_L_removePrint rfl rfl rfl (by decide +kernel) ⟨Nat.le_of_ble_eq_true rfl, Nat.le_of_ble_eq_true rfl⟩) (lwPre hW.2.1 hW.2.2.2.1 hK (lwEX hE0 hA hS) hNC (fun k hk => (hA.2.2.2.1 k hk).1) trivial) rfl rfl hl.1 rfl (lv_room (Nat.le_of_ble_eq_true rfl)) dL_law_562 ⟨by show cells + 1 ≤ 606307; omega, by show slots + 6 ≤ 7176832; omega⟩) hS (fun H2 locs2 pm2 rj2 rc2 σ2 e2 hW hO hS => ?_)
  refine lv_topi (fun k6 ek6 => ?_)
  refine lv_istore (lv' := [(6, .int k6), (0, .ref b), (1, .ref (ad 429)), (2, .ref (am 0)), (3, .ref qo), (4, .ref qd), (5, .int (nI (7 * i)))]) hx hb dL_law_565 hl (by decide) rfl (fun ls hl => ?_)
  refine lv_aload_n hx hb dL_law_567 rfl (lv_at hl 3 rfl) ?_
  refine lv_aload_n hx hb dL_law_568 rfl (lv_at hl 1 rfl) ?_
  refine lv_iload hx hb dL_law_569 (lv_at hl 6 rfl) ?_
  refine lv_iconst (v := 1) hx hb dL_law_571 (by decide) ?_
  refine lv_iadd hx hb dL_law_572 ?_
  refine W.eq (g2 := F0 m 573 ls [.int (nI (7 * i + 1)), .ref b, .ref (am 0)]) (congrArg (fun z9 => F0 m 573 ls [.int z9, .ref b, .ref (am 0)]) (show nI (7 * i) + 1 = nI (7 * i + 1) from nI_addE rfl (by decide +kernel))) ?_
  refine va_sld hx hb hX hbl hbA hS (i := nI (7 * i + 1)) (vp_in_nI (by omega) (by omega)) dL_law_573 ?_
  refine sp_callm (va_runV (As := [.int (xs (nI (7 * i + 1)).toNatClampNeg)]) (rest := []) ⟨hx, hb, hml, hown, hts⟩ (c_X10_removePrint l D am cy μ _ hA.2.1 n t hbr.1 ch hch hc8 (xs (nI (7 * i + 1)).toNatClampNeg)) (cwV 1 hts gL_law_X10_removePrint rfl rfl rfl (by decide +kernel) ⟨Nat.le_of_ble_eq_true rfl, Nat.le_of_ble_eq_true rfl⟩) (sp_preVm hKg hW.2.2.1 (κ := 0) (by decide) mE_0 rfl) rfl rfl hl.1 rfl (lv_room (Nat.le_of_ble_eq_true rfl)) dL_law_574 ⟨by show cells + 1 + 0 ≤ 606307; omega, by show slots + 6 + 0 ≤ 7176832; omega⟩) hS (fun q _ h => lwAm hA hS q h) (fun q h => lwAm hA hS q h) (fun H3 locs3 hPm hle hfr hS => ?_)
  have hW := hW.model hPm hfr
  refine lv_topi (fun b7 eb7 => ?_)
  refine lv_istore (lv' := [(7, .int b7), (6, .int k6), (0, .ref b), (1, .ref (ad 429)), (2, .ref (am 0)), (3, .ref qo), (4, .ref qd), (5, .int (nI (7 * i)))]) hx hb dL_law_577 hl (by decide) rfl (fun ls hl => ?_)
  refine lv_aload_n hx hb dL_law_579 rfl (lv_at hl 4 rfl) ?_
  refine sp_call (W.runV (As := []) (rest := []) ⟨hx, hb, hml, hown, hts⟩ (c_X10_thrown l D am cy _) (cwV 0 hts gL_law_X10_thrown rfl rfl rfl (by decide +kernel) ⟨Nat.le_of_ble_eq_true rfl, Nat.le_of_ble_eq_true rfl⟩) (sp_preV hKg hW.2.2.1 (κ := 0) (by decide) mE_0 rfl) rfl rfl hl.1 rfl (lv_room (Nat.le_of_ble_eq_true rfl)) dL_law_580 ⟨by show cells + 1 + 0 + 0 ≤ 606307; omega, by show slots + 6 + 0 + 0 ≤ 7176832; omega⟩) ?_
  refine lv_iload hx hb dL_law_583 (lv_at hl 1 rfl) ?_
  have hp2 := CHG.p2 (ch_removePrint hR hbr hch hc8 (by omega) (xs (nI (7 * i + 1)).toNatClampNeg)) hB6
  refine lv_icmp_eq (tgt := 590) hx hb dL_law_585 (by decide) (fun c_1 => ?_) (fun c_1 => absurd (hp2.1.trans ek6.symm) c_1)
  refine lv_iload hx hb dL_law_590 (lv_at hl 1 rfl) ?_
  obtain ⟨f2, rfl, hf2⟩ := outL hO
  have fin : W p l e room_1 s m args below meth c H3 locs3 (cells + 1 + 0) (slots + 6 + 0) Q (F0 m 607 ls []) := by
    refine lv_goto (tgt := 3617) hx hb dL_law_607 (by decide) ?_
    refine W.widen (k := cells + 60) (n := slots + 240) (by omega) (by omega) ?_
    exact ih _ _ _ _ _ _ _ _ _ _ hW (hp2.rr hO) hS (lv_sub hl [2, 3, 4, 5, 6, 7] rfl)
  refine lv_if_ne (tgt := 607) hx hb dL_law_592 (by decide) (fun c_2 => fin) (fun c_2 => ?_)
  have hn := kC_0 (by decide) (ek6.symm.trans c_2)
  have hok := (hp2.2.1 hn).1
  have hv := hf2 hn
  have hPq : va_P D vwCl [(qo, eL cl f2)] H3 := wCons hW.2.2.2.1 (fun k x hx9 => by (cases hx9))
  refine lv_aload_n hx hb dL_law_595 rfl (lv_at hl 5 rfl) ?_
  refine lv_iconst (v := 0) hx hb dL_law_596 (by decide) ?_
  refine va_lald hx hb hK hPq 0 6 rfl rfl (i := 0) vp01 dL_law_597 ?_
  refine lv_iload hx hb dL_law_598 (lv_at hl 0 rfl) ?_
  refine lv_i2l (v := Int32.toInt64 b7) hx hb dL_law_600 rfl ?_
  refine W.lcmp hx hb dL_law_601 ?_
  refine lv_if_eq (tgt := 607) hx hb dL_law_602 (by decide) (fun _ => fin) (fun c_4 => absurd (lg_same (hv.trans (congrArg Int32.toInt64 (hok.trans eb7.symm)))) c_4)
set_option maxHeartbeats 4000000 in
set_option maxRecDepth 100000 in
theorem lc_4 (E0 : LE p l s m c args b L xs D cy cl cd xq) (hi : 7 * i + 7 ≤ L) (hL : L ≤ 3584) (hcl : cells + 60 ≤ 606307) (hsl : slots + 240 ≤ 7176832) (hW : LW s.heap.size D cy ad am qo qd pm rj rc σ μ (eL cl f) (eD cd g) H) (hR : RR B σ pm rc μ) (hB : B ≤ 20 * i + 1) (hS : va_S (fun q => s.heap.size ≤ q) s.heap H locs) (hl : lv_has ls 9 [(0, .ref b), (1, .ref (ad 429)), (2, .ref (am 0)), (3, .ref qo), (4, .ref qd), (5, .int (nI (7 * i)))]) (ih : LIH p l e s m args below meth c D cy cl cd ad am qo qd b i B cells slots Q) : W p l e room_1 s m args below meth c H locs cells slots Q (F0 m 610 ls []) := by
  obtain ⟨hx, hb, hml, hown, hts, hX, hbl, hst, hK, hE0, hNC⟩ := E0
  have hbA : ¬ (fun q : Nat => s.heap.size ≤ q) b := Nat.not_le.mpr hbl
  obtain ⟨n, t, pi, ro, hbr⟩ := hR.1
  obtain ⟨⟨ch, hc8, hch, -⟩, hpm, -⟩ := hR.2.1
  have hRJ := hR.2.2.2.1
  have hB6 : B + 20 < 1000000 := by omega
  have hA := hW.1
  have hKg := hK.sub (tys' := tyG cy) [0, 1, 2, 3, 4, 5] rfl
  refine lv_aload_n hx hb dL_law_610 rfl (lv_at hl 1 rfl) ?_
  refine lv_aload_n hx hb dL_law_611 rfl (lv_at hl 0 rfl) ?_
  refine lv_iload hx hb dL_law_612 (lv_at hl 5 rfl) ?_
  refine lv_iconst (v := 1) hx hb dL_law_614 (by decide) ?_
  refine lv_iadd hx hb dL_law_615 ?_
  refine W.eq (g2 := F0 m 616 ls [.int (nI (7 * i + 1)), .ref b, .ref (ad 429)]) (congrArg (fun z9 => F0 m 616 ls [.int z9, .ref b, .ref (ad 429)]) (show nI (7 * i) + 1 = nI (7 * i + 1) from nI_addE rfl (by decide +kernel))) ?_
  refine va_sld hx hb hX hbl hbA hS (i := nI (7 * i + 1)) (vp_in_nI (by omega) (by omega)) dL_law_616 ?_
  refine lv_aload_n hx hb dL_law_617 rfl (lv_at hl 0 rfl) ?_
  refine lv_iload hx hb dL_law_618 (lv_at hl 5 rfl) ?_
  refine lv_iconst (v := 2) hx hb dL_law_620 (by decide) ?_
  refine lv_iadd hx hb dL_law_621 ?_
  refine W.eq (g2 := F0 m 622 ls [.int (nI (7 * i + 2)), .ref b, .int (xs (nI (7 * i + 1)).toNatClampNeg), .ref (ad 429)]) (congrArg (fun z9 => F0 m 622 ls [.int z9, .ref b, .int (xs (nI (7 * i + 1)).toNatClampNeg), .ref (ad 429)]) (show nI (7 * i) + 2 = nI (7 * i + 2) from nI_addE rfl (by decide +kernel))) ?_
  refine va_sld hx hb hX hbl hbA hS (i := nI (7 * i + 2)) (vp_in_nI (by omega) (by omega)) dL_law_622 ?_
  refine lv_aload_n hx hb dL_law_623 rfl (lv_at hl 0 rfl) ?_
  refine lv_iload hx hb dL_law_624 (lv_at hl 5 rfl) ?_
  refine lv_iconst (v := 3) hx hb dL_law_626 (by decide) ?_
  refine lv_iadd hx hb dL_law_627 ?_
  refine W.eq (g2 := F0 m 628 ls [.int (nI (7 * i + 3)), .ref b, .int (xs (nI (7 * i + 2)).toNatClampNeg), .int (xs (nI (7 * i + 1)).toNatClampNeg), .ref (ad 429)]) (congrArg (fun z9 => F0 m 628 ls [.int z9, .ref b, .int (xs (nI (7 * i + 2)).toNatClampNeg), .int (xs (nI (7 * i + 1)).toNatClampNeg), .ref (ad 429)]) (show nI (7 * i) + 3 = nI (7 * i + 3) from nI_addE rfl (by decide +kernel))) ?_
  refine va_sld hx hb hX hbl hbA hS (i := nI (7 * i + 3)) (vp_in_nI (by omega) (by omega)) dL_law_628 ?_
  refine lv_aload_n hx hb dL_law_629 rfl (lv_at hl 3 rfl) ?_
  refine LW.call hW (vx_runSW (As := [.ref (ad 429), .int (xs (nI (7 * i + 1)).toNatClampNeg), .int (xs (nI (7 * i + 2)).toNatClampNeg), .int (xs (nI (7 * i + 3)).toNatClampNeg), .ref qo]) (rest := []) ⟨hx, hb, hml, hown, hts⟩ (c_L_correctHeel l D ad cy pm rj σ xq hst _ hA.1 (xs (nI (7 * i + 1)).toNatClampNeg) (xs (nI (7 * i + 2)).toNatClampNeg) (xs (nI (7 * i + 3)).toNatClampNeg) hpm cl cd qo f g) (vx_cwSW 5 hts gL_law_L_correctHeel rfl rfl rfl (by decide +kernel) ⟨Nat.le_of_ble_eq_true rfl, Nat.le_of_ble_eq_true rfl⟩) (lwPre hW.2.1 hW.2.2.2.1 hK (lwEX hE0 hA hS) hNC (fun k hk => (hA.2.2.2.1 k hk).1) trivial) rfl rfl hl.1 rfl (lv_room (Nat.le_of_ble_eq_true rfl)) dL_law_630 ⟨by show cells + 4 ≤ 606307; omega, by show slots + 21 ≤ 7176832; omega⟩) hS (fun H2 locs2 pm2 rj2 rc2 σ2 e2 hW hO hS => ?_)
  refine lv_topi (fun k6 ek6 => ?_)
  refine lv_istore (lv' := [(6, .int k6), (0, .ref b), (1, .ref (ad 429)), (2, .ref (am 0)), (3, .ref qo), (4, .ref qd), (5, .int (nI (7 * i)))]) hx hb dL_law_633 hl (by decide) rfl (fun ls hl => ?_)
  refine lv_aload_n hx hb dL_law_635 rfl (lv_at hl 3 rfl) ?_
  refine lv_aload_n hx hb dL_law_636 rfl (lv_at hl 1 rfl) ?_
  refine lv_iload hx hb dL_law_637 (lv_at hl 6 rfl) ?_
  refine lv_iconst (v := 1) hx hb dL_law_639 (by decide) ?_
  refine lv_iadd hx hb dL_law_640 ?_
  refine W.eq (g2 := F0 m 641 ls [.int (nI (7 * i + 1)), .ref b, .ref (am 0)]) (congrArg (fun z9 => F0 m 641 ls [.int z9, .ref b, .ref (am 0)]) (show nI (7 * i) + 1 = nI (7 * i + 1) from nI_addE rfl (by decide +kernel))) ?_
  refine va_sld hx hb hX hbl hbA hS (i := nI (7 * i + 1)) (vp_in_nI (by omega) (by omega)) dL_law_641 ?_
  refine lv_aload_n hx hb dL_law_642 rfl (lv_at hl 1 rfl) ?_
  refine lv_iload hx hb dL_law_643 (lv_at hl 6 rfl) ?_
  refine lv_iconst (v := 2) hx hb dL_law_645 (by decide) ?_
  refine lv_iadd hx hb dL_law_646 ?_
  refine W.eq (g2 := F0 m 647 ls [.int (nI (7 * i + 2)), .ref b, .int (xs (nI (7 * i + 1)).toNatClampNeg), .ref (am 0)]) (congrArg (fun z9 => F0 m 647 ls [.int z9, .ref b, .int (xs (nI (7 * i + 1)).toNatClampNeg), .ref (am 0)]) (show nI (7 * i) + 2 = nI (7 * i + 2) from nI_addE rfl (by decide +kernel))) ?_
  refine va_sld hx hb hX hbl hbA hS (i := nI (7 * i + 2)) (vp_in_nI (by omega) (by omega)) dL_law_647 ?_
  refine lv_aload_n hx hb dL_law_648 rfl (lv_at hl 1 rfl) ?_
  refine lv_iload hx hb dL_law_649 (lv_at hl 6 rfl) ?_
  refine lv_iconst (v := 3) hx hb dL_law_651 (by decide) ?_
  refine lv_iadd hx hb dL_law_652 ?_
  refine W.eq (g2 := F0 m 653 ls [.int (nI (7 * i + 3)), .ref b, .int (xs (nI (7 * i + 2)).toNatClampNeg), .int (xs (nI (7 * i + 1)).toNatClampNeg), .ref (am 0)]) (congrArg (fun z9 => F0 m 653 ls [.int z9, .ref b, .int (xs (nI (7 * i + 2)).toNatClampNeg), .int (xs (nI (7 * i + 1)).toNatClampNeg), .ref (am 0)]) (show nI (7 * i) + 3 = nI (7 * i + 3) from nI_addE rfl (by decide +kernel))) ?_
  refine va_sld hx hb hX hbl hbA hS (i := nI (7 * i + 3)) (vp_in_nI (by omega) (by omega)) dL_law_653 ?_
  refine sp_callm (va_runV (As := [.int (xs (nI (7 * i + 1)).toNatClampNeg), .int (xs (nI (7 * i + 2)).toNatClampNeg), .int (xs (nI (7 * i + 3)).toNatClampNeg)]) (rest := []) ⟨hx, hb, hml, hown, hts⟩ (c_X10_correctHeel l D am cy μ _ hA.2.1 n t hbr.1 ch hch hc8 (xs (nI (7 * i + 1)).toNatClampNeg) (xs (nI (7 * i + 2)).toNatClampNeg) (xs (nI (7 * i + 3)).toNatClampNeg)) (cwV 3 hts gL_law_X10_correctHeel rfl rfl rfl (by decide +kernel) ⟨Nat.le_of_ble_eq_true rfl, Nat.le_of_ble_eq_true rfl⟩) (sp_preVm hKg hW.2.2.1 (κ := 0) (by decide) mE_0 rfl) rfl rfl hl.1 rfl (lv_room (Nat.le_of_ble_eq_true rfl)) dL_law_654 ⟨by show cells + 4 + 0 ≤ 606307; omega, by show slots + 21 + 0 ≤ 7176832; omega⟩) hS (fun q _ h => lwAm hA hS q h) (fun q h => lwAm hA hS q h) (fun H3 locs3 hPm hle hfr hS => ?_)
  have hW := hW.model hPm hfr
  refine lv_topi (fun b7 eb7 => ?_)
  refine lv_istore (lv' := [(7, .int b7), (6, .int k6), (0, .ref b), (1, .ref (ad 429)), (2, .ref (am 0)), (3, .ref qo), (4, .ref qd), (5, .int (nI (7 * i)))]) hx hb dL_law_657 hl (by decide) rfl (fun ls hl => ?_)
  refine lv_aload_n hx hb dL_law_659 rfl (lv_at hl 4 rfl) ?_
  refine sp_call (W.runV (As := []) (rest := []) ⟨hx, hb, hml, hown, hts⟩ (c_X10_thrown l D am cy _) (cwV 0 hts gL_law_X10_thrown rfl rfl rfl (by decide +kernel) ⟨Nat.le_of_ble_eq_true rfl, Nat.le_of_ble_eq_true rfl⟩) (sp_preV hKg hW.2.2.1 (κ := 0) (by decide) mE_0 rfl) rfl rfl hl.1 rfl (lv_room (Nat.le_of_ble_eq_true rfl)) dL_law_660 ⟨by show cells + 4 + 0 + 0 ≤ 606307; omega, by show slots + 21 + 0 + 0 ≤ 7176832; omega⟩) ?_
  refine lv_iload hx hb dL_law_663 (lv_at hl 1 rfl) ?_
  have hp2 := CHG.p2 (ch_heel hR hbr hch hc8 (by omega) (xs (nI (7 * i + 1)).toNatClampNeg) (xs (nI (7 * i + 2)).toNatClampNeg) (xs (nI (7 * i + 3)).toNatClampNeg)) hB6
  refine lv_icmp_eq (tgt := 670) hx hb dL_law_665 (by decide) (fun c_1 => ?_) (fun c_1 => absurd (hp2.1.trans ek6.symm) c_1)
  refine lv_iload hx hb dL_law_670 (lv_at hl 1 rfl) ?_
  obtain ⟨f2, rfl, hf2⟩ := outL hO
  have fin : W p l e room_1 s m args below meth c H3 locs3 (cells + 4 + 0) (slots + 21 + 0) Q (F0 m 687 ls []) := by
    refine lv_goto (tgt := 3617) hx hb dL_law_687 (by decide) ?_
    refine W.widen (k := cells + 60) (n := slots + 240) (by omega) (by omega) ?_
    exact ih _ _ _ _ _ _ _ _ _ _ hW (hp2.rr hO) hS (lv_sub hl [2, 3, 4, 5, 6, 7] rfl)
  refine lv_if_ne (tgt := 687) hx hb dL_law_672 (by decide) (fun c_2 => fin) (fun c_2 => ?_)
  have hn := kC_0 (by decide) (ek6.symm.trans c_2)
  have hok := (hp2.2.1 hn).1
  have hv := hf2 hn
  have hPq : va_P D vwCl [(qo, eL cl f2)] H3 := wCons hW.2.2.2.1 (fun k x hx9 => by (cases hx9))
  refine lv_aload_n hx hb dL_law_675 rfl (lv_at hl 5 rfl) ?_
  refine lv_iconst (v := 0) hx hb dL_law_676 (by decide) ?_
  refine va_lald hx hb hK hPq 0 6 rfl rfl (i := 0) vp01 dL_law_677 ?_
  refine lv_iload hx hb dL_law_678 (lv_at hl 0 rfl) ?_
  refine lv_i2l (v := Int32.toInt64 b7) hx hb dL_law_680 rfl ?_
  refine W.lcmp hx hb dL_law_681 ?_
  refine lv_if_eq (tgt := 687) hx hb dL_law_682 (by decide) (fun _ => fin) (fun c_4 => absurd (lg_same (hv.trans (congrArg Int32.toInt64 (hok.trans eb7.symm)))) c_4)
set_option maxHeartbeats 4000000 in
set_option maxRecDepth 100000 in
theorem lc_5 (E0 : LE p l s m c args b L xs D cy cl cd xq) (hi : 7 * i + 7 ≤ L) (hL : L ≤ 3584) (hcl : cells + 60 ≤ 606307) (hsl : slots + 240 ≤ 7176832) (hW : LW s.heap.size D cy ad am qo qd pm rj rc σ μ (eL cl f) (eD cd g) H) (hR : RR B σ pm rc μ) (hB : B ≤ 20 * i + 1) (hS : va_S (fun q => s.heap.size ≤ q) s.heap H locs) (hl : lv_has ls 9 [(0, .ref b), (1, .ref (ad 429)), (2, .ref (am 0)), (3, .ref qo), (4, .ref qd), (5, .int (nI (7 * i)))]) (ih : LIH p l e s m args below meth c D cy cl cd ad am qo qd b i B cells slots Q) : W p l e room_1 s m args below meth c H locs cells slots Q (F0 m 690 ls []) := by
  obtain ⟨hx, hb, hml, hown, hts, hX, hbl, hst, hK, hE0, hNC⟩ := E0
  have hbA : ¬ (fun q : Nat => s.heap.size ≤ q) b := Nat.not_le.mpr hbl
  obtain ⟨n, t, pi, ro, hbr⟩ := hR.1
  obtain ⟨⟨ch, hc8, hch, -⟩, hpm, -⟩ := hR.2.1
  have hRJ := hR.2.2.2.1
  have hB6 : B + 20 < 1000000 := by omega
  have hA := hW.1
  have hKg := hK.sub (tys' := tyG cy) [0, 1, 2, 3, 4, 5] rfl
  refine lv_aload_n hx hb dL_law_690 rfl (lv_at hl 1 rfl) ?_
  refine lv_aload_n hx hb dL_law_691 rfl (lv_at hl 0 rfl) ?_
  refine lv_iload hx hb dL_law_692 (lv_at hl 5 rfl) ?_
  refine lv_iconst (v := 1) hx hb dL_law_694 (by decide) ?_
  refine lv_iadd hx hb dL_law_695 ?_
  refine W.eq (g2 := F0 m 696 ls [.int (nI (7 * i + 1)), .ref b, .ref (ad 429)]) (congrArg (fun z9 => F0 m 696 ls [.int z9, .ref b, .ref (ad 429)]) (show nI (7 * i) + 1 = nI (7 * i + 1) from nI_addE rfl (by decide +kernel))) ?_
  refine va_sld hx hb hX hbl hbA hS (i := nI (7 * i + 1)) (vp_in_nI (by omega) (by omega)) dL_law_696 ?_
  refine lv_aload_n hx hb dL_law_697 rfl (lv_at hl 3 rfl) ?_
  refine LW.call hW (vx_runSW (As := [.ref (ad 429), .int (xs (nI (7 * i + 1)).toNatClampNeg), .ref qo]) (rest := []) ⟨hx, hb, hml, hown, hts⟩ (c_L_swapFoot l D ad cy pm rj σ xq hst _ hA.1 (xs (nI (7 * i + 1)).toNatClampNeg) hpm cl cd qo f g) (vx_cwSW 3 hts gL_law_L_swapFoot rfl rfl rfl (by decide +kernel) ⟨Nat.le_of_ble_eq_true rfl, Nat.le_of_ble_eq_true rfl⟩) (lwPre hW.2.1 hW.2.2.2.1 hK (lwEX hE0 hA hS) hNC (fun k hk => (hA.2.2.2.1 k hk).1) trivial) rfl rfl hl.1 rfl (lv_room (Nat.le_of_ble_eq_true rfl)) dL_law_698 ⟨by show cells + 1 ≤ 606307; omega, by show slots + 6 ≤ 7176832; omega⟩) hS (fun H2 locs2 pm2 rj2 rc2 σ2 e2 hW hO hS => ?_)
  refine lv_topi (fun k6 ek6 => ?_)
  refine lv_istore (lv' := [(6, .int k6), (0, .ref b), (1, .ref (ad 429)), (2, .ref (am 0)), (3, .ref qo), (4, .ref qd), (5, .int (nI (7 * i)))]) hx hb dL_law_701 hl (by decide) rfl (fun ls hl => ?_)
  refine lv_aload_n hx hb dL_law_703 rfl (lv_at hl 3 rfl) ?_
  refine lv_aload_n hx hb dL_law_704 rfl (lv_at hl 1 rfl) ?_
  refine lv_iload hx hb dL_law_705 (lv_at hl 6 rfl) ?_
  refine lv_iconst (v := 1) hx hb dL_law_707 (by decide) ?_
  refine lv_iadd hx hb dL_law_708 ?_
  refine W.eq (g2 := F0 m 709 ls [.int (nI (7 * i + 1)), .ref b, .ref (am 0)]) (congrArg (fun z9 => F0 m 709 ls [.int z9, .ref b, .ref (am 0)]) (show nI (7 * i) + 1 = nI (7 * i + 1) from nI_addE rfl (by decide +kernel))) ?_
  refine va_sld hx hb hX hbl hbA hS (i := nI (7 * i + 1)) (vp_in_nI (by omega) (by omega)) dL_law_709 ?_
  refine sp_callm (va_runV (As := [.int (xs (nI (7 * i + 1)).toNatClampNeg)]) (rest := []) ⟨hx, hb, hml, hown, hts⟩ (c_X10_swapFoot l D am cy μ _ hA.2.1 n t hbr.1 ch hch hc8 (xs (nI (7 * i + 1)).toNatClampNeg)) (cwV 1 hts gL_law_X10_swapFoot rfl rfl rfl (by decide +kernel) ⟨Nat.le_of_ble_eq_true rfl, Nat.le_of_ble_eq_true rfl⟩) (sp_preVm hKg hW.2.2.1 (κ := 0) (by decide) mE_0 rfl) rfl rfl hl.1 rfl (lv_room (Nat.le_of_ble_eq_true rfl)) dL_law_710 ⟨by show cells + 1 + 0 ≤ 606307; omega, by show slots + 6 + 0 ≤ 7176832; omega⟩) hS (fun q _ h => lwAm hA hS q h) (fun q h => lwAm hA hS q h) (fun H3 locs3 hPm hle hfr hS => ?_)
  have hW := hW.model hPm hfr
  refine lv_topi (fun b7 eb7 => ?_)
  refine lv_istore (lv' := [(7, .int b7), (6, .int k6), (0, .ref b), (1, .ref (ad 429)), (2, .ref (am 0)), (3, .ref qo), (4, .ref qd), (5, .int (nI (7 * i)))]) hx hb dL_law_713 hl (by decide) rfl (fun ls hl => ?_)
  refine lv_aload_n hx hb dL_law_715 rfl (lv_at hl 4 rfl) ?_
  refine sp_call (W.runV (As := []) (rest := []) ⟨hx, hb, hml, hown, hts⟩ (c_X10_thrown l D am cy _) (cwV 0 hts gL_law_X10_thrown rfl rfl rfl (by decide +kernel) ⟨Nat.le_of_ble_eq_true rfl, Nat.le_of_ble_eq_true rfl⟩) (sp_preV hKg hW.2.2.1 (κ := 0) (by decide) mE_0 rfl) rfl rfl hl.1 rfl (lv_room (Nat.le_of_ble_eq_true rfl)) dL_law_716 ⟨by show cells + 1 + 0 + 0 ≤ 606307; omega, by show slots + 6 + 0 + 0 ≤ 7176832; omega⟩) ?_
  refine lv_iload hx hb dL_law_719 (lv_at hl 1 rfl) ?_
  have hp2 := CHG.p2 (ch_swap hR hbr hch hc8 (by omega) (xs (nI (7 * i + 1)).toNatClampNeg)) hB6
  refine lv_icmp_eq (tgt := 726) hx hb dL_law_721 (by decide) (fun c_1 => ?_) (fun c_1 => absurd (hp2.1.trans ek6.symm) c_1)
  refine lv_iload hx hb dL_law_726 (lv_at hl 1 rfl) ?_
  obtain ⟨f2, rfl, hf2⟩ := outL hO
  have fin : W p l e room_1 s m args below meth c H3 locs3 (cells + 1 + 0) (slots + 6 + 0) Q (F0 m 750 ls []) := by
    refine lv_goto (tgt := 3617) hx hb dL_law_750 (by decide) ?_
    refine W.widen (k := cells + 60) (n := slots + 240) (by omega) (by omega) ?_
    exact ih _ _ _ _ _ _ _ _ _ _ hW (hp2.rr hO) hS (lv_sub hl [2, 3, 4, 5, 6, 7] rfl)
  refine lv_if_ne (tgt := 750) hx hb dL_law_728 (by decide) (fun c_2 => fin) (fun c_2 => ?_)
  have hn := kC_0 (by decide) (ek6.symm.trans c_2)
  have hok := (hp2.2.1 hn).1
  have hv := hf2 hn
  have hPq : va_P D vwCl [(qo, eL cl f2)] H3 := wCons hW.2.2.2.1 (fun k x hx9 => by (cases hx9))
  refine lv_aload_n hx hb dL_law_731 rfl (lv_at hl 5 rfl) ?_
  refine lv_iconst (v := 0) hx hb dL_law_732 (by decide) ?_
  refine va_lald hx hb hK hPq 0 6 rfl rfl (i := 0) vp01 dL_law_733 ?_
  refine lv_iload hx hb dL_law_734 (lv_at hl 0 rfl) ?_
  have hb7 : b7 = 0 ∨ b7 = 1 := by rw [eb7]; exact b2i_01 _
  suffices key : W p l e room_1 s m args below meth c H3 locs3 (cells + 1 + 0) (slots + 6 + 0) Q (F0 m 744 ls [.long (Int32.toInt64 b7), .long (f2 (0 : Int32).toNatClampNeg)]) by
    refine lv_if_eq (tgt := 743) hx hb dL_law_736 (by decide) (fun c_3 => ?_) (fun c_3 => ?_)
    · refine lv_lconst (v := 0) hx hb dL_law_743 rfl ?_
      exact W.eq (g2 := F0 m 744 ls [.long (Int32.toInt64 b7), .long (f2 (0 : Int32).toNatClampNeg)]) (by rw [c_3]; rfl) key
    · refine lv_lconst (v := 1) hx hb dL_law_739 rfl ?_
      refine lv_goto (tgt := 744) hx hb dL_law_740 (by decide) ?_
      exact W.eq (g2 := F0 m 744 ls [.long (Int32.toInt64 b7), .long (f2 (0 : Int32).toNatClampNeg)]) (by rw [hb7.resolve_left c_3]; rfl) key
  refine W.lcmp hx hb dL_law_744 ?_
  refine lv_if_eq (tgt := 750) hx hb dL_law_745 (by decide) (fun _ => fin) (fun c_4 => absurd (lg_same (hv.trans (congrArg Int32.toInt64 (hok.trans eb7.symm)))) c_4)
set_option maxHeartbeats 4000000 in
set_option maxRecDepth 100000 in
theorem lc_6 (E0 : LE p l s m c args b L xs D cy cl cd xq) (hi : 7 * i + 7 ≤ L) (hL : L ≤ 3584) (hcl : cells + 60 ≤ 606307) (hsl : slots + 240 ≤ 7176832) (hW : LW s.heap.size D cy ad am qo qd pm rj rc σ μ (eL cl f) (eD cd g) H) (hR : RR B σ pm rc μ) (hB : B ≤ 20 * i + 1) (hS : va_S (fun q => s.heap.size ≤ q) s.heap H locs) (hl : lv_has ls 9 [(0, .ref b), (1, .ref (ad 429)), (2, .ref (am 0)), (3, .ref qo), (4, .ref qd), (5, .int (nI (7 * i)))]) (ih : LIH p l e s m args below meth c D cy cl cd ad am qo qd b i B cells slots Q) : W p l e room_1 s m args below meth c H locs cells slots Q (F0 m 753 ls []) := by
  obtain ⟨hx, hb, hml, hown, hts, hX, hbl, hst, hK, hE0, hNC⟩ := E0
  have hbA : ¬ (fun q : Nat => s.heap.size ≤ q) b := Nat.not_le.mpr hbl
  obtain ⟨n, t, pi, ro, hbr⟩ := hR.1
  obtain ⟨⟨ch, hc8, hch, -⟩, hpm, -⟩ := hR.2.1
  have hRJ := hR.2.2.2.1
  have hB6 : B + 20 < 1000000 := by omega
  have hA := hW.1
  have hKg := hK.sub (tys' := tyG cy) [0, 1, 2, 3, 4, 5] rfl
  refine lv_aload_n hx hb dL_law_753 rfl (lv_at hl 1 rfl) ?_
  refine lv_aload_n hx hb dL_law_754 rfl (lv_at hl 0 rfl) ?_
  refine lv_iload hx hb dL_law_755 (lv_at hl 5 rfl) ?_
  refine lv_iconst (v := 1) hx hb dL_law_757 (by decide) ?_
  refine lv_iadd hx hb dL_law_758 ?_
  refine W.eq (g2 := F0 m 759 ls [.int (nI (7 * i + 1)), .ref b, .ref (ad 429)]) (congrArg (fun z9 => F0 m 759 ls [.int z9, .ref b, .ref (ad 429)]) (show nI (7 * i) + 1 = nI (7 * i + 1) from nI_addE rfl (by decide +kernel))) ?_
  refine va_sld hx hb hX hbl hbA hS (i := nI (7 * i + 1)) (vp_in_nI (by omega) (by omega)) dL_law_759 ?_
  refine lv_aload_n hx hb dL_law_760 rfl (lv_at hl 3 rfl) ?_
  refine LW.call hW (vx_runSW (As := [.ref (ad 429), .int (xs (nI (7 * i + 1)).toNatClampNeg), .ref qo]) (rest := []) ⟨hx, hb, hml, hown, hts⟩ (c_L_doubtToes l D ad cy pm rj σ xq hst _ hA.1 (xs (nI (7 * i + 1)).toNatClampNeg) hpm cl cd qo f g) (vx_cwSW 3 hts gL_law_L_doubtToes rfl rfl rfl (by decide +kernel) ⟨Nat.le_of_ble_eq_true rfl, Nat.le_of_ble_eq_true rfl⟩) (lwPre hW.2.1 hW.2.2.2.1 hK (lwEX hE0 hA hS) hNC (fun k hk => (hA.2.2.2.1 k hk).1) trivial) rfl rfl hl.1 rfl (lv_room (Nat.le_of_ble_eq_true rfl)) dL_law_761 ⟨by show cells + 3 ≤ 606307; omega, by show slots + 15 ≤ 7176832; omega⟩) hS (fun H2 locs2 pm2 rj2 rc2 σ2 e2 hW hO hS => ?_)
  refine lv_topi (fun k6 ek6 => ?_)
  refine lv_istore (lv' := [(6, .int k6), (0, .ref b), (1, .ref (ad 429)), (2, .ref (am 0)), (3, .ref qo), (4, .ref qd), (5, .int (nI (7 * i)))]) hx hb dL_law_764 hl (by decide) rfl (fun ls hl => ?_)
  refine lv_aload_n hx hb dL_law_766 rfl (lv_at hl 3 rfl) ?_
  refine lv_aload_n hx hb dL_law_767 rfl (lv_at hl 1 rfl) ?_
  refine lv_iload hx hb dL_law_768 (lv_at hl 6 rfl) ?_
  refine lv_iconst (v := 1) hx hb dL_law_770 (by decide) ?_
  refine lv_iadd hx hb dL_law_771 ?_
  refine W.eq (g2 := F0 m 772 ls [.int (nI (7 * i + 1)), .ref b, .ref (am 0)]) (congrArg (fun z9 => F0 m 772 ls [.int z9, .ref b, .ref (am 0)]) (show nI (7 * i) + 1 = nI (7 * i + 1) from nI_addE rfl (by decide +kernel))) ?_
  refine va_sld hx hb hX hbl hbA hS (i := nI (7 * i + 1)) (vp_in_nI (by omega) (by omega)) dL_law_772 ?_
  refine sp_callm (va_runV (As := [.int (xs (nI (7 * i + 1)).toNatClampNeg)]) (rest := []) ⟨hx, hb, hml, hown, hts⟩ (c_X10_doubtToes l D am cy μ _ hA.2.1 n t hbr.1 ch hch hc8 (xs (nI (7 * i + 1)).toNatClampNeg)) (cwV 1 hts gL_law_X10_doubtToes rfl rfl rfl (by decide +kernel) ⟨Nat.le_of_ble_eq_true rfl, Nat.le_of_ble_eq_true rfl⟩) (sp_preVm hKg hW.2.2.1 (κ := 0) (by decide) mE_0 rfl) rfl rfl hl.1 rfl (lv_room (Nat.le_of_ble_eq_true rfl)) dL_law_773 ⟨by show cells + 3 + 0 ≤ 606307; omega, by show slots + 15 + 0 ≤ 7176832; omega⟩) hS (fun q _ h => lwAm hA hS q h) (fun q h => lwAm hA hS q h) (fun H3 locs3 hPm hle hfr hS => ?_)
  have hW := hW.model hPm hfr
  refine lv_topi (fun b7 eb7 => ?_)
  refine lv_istore (lv' := [(7, .int b7), (6, .int k6), (0, .ref b), (1, .ref (ad 429)), (2, .ref (am 0)), (3, .ref qo), (4, .ref qd), (5, .int (nI (7 * i)))]) hx hb dL_law_776 hl (by decide) rfl (fun ls hl => ?_)
  refine lv_aload_n hx hb dL_law_778 rfl (lv_at hl 4 rfl) ?_
  refine sp_call (W.runV (As := []) (rest := []) ⟨hx, hb, hml, hown, hts⟩ (c_X10_thrown l D am cy _) (cwV 0 hts gL_law_X10_thrown rfl rfl rfl (by decide +kernel) ⟨Nat.le_of_ble_eq_true rfl, Nat.le_of_ble_eq_true rfl⟩) (sp_preV hKg hW.2.2.1 (κ := 0) (by decide) mE_0 rfl) rfl rfl hl.1 rfl (lv_room (Nat.le_of_ble_eq_true rfl)) dL_law_779 ⟨by show cells + 3 + 0 + 0 ≤ 606307; omega, by show slots + 15 + 0 + 0 ≤ 7176832; omega⟩) ?_
  refine lv_iload hx hb dL_law_782 (lv_at hl 1 rfl) ?_
  have hp2 := CHG.p2 (ch_doubt hR hbr hch hc8 (by omega) (xs (nI (7 * i + 1)).toNatClampNeg)) hB6
  refine lv_icmp_eq (tgt := 789) hx hb dL_law_784 (by decide) (fun c_1 => ?_) (fun c_1 => absurd (hp2.1.trans ek6.symm) c_1)
  refine lv_iload hx hb dL_law_789 (lv_at hl 1 rfl) ?_
  obtain ⟨f2, rfl, hf2⟩ := outL hO
  have fin : W p l e room_1 s m args below meth c H3 locs3 (cells + 3 + 0) (slots + 15 + 0) Q (F0 m 806 ls []) := by
    refine lv_goto (tgt := 3617) hx hb dL_law_806 (by decide) ?_
    refine W.widen (k := cells + 60) (n := slots + 240) (by omega) (by omega) ?_
    exact ih _ _ _ _ _ _ _ _ _ _ hW (hp2.rr hO) hS (lv_sub hl [2, 3, 4, 5, 6, 7] rfl)
  refine lv_if_ne (tgt := 806) hx hb dL_law_791 (by decide) (fun c_2 => fin) (fun c_2 => ?_)
  have hn := kC_0 (by decide) (ek6.symm.trans c_2)
  have hok := (hp2.2.1 hn).1
  have hv := hf2 hn
  have hPq : va_P D vwCl [(qo, eL cl f2)] H3 := wCons hW.2.2.2.1 (fun k x hx9 => by (cases hx9))
  refine lv_aload_n hx hb dL_law_794 rfl (lv_at hl 5 rfl) ?_
  refine lv_iconst (v := 0) hx hb dL_law_795 (by decide) ?_
  refine va_lald hx hb hK hPq 0 6 rfl rfl (i := 0) vp01 dL_law_796 ?_
  refine lv_iload hx hb dL_law_797 (lv_at hl 0 rfl) ?_
  refine lv_i2l (v := Int32.toInt64 b7) hx hb dL_law_799 rfl ?_
  refine W.lcmp hx hb dL_law_800 ?_
  refine lv_if_eq (tgt := 806) hx hb dL_law_801 (by decide) (fun _ => fin) (fun c_4 => absurd (lg_same (hv.trans (congrArg Int32.toInt64 (hok.trans eb7.symm)))) c_4)
set_option maxHeartbeats 4000000 in
set_option maxRecDepth 100000 in
theorem lc_7 (E0 : LE p l s m c args b L xs D cy cl cd xq) (hi : 7 * i + 7 ≤ L) (hL : L ≤ 3584) (hcl : cells + 60 ≤ 606307) (hsl : slots + 240 ≤ 7176832) (hW : LW s.heap.size D cy ad am qo qd pm rj rc σ μ (eL cl f) (eD cd g) H) (hR : RR B σ pm rc μ) (hB : B ≤ 20 * i + 1) (hS : va_S (fun q => s.heap.size ≤ q) s.heap H locs) (hl : lv_has ls 9 [(0, .ref b), (1, .ref (ad 429)), (2, .ref (am 0)), (3, .ref qo), (4, .ref qd), (5, .int (nI (7 * i)))]) (ih : LIH p l e s m args below meth c D cy cl cd ad am qo qd b i B cells slots Q) : W p l e room_1 s m args below meth c H locs cells slots Q (F0 m 809 ls []) := by
  obtain ⟨hx, hb, hml, hown, hts, hX, hbl, hst, hK, hE0, hNC⟩ := E0
  have hbA : ¬ (fun q : Nat => s.heap.size ≤ q) b := Nat.not_le.mpr hbl
  obtain ⟨n, t, pi, ro, hbr⟩ := hR.1
  obtain ⟨⟨ch, hc8, hch, -⟩, hpm, -⟩ := hR.2.1
  have hRJ := hR.2.2.2.1
  have hB6 : B + 20 < 1000000 := by omega
  have hA := hW.1
  have hKg := hK.sub (tys' := tyG cy) [0, 1, 2, 3, 4, 5] rfl
  refine lv_aload_n hx hb dL_law_809 rfl (lv_at hl 1 rfl) ?_
  refine lv_aload_n hx hb dL_law_810 rfl (lv_at hl 0 rfl) ?_
  refine lv_iload hx hb dL_law_811 (lv_at hl 5 rfl) ?_
  refine lv_iconst (v := 1) hx hb dL_law_813 (by decide) ?_
  refine lv_iadd hx hb dL_law_814 ?_
  refine W.eq (g2 := F0 m 815 ls [.int (nI (7 * i + 1)), .ref b, .ref (ad 429)]) (congrArg (fun z9 => F0 m 815 ls [.int z9, .ref b, .ref (ad 429)]) (show nI (7 * i) + 1 = nI (7 * i + 1) from nI_addE rfl (by decide +kernel))) ?_
  refine va_sld hx hb hX hbl hbA hS (i := nI (7 * i + 1)) (vp_in_nI (by omega) (by omega)) dL_law_815 ?_
  refine lv_aload_n hx hb dL_law_816 rfl (lv_at hl 3 rfl) ?_
  refine LW.call hW (vx_runSW (As := [.ref (ad 429), .int (xs (nI (7 * i + 1)).toNatClampNeg), .ref qo]) (rest := []) ⟨hx, hb, hml, hown, hts⟩ (c_L_confirmToes l D ad cy pm rj σ xq hst _ hA.1 (xs (nI (7 * i + 1)).toNatClampNeg) hpm cl cd qo f g) (vx_cwSW 3 hts gL_law_L_confirmToes rfl rfl rfl (by decide +kernel) ⟨Nat.le_of_ble_eq_true rfl, Nat.le_of_ble_eq_true rfl⟩) (lwPre hW.2.1 hW.2.2.2.1 hK (lwEX hE0 hA hS) hNC (fun k hk => (hA.2.2.2.1 k hk).1) trivial) rfl rfl hl.1 rfl (lv_room (Nat.le_of_ble_eq_true rfl)) dL_law_817 ⟨by show cells + 3 ≤ 606307; omega, by show slots + 15 ≤ 7176832; omega⟩) hS (fun H2 locs2 pm2 rj2 rc2 σ2 e2 hW hO hS => ?_)
  refine lv_topi (fun k6 ek6 => ?_)
  refine lv_istore (lv' := [(6, .int k6), (0, .ref b), (1, .ref (ad 429)), (2, .ref (am 0)), (3, .ref qo), (4, .ref qd), (5, .int (nI (7 * i)))]) hx hb dL_law_820 hl (by decide) rfl (fun ls hl => ?_)
  refine lv_aload_n hx hb dL_law_822 rfl (lv_at hl 3 rfl) ?_
  refine lv_aload_n hx hb dL_law_823 rfl (lv_at hl 1 rfl) ?_
  refine lv_iload hx hb dL_law_824 (lv_at hl 6 rfl) ?_
  refine lv_iconst (v := 1) hx hb dL_law_826 (by decide) ?_
  refine lv_iadd hx hb dL_law_827 ?_
  refine W.eq (g2 := F0 m 828 ls [.int (nI (7 * i + 1)), .ref b, .ref (am 0)]) (congrArg (fun z9 => F0 m 828 ls [.int z9, .ref b, .ref (am 0)]) (show nI (7 * i) + 1 = nI (7 * i + 1) from nI_addE rfl (by decide +kernel))) ?_
  refine va_sld hx hb hX hbl hbA hS (i := nI (7 * i + 1)) (vp_in_nI (by omega) (by omega)) dL_law_828 ?_
  refine sp_callm (va_runV (As := [.int (xs (nI (7 * i + 1)).toNatClampNeg)]) (rest := []) ⟨hx, hb, hml, hown, hts⟩ (c_X10_confirmToes l D am cy μ _ hA.2.1 n t hbr.1 ch hch hc8 (xs (nI (7 * i + 1)).toNatClampNeg)) (cwV 1 hts gL_law_X10_confirmToes rfl rfl rfl (by decide +kernel) ⟨Nat.le_of_ble_eq_true rfl, Nat.le_of_ble_eq_true rfl⟩) (sp_preVm hKg hW.2.2.1 (κ := 0) (by decide) mE_0 rfl) rfl rfl hl.1 rfl (lv_room (Nat.le_of_ble_eq_true rfl)) dL_law_829 ⟨by show cells + 3 + 0 ≤ 606307; omega, by show slots + 15 + 0 ≤ 7176832; omega⟩) hS (fun q _ h => lwAm hA hS q h) (fun q h => lwAm hA hS q h) (fun H3 locs3 hPm hle hfr hS => ?_)
  have hW := hW.model hPm hfr
  refine lv_topi (fun b7 eb7 => ?_)
  refine lv_istore (lv' := [(7, .int b7), (6, .int k6), (0, .ref b), (1, .ref (ad 429)), (2, .ref (am 0)), (3, .ref qo), (4, .ref qd), (5, .int (nI (7 * i)))]) hx hb dL_law_832 hl (by decide) rfl (fun ls hl => ?_)
  refine lv_aload_n hx hb dL_law_834 rfl (lv_at hl 4 rfl) ?_
  refine sp_call (W.runV (As := []) (rest := []) ⟨hx, hb, hml, hown, hts⟩ (c_X10_thrown l D am cy _) (cwV 0 hts gL_law_X10_thrown rfl rfl rfl (by decide +kernel) ⟨Nat.le_of_ble_eq_true rfl, Nat.le_of_ble_eq_true rfl⟩) (sp_preV hKg hW.2.2.1 (κ := 0) (by decide) mE_0 rfl) rfl rfl hl.1 rfl (lv_room (Nat.le_of_ble_eq_true rfl)) dL_law_835 ⟨by show cells + 3 + 0 + 0 ≤ 606307; omega, by show slots + 15 + 0 + 0 ≤ 7176832; omega⟩) ?_
  refine lv_iload hx hb dL_law_838 (lv_at hl 1 rfl) ?_
  have hp2 := CHG.p2 (ch_conf hR hbr hch hc8 (by omega) (xs (nI (7 * i + 1)).toNatClampNeg)) hB6
  refine lv_icmp_eq (tgt := 845) hx hb dL_law_840 (by decide) (fun c_1 => ?_) (fun c_1 => absurd (hp2.1.trans ek6.symm) c_1)
  refine lv_iload hx hb dL_law_845 (lv_at hl 1 rfl) ?_
  obtain ⟨f2, rfl, hf2⟩ := outL hO
  have fin : W p l e room_1 s m args below meth c H3 locs3 (cells + 3 + 0) (slots + 15 + 0) Q (F0 m 862 ls []) := by
    refine lv_goto (tgt := 3617) hx hb dL_law_862 (by decide) ?_
    refine W.widen (k := cells + 60) (n := slots + 240) (by omega) (by omega) ?_
    exact ih _ _ _ _ _ _ _ _ _ _ hW (hp2.rr hO) hS (lv_sub hl [2, 3, 4, 5, 6, 7] rfl)
  refine lv_if_ne (tgt := 862) hx hb dL_law_847 (by decide) (fun c_2 => fin) (fun c_2 => ?_)
  have hn := kC_0 (by decide) (ek6.symm.trans c_2)
  have hok := (hp2.2.1 hn).1
  have hv := hf2 hn
  have hPq : va_P D vwCl [(qo, eL cl f2)] H3 := wCons hW.2.2.2.1 (fun k x hx9 => by (cases hx9))
  refine lv_aload_n hx hb dL_law_850 rfl (lv_at hl 5 rfl) ?_
  refine lv_iconst (v := 0) hx hb dL_law_851 (by decide) ?_
  refine va_lald hx hb hK hPq 0 6 rfl rfl (i := 0) vp01 dL_law_852 ?_
  refine lv_iload hx hb dL_law_853 (lv_at hl 0 rfl) ?_
  refine lv_i2l (v := Int32.toInt64 b7) hx hb dL_law_855 rfl ?_
  refine W.lcmp hx hb dL_law_856 ?_
  refine lv_if_eq (tgt := 862) hx hb dL_law_857 (by decide) (fun _ => fin) (fun c_4 => absurd (lg_same (hv.trans (congrArg Int32.toInt64 (hok.trans eb7.symm)))) c_4)
end LCASE
