section LCASE
variable {p : Program} {l : Launch} {e : Env} {s : State} {m : MethodId} {args : Array Value} {below : List Frame} {meth : Method} {c : Code} {H : Heap} {locs : List Loc} {cells slots : Nat} {Q : State → Prop} {ls : Array Slot}
variable {b L : Nat} {xs : Nat → Int32} {D : va_G} {cy : Nat → ClassId} {cl cd : ClassId} {xq ad am : Nat → Nat} {qo qd : Nat} {pm : Nat → Nat} {rj : Option Nat} {rc : Option RC} {σ μ : Nat → Nat → Int32} {f : Nat → Int64} {g : Nat → UInt64} {i B : Nat}
set_option maxHeartbeats 4000000 in
set_option maxRecDepth 100000 in
theorem lc_32 (E0 : LE p l s m c args b L xs D cy cl cd xq) (hi : 7 * i + 7 ≤ L) (hL : L ≤ 3584) (hcl : cells + 60 ≤ 606307) (hsl : slots + 240 ≤ 7176832) (hW : LW s.heap.size D cy ad am qo qd pm rj rc σ μ (eL cl f) (eD cd g) H) (hR : RR B σ pm rc μ) (hB : B ≤ 20 * i + 1) (hS : va_S (fun q => s.heap.size ≤ q) s.heap H locs) (hl : lv_has ls 9 [(0, .ref b), (1, .ref (ad 429)), (2, .ref (am 0)), (3, .ref qo), (4, .ref qd), (5, .int (nI (7 * i)))]) (ih : LIH p l e s m args below meth c D cy cl cd ad am qo qd b i B cells slots Q) : W p l e room_1 s m args below meth c H locs cells slots Q (F0 m 2277 ls []) := by
  obtain ⟨hx, hb, hml, hown, hts, hX, hbl, hst, hK, hE0, hNC⟩ := E0
  have hbA : ¬ (fun q : Nat => s.heap.size ≤ q) b := Nat.not_le.mpr hbl
  obtain ⟨n, t, pi, ro, hbr⟩ := hR.1
  obtain ⟨⟨ch, hc8, hch, -⟩, hpm, -⟩ := hR.2.1
  have hRJ := hR.2.2.2.1
  have hB6 : B + 20 < 1000000 := by omega
  have hA := hW.1
  have hKg := hK.sub (tys' := tyG cy) [0, 1, 2, 3, 4, 5] rfl
  refine lv_aload_n hx hb dL_law_2277 rfl (lv_at hl 1 rfl) ?_
  refine lv_aload_n hx hb dL_law_2278 rfl (lv_at hl 0 rfl) ?_
  refine lv_iload hx hb dL_law_2279 (lv_at hl 5 rfl) ?_
  refine lv_iconst (v := 1) hx hb dL_law_2281 (by decide) ?_
  refine lv_iadd hx hb dL_law_2282 ?_
  refine W.eq (g2 := F0 m 2283 ls [.int (nI (7 * i + 1)), .ref b, .ref (ad 429)]) (congrArg (fun z9 => F0 m 2283 ls [.int z9, .ref b, .ref (ad 429)]) (show nI (7 * i) + 1 = nI (7 * i + 1) from nI_addE rfl (by decide +kernel))) ?_
  refine va_sld hx hb hX hbl hbA hS (i := nI (7 * i + 1)) (vp_in_nI (by omega) (by omega)) dL_law_2283 ?_
  refine lv_aload hx hb dL_law_2284 (lv_at hl 4 rfl) ?_
  refine LW.calld hW (vx_runSW (As := [.ref (ad 429), .int (xs (nI (7 * i + 1)).toNatClampNeg), .ref qd]) (rest := []) ⟨hx, hb, hml, hown, hts⟩ (c_L_averageStride l D ad cy pm rj σ xq hst _ hA.1 (xs (nI (7 * i + 1)).toNatClampNeg) (hbr.avgC _) cl cd qd f g) (vx_cwSW 3 hts gL_law_L_averageStride rfl rfl rfl (by decide +kernel) ⟨Nat.le_of_ble_eq_true rfl, Nat.le_of_ble_eq_true rfl⟩) (lwPre hW.2.1 hW.2.2.2.2.1 hK (lwEX hE0 hA hS) hNC (fun k hk => (hA.2.2.2.1 k hk).2) trivial) rfl rfl hl.1 rfl (lv_room (Nat.le_of_ble_eq_true rfl)) dL_law_2286 ⟨by show cells + 2 ≤ 606307; omega, by show slots + 12 ≤ 7176832; omega⟩) hS (fun H2 locs2 pm2 rj2 rc2 σ2 e2 hW hO hS => ?_)
  refine lv_topi (fun k6 ek6 => ?_)
  refine lv_istore (lv' := [(6, .int k6), (0, .ref b), (1, .ref (ad 429)), (2, .ref (am 0)), (3, .ref qo), (4, .ref qd), (5, .int (nI (7 * i)))]) hx hb dL_law_2289 hl (by decide) rfl (fun ls hl => ?_)
  refine lv_aload_n hx hb dL_law_2291 rfl (lv_at hl 3 rfl) ?_
  refine lv_aload_n hx hb dL_law_2292 rfl (lv_at hl 1 rfl) ?_
  refine lv_iload hx hb dL_law_2293 (lv_at hl 6 rfl) ?_
  refine lv_iconst (v := 1) hx hb dL_law_2295 (by decide) ?_
  refine lv_iadd hx hb dL_law_2296 ?_
  refine W.eq (g2 := F0 m 2297 ls [.int (nI (7 * i + 1)), .ref b, .ref (am 0)]) (congrArg (fun z9 => F0 m 2297 ls [.int z9, .ref b, .ref (am 0)]) (show nI (7 * i) + 1 = nI (7 * i + 1) from nI_addE rfl (by decide +kernel))) ?_
  refine va_sld hx hb hX hbl hbA hS (i := nI (7 * i + 1)) (vp_in_nI (by omega) (by omega)) dL_law_2297 ?_
  refine sp_callm (va_runV (As := [.int (xs (nI (7 * i + 1)).toNatClampNeg)]) (rest := []) ⟨hx, hb, hml, hown, hts⟩ (c_X10_averageStride l D am cy μ _ hA.2.1 n t hbr.1 (xs (nI (7 * i + 1)).toNatClampNeg) (hbr.avgN _)) (cwV 1 hts gL_law_X10_averageStride rfl rfl rfl (by decide +kernel) ⟨Nat.le_of_ble_eq_true rfl, Nat.le_of_ble_eq_true rfl⟩) (sp_preVm hKg hW.2.2.1 (κ := 0) (by decide) mE_0 rfl) rfl rfl hl.1 rfl (lv_room (Nat.le_of_ble_eq_true rfl)) dL_law_2298 ⟨by show cells + 2 + 0 ≤ 606307; omega, by show slots + 12 + 0 ≤ 7176832; omega⟩) hS (fun q _ h => lwAm hA hS q h) (fun q h => lwAm hA hS q h) (fun H3 locs3 hPm hle hfr hS => ?_)
  have hW := hW.model hPm hfr
  refine lv_topd (fun b7 eb7 => ?_)
  refine lv_dstore (lv' := [(7, .double b7), (6, .int k6), (0, .ref b), (1, .ref (ad 429)), (2, .ref (am 0)), (3, .ref qo), (4, .ref qd), (5, .int (nI (7 * i)))]) hx hb dL_law_2301 hl (by decide) rfl (fun ls hl => ?_)
  refine lv_aload_n hx hb dL_law_2303 rfl (lv_at hl 4 rfl) ?_
  refine sp_call (W.runV (As := []) (rest := []) ⟨hx, hb, hml, hown, hts⟩ (c_X10_thrown l D am cy _) (cwV 0 hts gL_law_X10_thrown rfl rfl rfl (by decide +kernel) ⟨Nat.le_of_ble_eq_true rfl, Nat.le_of_ble_eq_true rfl⟩) (sp_preV hKg hW.2.2.1 (κ := 0) (by decide) mE_0 rfl) rfl rfl hl.1 rfl (lv_room (Nat.le_of_ble_eq_true rfl)) dL_law_2304 ⟨by show cells + 2 + 0 + 0 ≤ 606307; omega, by show slots + 12 + 0 + 0 ≤ 7176832; omega⟩) ?_
  refine lv_iload hx hb dL_law_2307 (lv_at hl 1 rfl) ?_
  have hp2 := AG.p2 (ag_avg hbr (xs (nI (7 * i + 1)).toNatClampNeg)) hR hB6
  refine lv_icmp_eq (tgt := 2314) hx hb dL_law_2309 (by decide) (fun c_1 => ?_) (fun c_1 => absurd (hp2.1.trans ek6.symm) c_1)
  refine lv_iload hx hb dL_law_2314 (lv_at hl 1 rfl) ?_
  obtain ⟨f2, rfl, hf2⟩ := outD hO
  have fin : W p l e room_1 s m args below meth c H3 locs3 (cells + 2 + 0) (slots + 12 + 0) Q (F0 m 2351 ls []) := by
    refine lv_goto (tgt := 3617) hx hb dL_law_2351 (by decide) ?_
    refine W.widen (k := cells + 60) (n := slots + 240) (by omega) (by omega) ?_
    exact ih _ _ _ _ _ _ _ _ _ _ hW (hp2.rr hO) hS (lv_sub hl [2, 3, 4, 5, 6, 7] rfl)
  refine lv_if_ne (tgt := 2351) hx hb dL_law_2316 (by decide) (fun c_2 => fin) (fun c_2 => ?_)
  have hn := kC_0 (by decide) (ek6.symm.trans c_2)
  have hok := (hp2.2.1 hn).1
  have hv := hf2 hn
  have hPq : va_P D vwCl [(qd, eD cd f2)] H3 := wCons hW.2.2.2.2.1 (fun k x hx9 => by (cases hx9))
  have hsame : f2 (0 : Int32).toNatClampNeg = b7 := hv.trans (hok.trans eb7.symm)
  refine lv_aload hx hb dL_law_2319 (lv_at hl 6 rfl) ?_
  refine lv_iconst (v := 0) hx hb dL_law_2321 (by decide) ?_
  refine va_dald hx hb hK hPq 0 7 rfl rfl (i := 0) vp01 dL_law_2322 ?_
  refine lv_dload hx hb dL_law_2323 (lv_at hl 0 rfl) ?_
  refine lv_dcmp hx hb dL_law_2325 ?_
  refine lv_if_eq (tgt := 2351) hx hb dL_law_2326 (by decide) (fun _ => fin) (fun c_3 => ?_)
  have hnan : FP.dcmp b7 b7 = none := (dc_self _).resolve_right (fun z => c_3 (by rw [hsame, z]; rfl))
  refine lv_aload hx hb dL_law_2329 (lv_at hl 6 rfl) ?_
  refine lv_iconst (v := 0) hx hb dL_law_2331 (by decide) ?_
  refine va_dald hx hb hK hPq 0 7 rfl rfl (i := 0) vp01 dL_law_2332 ?_
  refine lv_aload hx hb dL_law_2333 (lv_at hl 6 rfl) ?_
  refine lv_iconst (v := 0) hx hb dL_law_2335 (by decide) ?_
  refine va_dald hx hb hK hPq 0 7 rfl rfl (i := 0) vp01 dL_law_2336 ?_
  refine lv_dcmp hx hb dL_law_2337 ?_
  refine lv_if_eq (tgt := 2349) hx hb dL_law_2338 (by decide) (fun c_4 => absurd c_4 (by rw [hsame, hnan]; decide)) (fun _ => ?_)
  refine lv_dload hx hb dL_law_2341 (lv_at hl 0 rfl) ?_
  refine lv_dload hx hb dL_law_2343 (lv_at hl 0 rfl) ?_
  refine lv_dcmp hx hb dL_law_2345 ?_
  refine lv_if_ne (tgt := 2351) hx hb dL_law_2346 (by decide) (fun _ => fin) (fun c_5 => absurd c_5 (by rw [hnan]; decide))
set_option maxHeartbeats 4000000 in
set_option maxRecDepth 100000 in
theorem lc_33 (E0 : LE p l s m c args b L xs D cy cl cd xq) (hi : 7 * i + 7 ≤ L) (hL : L ≤ 3584) (hcl : cells + 60 ≤ 606307) (hsl : slots + 240 ≤ 7176832) (hW : LW s.heap.size D cy ad am qo qd pm rj rc σ μ (eL cl f) (eD cd g) H) (hR : RR B σ pm rc μ) (hB : B ≤ 20 * i + 1) (hS : va_S (fun q => s.heap.size ≤ q) s.heap H locs) (hl : lv_has ls 9 [(0, .ref b), (1, .ref (ad 429)), (2, .ref (am 0)), (3, .ref qo), (4, .ref qd), (5, .int (nI (7 * i)))]) (ih : LIH p l e s m args below meth c D cy cl cd ad am qo qd b i B cells slots Q) : W p l e room_1 s m args below meth c H locs cells slots Q (F0 m 2354 ls []) := by
  obtain ⟨hx, hb, hml, hown, hts, hX, hbl, hst, hK, hE0, hNC⟩ := E0
  have hbA : ¬ (fun q : Nat => s.heap.size ≤ q) b := Nat.not_le.mpr hbl
  obtain ⟨n, t, pi, ro, hbr⟩ := hR.1
  obtain ⟨⟨ch, hc8, hch, -⟩, hpm, -⟩ := hR.2.1
  have hRJ := hR.2.2.2.1
  have hB6 : B + 20 < 1000000 := by omega
  have hA := hW.1
  have hKg := hK.sub (tys' := tyG cy) [0, 1, 2, 3, 4, 5] rfl
  refine lv_aload_n hx hb dL_law_2354 rfl (lv_at hl 1 rfl) ?_
  refine lv_aload_n hx hb dL_law_2355 rfl (lv_at hl 0 rfl) ?_
  refine lv_iload hx hb dL_law_2356 (lv_at hl 5 rfl) ?_
  refine lv_iconst (v := 1) hx hb dL_law_2358 (by decide) ?_
  refine lv_iadd hx hb dL_law_2359 ?_
  refine W.eq (g2 := F0 m 2360 ls [.int (nI (7 * i + 1)), .ref b, .ref (ad 429)]) (congrArg (fun z9 => F0 m 2360 ls [.int z9, .ref b, .ref (ad 429)]) (show nI (7 * i) + 1 = nI (7 * i + 1) from nI_addE rfl (by decide +kernel))) ?_
  refine va_sld hx hb hX hbl hbA hS (i := nI (7 * i + 1)) (vp_in_nI (by omega) (by omega)) dL_law_2360 ?_
  refine lv_aload_n hx hb dL_law_2361 rfl (lv_at hl 0 rfl) ?_
  refine lv_iload hx hb dL_law_2362 (lv_at hl 5 rfl) ?_
  refine lv_iconst (v := 2) hx hb dL_law_2364 (by decide) ?_
  refine lv_iadd hx hb dL_law_2365 ?_
  refine W.eq (g2 := F0 m 2366 ls [.int (nI (7 * i + 2)), .ref b, .int (xs (nI (7 * i + 1)).toNatClampNeg), .ref (ad 429)]) (congrArg (fun z9 => F0 m 2366 ls [.int z9, .ref b, .int (xs (nI (7 * i + 1)).toNatClampNeg), .ref (ad 429)]) (show nI (7 * i) + 2 = nI (7 * i + 2) from nI_addE rfl (by decide +kernel))) ?_
  refine va_sld hx hb hX hbl hbA hS (i := nI (7 * i + 2)) (vp_in_nI (by omega) (by omega)) dL_law_2366 ?_
  refine lv_aload_n hx hb dL_law_2367 rfl (lv_at hl 0 rfl) ?_
  refine lv_iload hx hb dL_law_2368 (lv_at hl 5 rfl) ?_
  refine lv_iconst (v := 3) hx hb dL_law_2370 (by decide) ?_
  refine lv_iadd hx hb dL_law_2371 ?_
  refine W.eq (g2 := F0 m 2372 ls [.int (nI (7 * i + 3)), .ref b, .int (xs (nI (7 * i + 2)).toNatClampNeg), .int (xs (nI (7 * i + 1)).toNatClampNeg), .ref (ad 429)]) (congrArg (fun z9 => F0 m 2372 ls [.int z9, .ref b, .int (xs (nI (7 * i + 2)).toNatClampNeg), .int (xs (nI (7 * i + 1)).toNatClampNeg), .ref (ad 429)]) (show nI (7 * i) + 3 = nI (7 * i + 3) from nI_addE rfl (by decide +kernel))) ?_
  refine va_sld hx hb hX hbl hbA hS (i := nI (7 * i + 3)) (vp_in_nI (by omega) (by omega)) dL_law_2372 ?_
  refine lv_aload_n hx hb dL_law_2373 rfl (lv_at hl 3 rfl) ?_
  refine LW.call hW (vx_runSW (As := [.ref (ad 429), .int (xs (nI (7 * i + 1)).toNatClampNeg), .int (xs (nI (7 * i + 2)).toNatClampNeg), .int (xs (nI (7 * i + 3)).toNatClampNeg), .ref qo]) (rest := []) ⟨hx, hb, hml, hown, hts⟩ (c_L_errorsIfMoved l D ad cy pm rj σ xq hst _ hA.1 (xs (nI (7 * i + 1)).toNatClampNeg) (xs (nI (7 * i + 2)).toNatClampNeg) (xs (nI (7 * i + 3)).toNatClampNeg) cl cd qo f g) (vx_cwSW 5 hts gL_law_L_errorsIfMoved rfl rfl rfl (by decide +kernel) ⟨Nat.le_of_ble_eq_true rfl, Nat.le_of_ble_eq_true rfl⟩) (lwPre hW.2.1 hW.2.2.2.1 hK (lwEX hE0 hA hS) hNC (fun k hk => (hA.2.2.2.1 k hk).1) trivial) rfl rfl hl.1 rfl (lv_room (Nat.le_of_ble_eq_true rfl)) dL_law_2374 ⟨by show cells + 2 ≤ 606307; omega, by show slots + 12 ≤ 7176832; omega⟩) hS (fun H2 locs2 pm2 rj2 rc2 σ2 e2 hW hO hS => ?_)
  refine lv_topi (fun k6 ek6 => ?_)
  refine lv_istore (lv' := [(6, .int k6), (0, .ref b), (1, .ref (ad 429)), (2, .ref (am 0)), (3, .ref qo), (4, .ref qd), (5, .int (nI (7 * i)))]) hx hb dL_law_2377 hl (by decide) rfl (fun ls hl => ?_)
  refine lv_aload_n hx hb dL_law_2379 rfl (lv_at hl 3 rfl) ?_
  refine lv_aload_n hx hb dL_law_2380 rfl (lv_at hl 1 rfl) ?_
  refine lv_iload hx hb dL_law_2381 (lv_at hl 6 rfl) ?_
  refine lv_iconst (v := 1) hx hb dL_law_2383 (by decide) ?_
  refine lv_iadd hx hb dL_law_2384 ?_
  refine W.eq (g2 := F0 m 2385 ls [.int (nI (7 * i + 1)), .ref b, .ref (am 0)]) (congrArg (fun z9 => F0 m 2385 ls [.int z9, .ref b, .ref (am 0)]) (show nI (7 * i) + 1 = nI (7 * i + 1) from nI_addE rfl (by decide +kernel))) ?_
  refine va_sld hx hb hX hbl hbA hS (i := nI (7 * i + 1)) (vp_in_nI (by omega) (by omega)) dL_law_2385 ?_
  refine lv_aload_n hx hb dL_law_2386 rfl (lv_at hl 1 rfl) ?_
  refine lv_iload hx hb dL_law_2387 (lv_at hl 6 rfl) ?_
  refine lv_iconst (v := 2) hx hb dL_law_2389 (by decide) ?_
  refine lv_iadd hx hb dL_law_2390 ?_
  refine W.eq (g2 := F0 m 2391 ls [.int (nI (7 * i + 2)), .ref b, .int (xs (nI (7 * i + 1)).toNatClampNeg), .ref (am 0)]) (congrArg (fun z9 => F0 m 2391 ls [.int z9, .ref b, .int (xs (nI (7 * i + 1)).toNatClampNeg), .ref (am 0)]) (show nI (7 * i) + 2 = nI (7 * i + 2) from nI_addE rfl (by decide +kernel))) ?_
  refine va_sld hx hb hX hbl hbA hS (i := nI (7 * i + 2)) (vp_in_nI (by omega) (by omega)) dL_law_2391 ?_
  refine lv_aload_n hx hb dL_law_2392 rfl (lv_at hl 1 rfl) ?_
  refine lv_iload hx hb dL_law_2393 (lv_at hl 6 rfl) ?_
  refine lv_iconst (v := 3) hx hb dL_law_2395 (by decide) ?_
  refine lv_iadd hx hb dL_law_2396 ?_
  refine W.eq (g2 := F0 m 2397 ls [.int (nI (7 * i + 3)), .ref b, .int (xs (nI (7 * i + 2)).toNatClampNeg), .int (xs (nI (7 * i + 1)).toNatClampNeg), .ref (am 0)]) (congrArg (fun z9 => F0 m 2397 ls [.int z9, .ref b, .int (xs (nI (7 * i + 2)).toNatClampNeg), .int (xs (nI (7 * i + 1)).toNatClampNeg), .ref (am 0)]) (show nI (7 * i) + 3 = nI (7 * i + 3) from nI_addE rfl (by decide +kernel))) ?_
  refine va_sld hx hb hX hbl hbA hS (i := nI (7 * i + 3)) (vp_in_nI (by omega) (by omega)) dL_law_2397 ?_
  refine sp_callm (va_runV (As := [.int (xs (nI (7 * i + 1)).toNatClampNeg), .int (xs (nI (7 * i + 2)).toNatClampNeg), .int (xs (nI (7 * i + 3)).toNatClampNeg)]) (rest := []) ⟨hx, hb, hml, hown, hts⟩ (c_X10_errorsIfMoved l D am cy μ _ hA.2.1 n t hbr.1 (xs (nI (7 * i + 1)).toNatClampNeg) (xs (nI (7 * i + 2)).toNatClampNeg) (xs (nI (7 * i + 3)).toNatClampNeg)) (cwV 3 hts gL_law_X10_errorsIfMoved rfl rfl rfl (by decide +kernel) ⟨Nat.le_of_ble_eq_true rfl, Nat.le_of_ble_eq_true rfl⟩) (sp_preVm hKg hW.2.2.1 (κ := 0) (by decide) mE_0 rfl) rfl rfl hl.1 rfl (lv_room (Nat.le_of_ble_eq_true rfl)) dL_law_2398 ⟨by show cells + 2 + 0 ≤ 606307; omega, by show slots + 12 + 0 ≤ 7176832; omega⟩) hS (fun q _ h => lwAm hA hS q h) (fun q h => lwAm hA hS q h) (fun H3 locs3 hPm hle hfr hS => ?_)
  have hW := hW.model hPm hfr
  refine lv_topi (fun b7 eb7 => ?_)
  refine lv_istore (lv' := [(7, .int b7), (6, .int k6), (0, .ref b), (1, .ref (ad 429)), (2, .ref (am 0)), (3, .ref qo), (4, .ref qd), (5, .int (nI (7 * i)))]) hx hb dL_law_2401 hl (by decide) rfl (fun ls hl => ?_)
  refine lv_aload_n hx hb dL_law_2403 rfl (lv_at hl 4 rfl) ?_
  refine sp_call (W.runV (As := []) (rest := []) ⟨hx, hb, hml, hown, hts⟩ (c_X10_thrown l D am cy _) (cwV 0 hts gL_law_X10_thrown rfl rfl rfl (by decide +kernel) ⟨Nat.le_of_ble_eq_true rfl, Nat.le_of_ble_eq_true rfl⟩) (sp_preV hKg hW.2.2.1 (κ := 0) (by decide) mE_0 rfl) rfl rfl hl.1 rfl (lv_room (Nat.le_of_ble_eq_true rfl)) dL_law_2404 ⟨by show cells + 2 + 0 + 0 ≤ 606307; omega, by show slots + 12 + 0 + 0 ≤ 7176832; omega⟩) ?_
  refine lv_iload hx hb dL_law_2407 (lv_at hl 1 rfl) ?_
  have hp2 := AG.p2 (ag_eim hbr (by omega) (xs (nI (7 * i + 1)).toNatClampNeg) (xs (nI (7 * i + 2)).toNatClampNeg) (xs (nI (7 * i + 3)).toNatClampNeg)) hR hB6
  refine lv_icmp_eq (tgt := 2414) hx hb dL_law_2409 (by decide) (fun c_1 => ?_) (fun c_1 => absurd (hp2.1.trans ek6.symm) c_1)
  refine lv_iload hx hb dL_law_2414 (lv_at hl 1 rfl) ?_
  obtain ⟨f2, rfl, hf2⟩ := outL hO
  have fin : W p l e room_1 s m args below meth c H3 locs3 (cells + 2 + 0) (slots + 12 + 0) Q (F0 m 2431 ls []) := by
    refine lv_goto (tgt := 3617) hx hb dL_law_2431 (by decide) ?_
    refine W.widen (k := cells + 60) (n := slots + 240) (by omega) (by omega) ?_
    exact ih _ _ _ _ _ _ _ _ _ _ hW (hp2.rr hO) hS (lv_sub hl [2, 3, 4, 5, 6, 7] rfl)
  refine lv_if_ne (tgt := 2431) hx hb dL_law_2416 (by decide) (fun c_2 => fin) (fun c_2 => ?_)
  have hn := kC_0 (by decide) (ek6.symm.trans c_2)
  have hok := (hp2.2.1 hn).1
  have hv := hf2 hn
  have hPq : va_P D vwCl [(qo, eL cl f2)] H3 := wCons hW.2.2.2.1 (fun k x hx9 => by (cases hx9))
  refine lv_aload_n hx hb dL_law_2419 rfl (lv_at hl 5 rfl) ?_
  refine lv_iconst (v := 0) hx hb dL_law_2420 (by decide) ?_
  refine va_lald hx hb hK hPq 0 6 rfl rfl (i := 0) vp01 dL_law_2421 ?_
  refine lv_iload hx hb dL_law_2422 (lv_at hl 0 rfl) ?_
  refine lv_i2l (v := Int32.toInt64 b7) hx hb dL_law_2424 rfl ?_
  refine W.lcmp hx hb dL_law_2425 ?_
  refine lv_if_eq (tgt := 2431) hx hb dL_law_2426 (by decide) (fun _ => fin) (fun c_4 => absurd (lg_same (hv.trans (congrArg Int32.toInt64 (hok.trans eb7.symm)))) c_4)
set_option maxHeartbeats 4000000 in
set_option maxRecDepth 100000 in
theorem lc_34 (E0 : LE p l s m c args b L xs D cy cl cd xq) (hi : 7 * i + 7 ≤ L) (hL : L ≤ 3584) (hcl : cells + 60 ≤ 606307) (hsl : slots + 240 ≤ 7176832) (hW : LW s.heap.size D cy ad am qo qd pm rj rc σ μ (eL cl f) (eD cd g) H) (hR : RR B σ pm rc μ) (hB : B ≤ 20 * i + 1) (hS : va_S (fun q => s.heap.size ≤ q) s.heap H locs) (hl : lv_has ls 9 [(0, .ref b), (1, .ref (ad 429)), (2, .ref (am 0)), (3, .ref qo), (4, .ref qd), (5, .int (nI (7 * i)))]) (ih : LIH p l e s m args below meth c D cy cl cd ad am qo qd b i B cells slots Q) : W p l e room_1 s m args below meth c H locs cells slots Q (F0 m 2434 ls []) := by
  obtain ⟨hx, hb, hml, hown, hts, hX, hbl, hst, hK, hE0, hNC⟩ := E0
  have hbA : ¬ (fun q : Nat => s.heap.size ≤ q) b := Nat.not_le.mpr hbl
  obtain ⟨n, t, pi, ro, hbr⟩ := hR.1
  obtain ⟨⟨ch, hc8, hch, -⟩, hpm, -⟩ := hR.2.1
  have hRJ := hR.2.2.2.1
  have hB6 : B + 20 < 1000000 := by omega
  have hA := hW.1
  have hKg := hK.sub (tys' := tyG cy) [0, 1, 2, 3, 4, 5] rfl
  refine lv_aload_n hx hb dL_law_2434 rfl (lv_at hl 1 rfl) ?_
  refine lv_aload_n hx hb dL_law_2435 rfl (lv_at hl 0 rfl) ?_
  refine lv_iload hx hb dL_law_2436 (lv_at hl 5 rfl) ?_
  refine lv_iconst (v := 1) hx hb dL_law_2438 (by decide) ?_
  refine lv_iadd hx hb dL_law_2439 ?_
  refine W.eq (g2 := F0 m 2440 ls [.int (nI (7 * i + 1)), .ref b, .ref (ad 429)]) (congrArg (fun z9 => F0 m 2440 ls [.int z9, .ref b, .ref (ad 429)]) (show nI (7 * i) + 1 = nI (7 * i + 1) from nI_addE rfl (by decide +kernel))) ?_
  refine va_sld hx hb hX hbl hbA hS (i := nI (7 * i + 1)) (vp_in_nI (by omega) (by omega)) dL_law_2440 ?_
  refine lv_aload_n hx hb dL_law_2441 rfl (lv_at hl 0 rfl) ?_
  refine lv_iload hx hb dL_law_2442 (lv_at hl 5 rfl) ?_
  refine lv_iconst (v := 2) hx hb dL_law_2444 (by decide) ?_
  refine lv_iadd hx hb dL_law_2445 ?_
  refine W.eq (g2 := F0 m 2446 ls [.int (nI (7 * i + 2)), .ref b, .int (xs (nI (7 * i + 1)).toNatClampNeg), .ref (ad 429)]) (congrArg (fun z9 => F0 m 2446 ls [.int z9, .ref b, .int (xs (nI (7 * i + 1)).toNatClampNeg), .ref (ad 429)]) (show nI (7 * i) + 2 = nI (7 * i + 2) from nI_addE rfl (by decide +kernel))) ?_
  refine va_sld hx hb hX hbl hbA hS (i := nI (7 * i + 2)) (vp_in_nI (by omega) (by omega)) dL_law_2446 ?_
  refine lv_aload_n hx hb dL_law_2447 rfl (lv_at hl 0 rfl) ?_
  refine lv_iload hx hb dL_law_2448 (lv_at hl 5 rfl) ?_
  refine lv_iconst (v := 3) hx hb dL_law_2450 (by decide) ?_
  refine lv_iadd hx hb dL_law_2451 ?_
  refine W.eq (g2 := F0 m 2452 ls [.int (nI (7 * i + 3)), .ref b, .int (xs (nI (7 * i + 2)).toNatClampNeg), .int (xs (nI (7 * i + 1)).toNatClampNeg), .ref (ad 429)]) (congrArg (fun z9 => F0 m 2452 ls [.int z9, .ref b, .int (xs (nI (7 * i + 2)).toNatClampNeg), .int (xs (nI (7 * i + 1)).toNatClampNeg), .ref (ad 429)]) (show nI (7 * i) + 3 = nI (7 * i + 3) from nI_addE rfl (by decide +kernel))) ?_
  refine va_sld hx hb hX hbl hbA hS (i := nI (7 * i + 3)) (vp_in_nI (by omega) (by omega)) dL_law_2452 ?_
  refine lv_aload_n hx hb dL_law_2453 rfl (lv_at hl 3 rfl) ?_
  refine LW.call hW (vx_runSW (As := [.ref (ad 429), .int (xs (nI (7 * i + 1)).toNatClampNeg), .int (xs (nI (7 * i + 2)).toNatClampNeg), .int (xs (nI (7 * i + 3)).toNatClampNeg), .ref qo]) (rest := []) ⟨hx, hb, hml, hown, hts⟩ (c_L_canMove l D ad cy pm rj σ xq hst _ hA.1 (xs (nI (7 * i + 1)).toNatClampNeg) (xs (nI (7 * i + 2)).toNatClampNeg) (xs (nI (7 * i + 3)).toNatClampNeg) cl cd qo f g) (vx_cwSW 5 hts gL_law_L_canMove rfl rfl rfl (by decide +kernel) ⟨Nat.le_of_ble_eq_true rfl, Nat.le_of_ble_eq_true rfl⟩) (lwPre hW.2.1 hW.2.2.2.1 hK (lwEX hE0 hA hS) hNC (fun k hk => (hA.2.2.2.1 k hk).1) trivial) rfl rfl hl.1 rfl (lv_room (Nat.le_of_ble_eq_true rfl)) dL_law_2454 ⟨by show cells + 3 ≤ 606307; omega, by show slots + 15 ≤ 7176832; omega⟩) hS (fun H2 locs2 pm2 rj2 rc2 σ2 e2 hW hO hS => ?_)
  refine lv_topi (fun k6 ek6 => ?_)
  refine lv_istore (lv' := [(6, .int k6), (0, .ref b), (1, .ref (ad 429)), (2, .ref (am 0)), (3, .ref qo), (4, .ref qd), (5, .int (nI (7 * i)))]) hx hb dL_law_2457 hl (by decide) rfl (fun ls hl => ?_)
  refine lv_aload_n hx hb dL_law_2459 rfl (lv_at hl 3 rfl) ?_
  refine lv_aload_n hx hb dL_law_2460 rfl (lv_at hl 1 rfl) ?_
  refine lv_iload hx hb dL_law_2461 (lv_at hl 6 rfl) ?_
  refine lv_iconst (v := 1) hx hb dL_law_2463 (by decide) ?_
  refine lv_iadd hx hb dL_law_2464 ?_
  refine W.eq (g2 := F0 m 2465 ls [.int (nI (7 * i + 1)), .ref b, .ref (am 0)]) (congrArg (fun z9 => F0 m 2465 ls [.int z9, .ref b, .ref (am 0)]) (show nI (7 * i) + 1 = nI (7 * i + 1) from nI_addE rfl (by decide +kernel))) ?_
  refine va_sld hx hb hX hbl hbA hS (i := nI (7 * i + 1)) (vp_in_nI (by omega) (by omega)) dL_law_2465 ?_
  refine lv_aload_n hx hb dL_law_2466 rfl (lv_at hl 1 rfl) ?_
  refine lv_iload hx hb dL_law_2467 (lv_at hl 6 rfl) ?_
  refine lv_iconst (v := 2) hx hb dL_law_2469 (by decide) ?_
  refine lv_iadd hx hb dL_law_2470 ?_
  refine W.eq (g2 := F0 m 2471 ls [.int (nI (7 * i + 2)), .ref b, .int (xs (nI (7 * i + 1)).toNatClampNeg), .ref (am 0)]) (congrArg (fun z9 => F0 m 2471 ls [.int z9, .ref b, .int (xs (nI (7 * i + 1)).toNatClampNeg), .ref (am 0)]) (show nI (7 * i) + 2 = nI (7 * i + 2) from nI_addE rfl (by decide +kernel))) ?_
  refine va_sld hx hb hX hbl hbA hS (i := nI (7 * i + 2)) (vp_in_nI (by omega) (by omega)) dL_law_2471 ?_
  refine lv_aload_n hx hb dL_law_2472 rfl (lv_at hl 1 rfl) ?_
  refine lv_iload hx hb dL_law_2473 (lv_at hl 6 rfl) ?_
  refine lv_iconst (v := 3) hx hb dL_law_2475 (by decide) ?_
  refine lv_iadd hx hb dL_law_2476 ?_
  refine W.eq (g2 := F0 m 2477 ls [.int (nI (7 * i + 3)), .ref b, .int (xs (nI (7 * i + 2)).toNatClampNeg), .int (xs (nI (7 * i + 1)).toNatClampNeg), .ref (am 0)]) (congrArg (fun z9 => F0 m 2477 ls [.int z9, .ref b, .int (xs (nI (7 * i + 2)).toNatClampNeg), .int (xs (nI (7 * i + 1)).toNatClampNeg), .ref (am 0)]) (show nI (7 * i) + 3 = nI (7 * i + 3) from nI_addE rfl (by decide +kernel))) ?_
  refine va_sld hx hb hX hbl hbA hS (i := nI (7 * i + 3)) (vp_in_nI (by omega) (by omega)) dL_law_2477 ?_
  refine sp_callm (va_runV (As := [.int (xs (nI (7 * i + 1)).toNatClampNeg), .int (xs (nI (7 * i + 2)).toNatClampNeg), .int (xs (nI (7 * i + 3)).toNatClampNeg)]) (rest := []) ⟨hx, hb, hml, hown, hts⟩ (c_X10_canMove l D am cy μ _ hA.2.1 n t hbr.1 (xs (nI (7 * i + 1)).toNatClampNeg) (xs (nI (7 * i + 2)).toNatClampNeg) (xs (nI (7 * i + 3)).toNatClampNeg)) (cwV 3 hts gL_law_X10_canMove rfl rfl rfl (by decide +kernel) ⟨Nat.le_of_ble_eq_true rfl, Nat.le_of_ble_eq_true rfl⟩) (sp_preVm hKg hW.2.2.1 (κ := 0) (by decide) mE_0 rfl) rfl rfl hl.1 rfl (lv_room (Nat.le_of_ble_eq_true rfl)) dL_law_2478 ⟨by show cells + 3 + 0 ≤ 606307; omega, by show slots + 15 + 0 ≤ 7176832; omega⟩) hS (fun q _ h => lwAm hA hS q h) (fun q h => lwAm hA hS q h) (fun H3 locs3 hPm hle hfr hS => ?_)
  have hW := hW.model hPm hfr
  refine lv_topi (fun b7 eb7 => ?_)
  refine lv_istore (lv' := [(7, .int b7), (6, .int k6), (0, .ref b), (1, .ref (ad 429)), (2, .ref (am 0)), (3, .ref qo), (4, .ref qd), (5, .int (nI (7 * i)))]) hx hb dL_law_2481 hl (by decide) rfl (fun ls hl => ?_)
  refine lv_aload_n hx hb dL_law_2483 rfl (lv_at hl 4 rfl) ?_
  refine sp_call (W.runV (As := []) (rest := []) ⟨hx, hb, hml, hown, hts⟩ (c_X10_thrown l D am cy _) (cwV 0 hts gL_law_X10_thrown rfl rfl rfl (by decide +kernel) ⟨Nat.le_of_ble_eq_true rfl, Nat.le_of_ble_eq_true rfl⟩) (sp_preV hKg hW.2.2.1 (κ := 0) (by decide) mE_0 rfl) rfl rfl hl.1 rfl (lv_room (Nat.le_of_ble_eq_true rfl)) dL_law_2484 ⟨by show cells + 3 + 0 + 0 ≤ 606307; omega, by show slots + 15 + 0 + 0 ≤ 7176832; omega⟩) ?_
  refine lv_iload hx hb dL_law_2487 (lv_at hl 1 rfl) ?_
  have hp2 := AG.p2 (ag_can hbr (by omega) (xs (nI (7 * i + 1)).toNatClampNeg) (xs (nI (7 * i + 2)).toNatClampNeg) (xs (nI (7 * i + 3)).toNatClampNeg)) hR hB6
  refine lv_icmp_eq (tgt := 2494) hx hb dL_law_2489 (by decide) (fun c_1 => ?_) (fun c_1 => absurd (hp2.1.trans ek6.symm) c_1)
  refine lv_iload hx hb dL_law_2494 (lv_at hl 1 rfl) ?_
  obtain ⟨f2, rfl, hf2⟩ := outL hO
  have fin : W p l e room_1 s m args below meth c H3 locs3 (cells + 3 + 0) (slots + 15 + 0) Q (F0 m 2518 ls []) := by
    refine lv_goto (tgt := 3617) hx hb dL_law_2518 (by decide) ?_
    refine W.widen (k := cells + 60) (n := slots + 240) (by omega) (by omega) ?_
    exact ih _ _ _ _ _ _ _ _ _ _ hW (hp2.rr hO) hS (lv_sub hl [2, 3, 4, 5, 6, 7] rfl)
  refine lv_if_ne (tgt := 2518) hx hb dL_law_2496 (by decide) (fun c_2 => fin) (fun c_2 => ?_)
  have hn := kC_0 (by decide) (ek6.symm.trans c_2)
  have hok := (hp2.2.1 hn).1
  have hv := hf2 hn
  have hPq : va_P D vwCl [(qo, eL cl f2)] H3 := wCons hW.2.2.2.1 (fun k x hx9 => by (cases hx9))
  refine lv_aload_n hx hb dL_law_2499 rfl (lv_at hl 5 rfl) ?_
  refine lv_iconst (v := 0) hx hb dL_law_2500 (by decide) ?_
  refine va_lald hx hb hK hPq 0 6 rfl rfl (i := 0) vp01 dL_law_2501 ?_
  refine lv_iload hx hb dL_law_2502 (lv_at hl 0 rfl) ?_
  have hb7 : b7 = 0 ∨ b7 = 1 := by rw [eb7]; exact b2i_01 _
  suffices key : W p l e room_1 s m args below meth c H3 locs3 (cells + 3 + 0) (slots + 15 + 0) Q (F0 m 2512 ls [.long (Int32.toInt64 b7), .long (f2 (0 : Int32).toNatClampNeg)]) by
    refine lv_if_eq (tgt := 2511) hx hb dL_law_2504 (by decide) (fun c_3 => ?_) (fun c_3 => ?_)
    · refine lv_lconst (v := 0) hx hb dL_law_2511 rfl ?_
      exact W.eq (g2 := F0 m 2512 ls [.long (Int32.toInt64 b7), .long (f2 (0 : Int32).toNatClampNeg)]) (by rw [c_3]; rfl) key
    · refine lv_lconst (v := 1) hx hb dL_law_2507 rfl ?_
      refine lv_goto (tgt := 2512) hx hb dL_law_2508 (by decide) ?_
      exact W.eq (g2 := F0 m 2512 ls [.long (Int32.toInt64 b7), .long (f2 (0 : Int32).toNatClampNeg)]) (by rw [hb7.resolve_left c_3]; rfl) key
  refine W.lcmp hx hb dL_law_2512 ?_
  refine lv_if_eq (tgt := 2518) hx hb dL_law_2513 (by decide) (fun _ => fin) (fun c_4 => absurd (lg_same (hv.trans (congrArg Int32.toInt64 (hok.trans eb7.symm)))) c_4)
set_option maxHeartbeats 4000000 in
set_option maxRecDepth 100000 in
theorem lc_35 (E0 : LE p l s m c args b L xs D cy cl cd xq) (hi : 7 * i + 7 ≤ L) (hL : L ≤ 3584) (hcl : cells + 60 ≤ 606307) (hsl : slots + 240 ≤ 7176832) (hW : LW s.heap.size D cy ad am qo qd pm rj rc σ μ (eL cl f) (eD cd g) H) (hR : RR B σ pm rc μ) (hB : B ≤ 20 * i + 1) (hS : va_S (fun q => s.heap.size ≤ q) s.heap H locs) (hl : lv_has ls 9 [(0, .ref b), (1, .ref (ad 429)), (2, .ref (am 0)), (3, .ref qo), (4, .ref qd), (5, .int (nI (7 * i)))]) (ih : LIH p l e s m args below meth c D cy cl cd ad am qo qd b i B cells slots Q) : W p l e room_1 s m args below meth c H locs cells slots Q (F0 m 2521 ls []) := by
  obtain ⟨hx, hb, hml, hown, hts, hX, hbl, hst, hK, hE0, hNC⟩ := E0
  have hbA : ¬ (fun q : Nat => s.heap.size ≤ q) b := Nat.not_le.mpr hbl
  obtain ⟨n, t, pi, ro, hbr⟩ := hR.1
  obtain ⟨⟨ch, hc8, hch, -⟩, hpm, -⟩ := hR.2.1
  have hRJ := hR.2.2.2.1
  have hB6 : B + 20 < 1000000 := by omega
  have hA := hW.1
  have hKg := hK.sub (tys' := tyG cy) [0, 1, 2, 3, 4, 5] rfl
  refine lv_aload_n hx hb dL_law_2521 rfl (lv_at hl 1 rfl) ?_
  refine lv_aload_n hx hb dL_law_2522 rfl (lv_at hl 0 rfl) ?_
  refine lv_iload hx hb dL_law_2523 (lv_at hl 5 rfl) ?_
  refine lv_iconst (v := 1) hx hb dL_law_2525 (by decide) ?_
  refine lv_iadd hx hb dL_law_2526 ?_
  refine W.eq (g2 := F0 m 2527 ls [.int (nI (7 * i + 1)), .ref b, .ref (ad 429)]) (congrArg (fun z9 => F0 m 2527 ls [.int z9, .ref b, .ref (ad 429)]) (show nI (7 * i) + 1 = nI (7 * i + 1) from nI_addE rfl (by decide +kernel))) ?_
  refine va_sld hx hb hX hbl hbA hS (i := nI (7 * i + 1)) (vp_in_nI (by omega) (by omega)) dL_law_2527 ?_
  refine lv_aload_n hx hb dL_law_2528 rfl (lv_at hl 3 rfl) ?_
  refine LW.call hW (vx_runSW (As := [.ref (ad 429), .int (xs (nI (7 * i + 1)).toNatClampNeg), .ref qo]) (rest := []) ⟨hx, hb, hml, hown, hts⟩ (c_L_suggestCell l D ad cy pm rj σ xq hst _ hA.1 (xs (nI (7 * i + 1)).toNatClampNeg) cl cd qo f g) (vx_cwSW 3 hts gL_law_L_suggestCell rfl rfl rfl (by decide +kernel) ⟨Nat.le_of_ble_eq_true rfl, Nat.le_of_ble_eq_true rfl⟩) (lwPre hW.2.1 hW.2.2.2.1 hK (lwEX hE0 hA hS) hNC (fun k hk => (hA.2.2.2.1 k hk).1) trivial) rfl rfl hl.1 rfl (lv_room (Nat.le_of_ble_eq_true rfl)) dL_law_2529 ⟨by show cells + 26 ≤ 606307; omega, by show slots + 81 ≤ 7176832; omega⟩) hS (fun H2 locs2 pm2 rj2 rc2 σ2 e2 hW hO hS => ?_)
  refine lv_topi (fun k6 ek6 => ?_)
  refine lv_istore (lv' := [(6, .int k6), (0, .ref b), (1, .ref (ad 429)), (2, .ref (am 0)), (3, .ref qo), (4, .ref qd), (5, .int (nI (7 * i)))]) hx hb dL_law_2532 hl (by decide) rfl (fun ls hl => ?_)
  refine lv_aload_n hx hb dL_law_2534 rfl (lv_at hl 3 rfl) ?_
  refine lv_aload_n hx hb dL_law_2535 rfl (lv_at hl 1 rfl) ?_
  refine lv_iload hx hb dL_law_2536 (lv_at hl 6 rfl) ?_
  refine lv_iconst (v := 1) hx hb dL_law_2538 (by decide) ?_
  refine lv_iadd hx hb dL_law_2539 ?_
  refine W.eq (g2 := F0 m 2540 ls [.int (nI (7 * i + 1)), .ref b, .ref (am 0)]) (congrArg (fun z9 => F0 m 2540 ls [.int z9, .ref b, .ref (am 0)]) (show nI (7 * i) + 1 = nI (7 * i + 1) from nI_addE rfl (by decide +kernel))) ?_
  refine va_sld hx hb hX hbl hbA hS (i := nI (7 * i + 1)) (vp_in_nI (by omega) (by omega)) dL_law_2540 ?_
  refine sp_callm (va_runV (As := [.int (xs (nI (7 * i + 1)).toNatClampNeg)]) (rest := []) ⟨hx, hb, hml, hown, hts⟩ (c_X10_suggestCell l D am cy μ _ hA.2.1 n t hbr.1 (xs (nI (7 * i + 1)).toNatClampNeg)) (cwV 1 hts gL_law_X10_suggestCell rfl rfl rfl (by decide +kernel) ⟨Nat.le_of_ble_eq_true rfl, Nat.le_of_ble_eq_true rfl⟩) (sp_preVm hKg hW.2.2.1 (κ := 0) (by decide) mE_0 rfl) rfl rfl hl.1 rfl (lv_room (Nat.le_of_ble_eq_true rfl)) dL_law_2541 ⟨by show cells + 26 + 0 ≤ 606307; omega, by show slots + 81 + 0 ≤ 7176832; omega⟩) hS (fun q _ h => lwAm hA hS q h) (fun q h => lwAm hA hS q h) (fun H3 locs3 hPm hle hfr hS => ?_)
  have hW := hW.model hPm hfr
  refine lv_topi (fun b7 eb7 => ?_)
  refine lv_istore (lv' := [(7, .int b7), (6, .int k6), (0, .ref b), (1, .ref (ad 429)), (2, .ref (am 0)), (3, .ref qo), (4, .ref qd), (5, .int (nI (7 * i)))]) hx hb dL_law_2544 hl (by decide) rfl (fun ls hl => ?_)
  refine lv_aload_n hx hb dL_law_2546 rfl (lv_at hl 4 rfl) ?_
  refine sp_call (W.runV (As := []) (rest := []) ⟨hx, hb, hml, hown, hts⟩ (c_X10_thrown l D am cy _) (cwV 0 hts gL_law_X10_thrown rfl rfl rfl (by decide +kernel) ⟨Nat.le_of_ble_eq_true rfl, Nat.le_of_ble_eq_true rfl⟩) (sp_preV hKg hW.2.2.1 (κ := 0) (by decide) mE_0 rfl) rfl rfl hl.1 rfl (lv_room (Nat.le_of_ble_eq_true rfl)) dL_law_2547 ⟨by show cells + 26 + 0 + 0 ≤ 606307; omega, by show slots + 81 + 0 + 0 ≤ 7176832; omega⟩) ?_
  refine lv_iload hx hb dL_law_2550 (lv_at hl 1 rfl) ?_
  have hp2 := AG.p2 (ag_sug hbr (by omega) (xs (nI (7 * i + 1)).toNatClampNeg)) hR hB6
  refine lv_icmp_eq (tgt := 2557) hx hb dL_law_2552 (by decide) (fun c_1 => ?_) (fun c_1 => absurd (hp2.1.trans ek6.symm) c_1)
  refine lv_iload hx hb dL_law_2557 (lv_at hl 1 rfl) ?_
  obtain ⟨f2, rfl, hf2⟩ := outL hO
  have fin : W p l e room_1 s m args below meth c H3 locs3 (cells + 26 + 0) (slots + 81 + 0) Q (F0 m 2574 ls []) := by
    refine lv_goto (tgt := 3617) hx hb dL_law_2574 (by decide) ?_
    refine W.widen (k := cells + 60) (n := slots + 240) (by omega) (by omega) ?_
    exact ih _ _ _ _ _ _ _ _ _ _ hW (hp2.rr hO) hS (lv_sub hl [2, 3, 4, 5, 6, 7] rfl)
  refine lv_if_ne (tgt := 2574) hx hb dL_law_2559 (by decide) (fun c_2 => fin) (fun c_2 => ?_)
  have hn := kC_0 (by decide) (ek6.symm.trans c_2)
  have hok := (hp2.2.1 hn).1
  have hv := hf2 hn
  have hPq : va_P D vwCl [(qo, eL cl f2)] H3 := wCons hW.2.2.2.1 (fun k x hx9 => by (cases hx9))
  refine lv_aload_n hx hb dL_law_2562 rfl (lv_at hl 5 rfl) ?_
  refine lv_iconst (v := 0) hx hb dL_law_2563 (by decide) ?_
  refine va_lald hx hb hK hPq 0 6 rfl rfl (i := 0) vp01 dL_law_2564 ?_
  refine lv_iload hx hb dL_law_2565 (lv_at hl 0 rfl) ?_
  refine lv_i2l (v := Int32.toInt64 b7) hx hb dL_law_2567 rfl ?_
  refine W.lcmp hx hb dL_law_2568 ?_
  refine lv_if_eq (tgt := 2574) hx hb dL_law_2569 (by decide) (fun _ => fin) (fun c_4 => absurd (lg_same (hv.trans (congrArg Int32.toInt64 (hok.trans eb7.symm)))) c_4)
set_option maxHeartbeats 4000000 in
set_option maxRecDepth 100000 in
theorem lc_36 (E0 : LE p l s m c args b L xs D cy cl cd xq) (hi : 7 * i + 7 ≤ L) (hL : L ≤ 3584) (hcl : cells + 60 ≤ 606307) (hsl : slots + 240 ≤ 7176832) (hW : LW s.heap.size D cy ad am qo qd pm rj rc σ μ (eL cl f) (eD cd g) H) (hR : RR B σ pm rc μ) (hB : B ≤ 20 * i + 1) (hS : va_S (fun q => s.heap.size ≤ q) s.heap H locs) (hl : lv_has ls 9 [(0, .ref b), (1, .ref (ad 429)), (2, .ref (am 0)), (3, .ref qo), (4, .ref qd), (5, .int (nI (7 * i)))]) (ih : LIH p l e s m args below meth c D cy cl cd ad am qo qd b i B cells slots Q) : W p l e room_1 s m args below meth c H locs cells slots Q (F0 m 2577 ls []) := by
  obtain ⟨hx, hb, hml, hown, hts, hX, hbl, hst, hK, hE0, hNC⟩ := E0
  have hbA : ¬ (fun q : Nat => s.heap.size ≤ q) b := Nat.not_le.mpr hbl
  obtain ⟨n, t, pi, ro, hbr⟩ := hR.1
  obtain ⟨⟨ch, hc8, hch, -⟩, hpm, -⟩ := hR.2.1
  have hRJ := hR.2.2.2.1
  have hB6 : B + 20 < 1000000 := by omega
  have hA := hW.1
  have hKg := hK.sub (tys' := tyG cy) [0, 1, 2, 3, 4, 5] rfl
  refine lv_aload_n hx hb dL_law_2577 rfl (lv_at hl 1 rfl) ?_
  refine lv_aload_n hx hb dL_law_2578 rfl (lv_at hl 0 rfl) ?_
  refine lv_iload hx hb dL_law_2579 (lv_at hl 5 rfl) ?_
  refine lv_iconst (v := 1) hx hb dL_law_2581 (by decide) ?_
  refine lv_iadd hx hb dL_law_2582 ?_
  refine W.eq (g2 := F0 m 2583 ls [.int (nI (7 * i + 1)), .ref b, .ref (ad 429)]) (congrArg (fun z9 => F0 m 2583 ls [.int z9, .ref b, .ref (ad 429)]) (show nI (7 * i) + 1 = nI (7 * i + 1) from nI_addE rfl (by decide +kernel))) ?_
  refine va_sld hx hb hX hbl hbA hS (i := nI (7 * i + 1)) (vp_in_nI (by omega) (by omega)) dL_law_2583 ?_
  refine lv_aload_n hx hb dL_law_2584 rfl (lv_at hl 3 rfl) ?_
  refine LW.call hW (vx_runSW (As := [.ref (ad 429), .int (xs (nI (7 * i + 1)).toNatClampNeg), .ref qo]) (rest := []) ⟨hx, hb, hml, hown, hts⟩ (c_L_trackByErrors l D ad cy pm rj σ xq hst _ hA.1 (xs (nI (7 * i + 1)).toNatClampNeg) cl cd qo f g) (vx_cwSW 3 hts gL_law_L_trackByErrors rfl rfl rfl (by decide +kernel) ⟨Nat.le_of_ble_eq_true rfl, Nat.le_of_ble_eq_true rfl⟩) (lwPre hW.2.1 hW.2.2.2.1 hK (lwEX hE0 hA hS) hNC (fun k hk => (hA.2.2.2.1 k hk).1) trivial) rfl rfl hl.1 rfl (lv_room (Nat.le_of_ble_eq_true rfl)) dL_law_2585 ⟨by show cells + 1 ≤ 606307; omega, by show slots + 6 ≤ 7176832; omega⟩) hS (fun H2 locs2 pm2 rj2 rc2 σ2 e2 hW hO hS => ?_)
  refine lv_topi (fun k6 ek6 => ?_)
  refine lv_istore (lv' := [(6, .int k6), (0, .ref b), (1, .ref (ad 429)), (2, .ref (am 0)), (3, .ref qo), (4, .ref qd), (5, .int (nI (7 * i)))]) hx hb dL_law_2588 hl (by decide) rfl (fun ls hl => ?_)
  refine lv_aload_n hx hb dL_law_2590 rfl (lv_at hl 3 rfl) ?_
  refine lv_aload_n hx hb dL_law_2591 rfl (lv_at hl 1 rfl) ?_
  refine lv_iload hx hb dL_law_2592 (lv_at hl 6 rfl) ?_
  refine lv_iconst (v := 1) hx hb dL_law_2594 (by decide) ?_
  refine lv_iadd hx hb dL_law_2595 ?_
  refine W.eq (g2 := F0 m 2596 ls [.int (nI (7 * i + 1)), .ref b, .ref (am 0)]) (congrArg (fun z9 => F0 m 2596 ls [.int z9, .ref b, .ref (am 0)]) (show nI (7 * i) + 1 = nI (7 * i + 1) from nI_addE rfl (by decide +kernel))) ?_
  refine va_sld hx hb hX hbl hbA hS (i := nI (7 * i + 1)) (vp_in_nI (by omega) (by omega)) dL_law_2596 ?_
  refine sp_callm (va_runV (As := [.int (xs (nI (7 * i + 1)).toNatClampNeg)]) (rest := []) ⟨hx, hb, hml, hown, hts⟩ (c_X10_trackByErrors l D am cy μ _ hA.2.1 n t hbr.1 (xs (nI (7 * i + 1)).toNatClampNeg)) (cwV 1 hts gL_law_X10_trackByErrors rfl rfl rfl (by decide +kernel) ⟨Nat.le_of_ble_eq_true rfl, Nat.le_of_ble_eq_true rfl⟩) (sp_preVm hKg hW.2.2.1 (κ := 0) (by decide) mE_0 rfl) rfl rfl hl.1 rfl (lv_room (Nat.le_of_ble_eq_true rfl)) dL_law_2597 ⟨by show cells + 1 + 0 ≤ 606307; omega, by show slots + 6 + 0 ≤ 7176832; omega⟩) hS (fun q _ h => lwAm hA hS q h) (fun q h => lwAm hA hS q h) (fun H3 locs3 hPm hle hfr hS => ?_)
  have hW := hW.model hPm hfr
  refine lv_topi (fun b7 eb7 => ?_)
  refine lv_istore (lv' := [(7, .int b7), (6, .int k6), (0, .ref b), (1, .ref (ad 429)), (2, .ref (am 0)), (3, .ref qo), (4, .ref qd), (5, .int (nI (7 * i)))]) hx hb dL_law_2600 hl (by decide) rfl (fun ls hl => ?_)
  refine lv_aload_n hx hb dL_law_2602 rfl (lv_at hl 4 rfl) ?_
  refine sp_call (W.runV (As := []) (rest := []) ⟨hx, hb, hml, hown, hts⟩ (c_X10_thrown l D am cy _) (cwV 0 hts gL_law_X10_thrown rfl rfl rfl (by decide +kernel) ⟨Nat.le_of_ble_eq_true rfl, Nat.le_of_ble_eq_true rfl⟩) (sp_preV hKg hW.2.2.1 (κ := 0) (by decide) mE_0 rfl) rfl rfl hl.1 rfl (lv_room (Nat.le_of_ble_eq_true rfl)) dL_law_2603 ⟨by show cells + 1 + 0 + 0 ≤ 606307; omega, by show slots + 6 + 0 + 0 ≤ 7176832; omega⟩) ?_
  refine lv_iload hx hb dL_law_2606 (lv_at hl 1 rfl) ?_
  have hp2 := AG.p2 (ag_tbe hbr (xs (nI (7 * i + 1)).toNatClampNeg)) hR hB6
  refine lv_icmp_eq (tgt := 2613) hx hb dL_law_2608 (by decide) (fun c_1 => ?_) (fun c_1 => absurd (hp2.1.trans ek6.symm) c_1)
  refine lv_iload hx hb dL_law_2613 (lv_at hl 1 rfl) ?_
  obtain ⟨f2, rfl, hf2⟩ := outL hO
  have fin : W p l e room_1 s m args below meth c H3 locs3 (cells + 1 + 0) (slots + 6 + 0) Q (F0 m 2630 ls []) := by
    refine lv_goto (tgt := 3617) hx hb dL_law_2630 (by decide) ?_
    refine W.widen (k := cells + 60) (n := slots + 240) (by omega) (by omega) ?_
    exact ih _ _ _ _ _ _ _ _ _ _ hW (hp2.rr hO) hS (lv_sub hl [2, 3, 4, 5, 6, 7] rfl)
  refine lv_if_ne (tgt := 2630) hx hb dL_law_2615 (by decide) (fun c_2 => fin) (fun c_2 => ?_)
  have hn := kC_0 (by decide) (ek6.symm.trans c_2)
  have hok := (hp2.2.1 hn).1
  have hv := hf2 hn
  have hPq : va_P D vwCl [(qo, eL cl f2)] H3 := wCons hW.2.2.2.1 (fun k x hx9 => by (cases hx9))
  refine lv_aload_n hx hb dL_law_2618 rfl (lv_at hl 5 rfl) ?_
  refine lv_iconst (v := 0) hx hb dL_law_2619 (by decide) ?_
  refine va_lald hx hb hK hPq 0 6 rfl rfl (i := 0) vp01 dL_law_2620 ?_
  refine lv_iload hx hb dL_law_2621 (lv_at hl 0 rfl) ?_
  refine lv_i2l (v := Int32.toInt64 b7) hx hb dL_law_2623 rfl ?_
  refine W.lcmp hx hb dL_law_2624 ?_
  refine lv_if_eq (tgt := 2630) hx hb dL_law_2625 (by decide) (fun _ => fin) (fun c_4 => absurd (lg_same (hv.trans (congrArg Int32.toInt64 (hok.trans eb7.symm)))) c_4)
set_option maxHeartbeats 4000000 in
set_option maxRecDepth 100000 in
theorem lc_37 (E0 : LE p l s m c args b L xs D cy cl cd xq) (hi : 7 * i + 7 ≤ L) (hL : L ≤ 3584) (hcl : cells + 60 ≤ 606307) (hsl : slots + 240 ≤ 7176832) (hW : LW s.heap.size D cy ad am qo qd pm rj rc σ μ (eL cl f) (eD cd g) H) (hR : RR B σ pm rc μ) (hB : B ≤ 20 * i + 1) (hS : va_S (fun q => s.heap.size ≤ q) s.heap H locs) (hl : lv_has ls 9 [(0, .ref b), (1, .ref (ad 429)), (2, .ref (am 0)), (3, .ref qo), (4, .ref qd), (5, .int (nI (7 * i)))]) (ih : LIH p l e s m args below meth c D cy cl cd ad am qo qd b i B cells slots Q) : W p l e room_1 s m args below meth c H locs cells slots Q (F0 m 2633 ls []) := by
  obtain ⟨hx, hb, hml, hown, hts, hX, hbl, hst, hK, hE0, hNC⟩ := E0
  have hbA : ¬ (fun q : Nat => s.heap.size ≤ q) b := Nat.not_le.mpr hbl
  obtain ⟨n, t, pi, ro, hbr⟩ := hR.1
  obtain ⟨⟨ch, hc8, hch, -⟩, hpm, -⟩ := hR.2.1
  have hRJ := hR.2.2.2.1
  have hB6 : B + 20 < 1000000 := by omega
  have hA := hW.1
  have hKg := hK.sub (tys' := tyG cy) [0, 1, 2, 3, 4, 5] rfl
  refine lv_aload_n hx hb dL_law_2633 rfl (lv_at hl 1 rfl) ?_
  refine lv_aload_n hx hb dL_law_2634 rfl (lv_at hl 0 rfl) ?_
  refine lv_iload hx hb dL_law_2635 (lv_at hl 5 rfl) ?_
  refine lv_iconst (v := 1) hx hb dL_law_2637 (by decide) ?_
  refine lv_iadd hx hb dL_law_2638 ?_
  refine W.eq (g2 := F0 m 2639 ls [.int (nI (7 * i + 1)), .ref b, .ref (ad 429)]) (congrArg (fun z9 => F0 m 2639 ls [.int z9, .ref b, .ref (ad 429)]) (show nI (7 * i) + 1 = nI (7 * i + 1) from nI_addE rfl (by decide +kernel))) ?_
  refine va_sld hx hb hX hbl hbA hS (i := nI (7 * i + 1)) (vp_in_nI (by omega) (by omega)) dL_law_2639 ?_
  refine lv_aload_n hx hb dL_law_2640 rfl (lv_at hl 3 rfl) ?_
  refine LW.call hW (vx_runSW (As := [.ref (ad 429), .int (xs (nI (7 * i + 1)).toNatClampNeg), .ref qo]) (rest := []) ⟨hx, hb, hml, hown, hts⟩ (c_L_printByDoubts l D ad cy pm rj σ xq hst _ hA.1 (xs (nI (7 * i + 1)).toNatClampNeg) cl cd qo f g) (vx_cwSW 3 hts gL_law_L_printByDoubts rfl rfl rfl (by decide +kernel) ⟨Nat.le_of_ble_eq_true rfl, Nat.le_of_ble_eq_true rfl⟩) (lwPre hW.2.1 hW.2.2.2.1 hK (lwEX hE0 hA hS) hNC (fun k hk => (hA.2.2.2.1 k hk).1) trivial) rfl rfl hl.1 rfl (lv_room (Nat.le_of_ble_eq_true rfl)) dL_law_2641 ⟨by show cells + 1 ≤ 606307; omega, by show slots + 6 ≤ 7176832; omega⟩) hS (fun H2 locs2 pm2 rj2 rc2 σ2 e2 hW hO hS => ?_)
  refine lv_topi (fun k6 ek6 => ?_)
  refine lv_istore (lv' := [(6, .int k6), (0, .ref b), (1, .ref (ad 429)), (2, .ref (am 0)), (3, .ref qo), (4, .ref qd), (5, .int (nI (7 * i)))]) hx hb dL_law_2644 hl (by decide) rfl (fun ls hl => ?_)
  refine lv_aload_n hx hb dL_law_2646 rfl (lv_at hl 3 rfl) ?_
  refine lv_aload_n hx hb dL_law_2647 rfl (lv_at hl 1 rfl) ?_
  refine lv_iload hx hb dL_law_2648 (lv_at hl 6 rfl) ?_
  refine lv_iconst (v := 1) hx hb dL_law_2650 (by decide) ?_
  refine lv_iadd hx hb dL_law_2651 ?_
  refine W.eq (g2 := F0 m 2652 ls [.int (nI (7 * i + 1)), .ref b, .ref (am 0)]) (congrArg (fun z9 => F0 m 2652 ls [.int z9, .ref b, .ref (am 0)]) (show nI (7 * i) + 1 = nI (7 * i + 1) from nI_addE rfl (by decide +kernel))) ?_
  refine va_sld hx hb hX hbl hbA hS (i := nI (7 * i + 1)) (vp_in_nI (by omega) (by omega)) dL_law_2652 ?_
  refine sp_callm (va_runV (As := [.int (xs (nI (7 * i + 1)).toNatClampNeg)]) (rest := []) ⟨hx, hb, hml, hown, hts⟩ (c_X10_printByDoubts l D am cy μ _ hA.2.1 n t hbr.1 (xs (nI (7 * i + 1)).toNatClampNeg)) (cwV 1 hts gL_law_X10_printByDoubts rfl rfl rfl (by decide +kernel) ⟨Nat.le_of_ble_eq_true rfl, Nat.le_of_ble_eq_true rfl⟩) (sp_preVm hKg hW.2.2.1 (κ := 0) (by decide) mE_0 rfl) rfl rfl hl.1 rfl (lv_room (Nat.le_of_ble_eq_true rfl)) dL_law_2653 ⟨by show cells + 1 + 0 ≤ 606307; omega, by show slots + 6 + 0 ≤ 7176832; omega⟩) hS (fun q _ h => lwAm hA hS q h) (fun q h => lwAm hA hS q h) (fun H3 locs3 hPm hle hfr hS => ?_)
  have hW := hW.model hPm hfr
  refine lv_topi (fun b7 eb7 => ?_)
  refine lv_istore (lv' := [(7, .int b7), (6, .int k6), (0, .ref b), (1, .ref (ad 429)), (2, .ref (am 0)), (3, .ref qo), (4, .ref qd), (5, .int (nI (7 * i)))]) hx hb dL_law_2656 hl (by decide) rfl (fun ls hl => ?_)
  refine lv_aload_n hx hb dL_law_2658 rfl (lv_at hl 4 rfl) ?_
  refine sp_call (W.runV (As := []) (rest := []) ⟨hx, hb, hml, hown, hts⟩ (c_X10_thrown l D am cy _) (cwV 0 hts gL_law_X10_thrown rfl rfl rfl (by decide +kernel) ⟨Nat.le_of_ble_eq_true rfl, Nat.le_of_ble_eq_true rfl⟩) (sp_preV hKg hW.2.2.1 (κ := 0) (by decide) mE_0 rfl) rfl rfl hl.1 rfl (lv_room (Nat.le_of_ble_eq_true rfl)) dL_law_2659 ⟨by show cells + 1 + 0 + 0 ≤ 606307; omega, by show slots + 6 + 0 + 0 ≤ 7176832; omega⟩) ?_
  refine lv_iload hx hb dL_law_2662 (lv_at hl 1 rfl) ?_
  have hp2 := AG.p2 (ag_pbd hbr (xs (nI (7 * i + 1)).toNatClampNeg)) hR hB6
  refine lv_icmp_eq (tgt := 2669) hx hb dL_law_2664 (by decide) (fun c_1 => ?_) (fun c_1 => absurd (hp2.1.trans ek6.symm) c_1)
  refine lv_iload hx hb dL_law_2669 (lv_at hl 1 rfl) ?_
  obtain ⟨f2, rfl, hf2⟩ := outL hO
  have fin : W p l e room_1 s m args below meth c H3 locs3 (cells + 1 + 0) (slots + 6 + 0) Q (F0 m 2686 ls []) := by
    refine lv_goto (tgt := 3617) hx hb dL_law_2686 (by decide) ?_
    refine W.widen (k := cells + 60) (n := slots + 240) (by omega) (by omega) ?_
    exact ih _ _ _ _ _ _ _ _ _ _ hW (hp2.rr hO) hS (lv_sub hl [2, 3, 4, 5, 6, 7] rfl)
  refine lv_if_ne (tgt := 2686) hx hb dL_law_2671 (by decide) (fun c_2 => fin) (fun c_2 => ?_)
  have hn := kC_0 (by decide) (ek6.symm.trans c_2)
  have hok := (hp2.2.1 hn).1
  have hv := hf2 hn
  have hPq : va_P D vwCl [(qo, eL cl f2)] H3 := wCons hW.2.2.2.1 (fun k x hx9 => by (cases hx9))
  refine lv_aload_n hx hb dL_law_2674 rfl (lv_at hl 5 rfl) ?_
  refine lv_iconst (v := 0) hx hb dL_law_2675 (by decide) ?_
  refine va_lald hx hb hK hPq 0 6 rfl rfl (i := 0) vp01 dL_law_2676 ?_
  refine lv_iload hx hb dL_law_2677 (lv_at hl 0 rfl) ?_
  refine lv_i2l (v := Int32.toInt64 b7) hx hb dL_law_2679 rfl ?_
  refine W.lcmp hx hb dL_law_2680 ?_
  refine lv_if_eq (tgt := 2686) hx hb dL_law_2681 (by decide) (fun _ => fin) (fun c_4 => absurd (lg_same (hv.trans (congrArg Int32.toInt64 (hok.trans eb7.symm)))) c_4)
set_option maxHeartbeats 4000000 in
set_option maxRecDepth 100000 in
theorem lc_38 (E0 : LE p l s m c args b L xs D cy cl cd xq) (hi : 7 * i + 7 ≤ L) (hL : L ≤ 3584) (hcl : cells + 60 ≤ 606307) (hsl : slots + 240 ≤ 7176832) (hW : LW s.heap.size D cy ad am qo qd pm rj rc σ μ (eL cl f) (eD cd g) H) (hR : RR B σ pm rc μ) (hB : B ≤ 20 * i + 1) (hS : va_S (fun q => s.heap.size ≤ q) s.heap H locs) (hl : lv_has ls 9 [(0, .ref b), (1, .ref (ad 429)), (2, .ref (am 0)), (3, .ref qo), (4, .ref qd), (5, .int (nI (7 * i)))]) (ih : LIH p l e s m args below meth c D cy cl cd ad am qo qd b i B cells slots Q) : W p l e room_1 s m args below meth c H locs cells slots Q (F0 m 2689 ls []) := by
  obtain ⟨hx, hb, hml, hown, hts, hX, hbl, hst, hK, hE0, hNC⟩ := E0
  have hbA : ¬ (fun q : Nat => s.heap.size ≤ q) b := Nat.not_le.mpr hbl
  obtain ⟨n, t, pi, ro, hbr⟩ := hR.1
  obtain ⟨⟨ch, hc8, hch, -⟩, hpm, -⟩ := hR.2.1
  have hRJ := hR.2.2.2.1
  have hB6 : B + 20 < 1000000 := by omega
  have hA := hW.1
  have hKg := hK.sub (tys' := tyG cy) [0, 1, 2, 3, 4, 5] rfl
  refine lv_aload_n hx hb dL_law_2689 rfl (lv_at hl 1 rfl) ?_
  refine lv_aload_n hx hb dL_law_2690 rfl (lv_at hl 0 rfl) ?_
  refine lv_iload hx hb dL_law_2691 (lv_at hl 5 rfl) ?_
  refine lv_iconst (v := 1) hx hb dL_law_2693 (by decide) ?_
  refine lv_iadd hx hb dL_law_2694 ?_
  refine W.eq (g2 := F0 m 2695 ls [.int (nI (7 * i + 1)), .ref b, .ref (ad 429)]) (congrArg (fun z9 => F0 m 2695 ls [.int z9, .ref b, .ref (ad 429)]) (show nI (7 * i) + 1 = nI (7 * i + 1) from nI_addE rfl (by decide +kernel))) ?_
  refine va_sld hx hb hX hbl hbA hS (i := nI (7 * i + 1)) (vp_in_nI (by omega) (by omega)) dL_law_2695 ?_
  refine lv_aload_n hx hb dL_law_2696 rfl (lv_at hl 0 rfl) ?_
  refine lv_iload hx hb dL_law_2697 (lv_at hl 5 rfl) ?_
  refine lv_iconst (v := 2) hx hb dL_law_2699 (by decide) ?_
  refine lv_iadd hx hb dL_law_2700 ?_
  refine W.eq (g2 := F0 m 2701 ls [.int (nI (7 * i + 2)), .ref b, .int (xs (nI (7 * i + 1)).toNatClampNeg), .ref (ad 429)]) (congrArg (fun z9 => F0 m 2701 ls [.int z9, .ref b, .int (xs (nI (7 * i + 1)).toNatClampNeg), .ref (ad 429)]) (show nI (7 * i) + 2 = nI (7 * i + 2) from nI_addE rfl (by decide +kernel))) ?_
  refine va_sld hx hb hX hbl hbA hS (i := nI (7 * i + 2)) (vp_in_nI (by omega) (by omega)) dL_law_2701 ?_
  refine lv_aload_n hx hb dL_law_2702 rfl (lv_at hl 3 rfl) ?_
  refine LW.call hW (vx_runSW (As := [.ref (ad 429), .int (xs (nI (7 * i + 1)).toNatClampNeg), .int (xs (nI (7 * i + 2)).toNatClampNeg), .ref qo]) (rest := []) ⟨hx, hb, hml, hown, hts⟩ (c_L_printIn l D ad cy pm rj σ xq hst _ hA.1 (xs (nI (7 * i + 1)).toNatClampNeg) (xs (nI (7 * i + 2)).toNatClampNeg) cl cd qo f g) (vx_cwSW 4 hts gL_law_L_printIn rfl rfl rfl (by decide +kernel) ⟨Nat.le_of_ble_eq_true rfl, Nat.le_of_ble_eq_true rfl⟩) (lwPre hW.2.1 hW.2.2.2.1 hK (lwEX hE0 hA hS) hNC (fun k hk => (hA.2.2.2.1 k hk).1) trivial) rfl rfl hl.1 rfl (lv_room (Nat.le_of_ble_eq_true rfl)) dL_law_2703 ⟨by show cells + 2 ≤ 606307; omega, by show slots + 12 ≤ 7176832; omega⟩) hS (fun H2 locs2 pm2 rj2 rc2 σ2 e2 hW hO hS => ?_)
  refine lv_topi (fun k6 ek6 => ?_)
  refine lv_istore (lv' := [(6, .int k6), (0, .ref b), (1, .ref (ad 429)), (2, .ref (am 0)), (3, .ref qo), (4, .ref qd), (5, .int (nI (7 * i)))]) hx hb dL_law_2706 hl (by decide) rfl (fun ls hl => ?_)
  refine lv_aload_n hx hb dL_law_2708 rfl (lv_at hl 3 rfl) ?_
  refine lv_aload_n hx hb dL_law_2709 rfl (lv_at hl 1 rfl) ?_
  refine lv_iload hx hb dL_law_2710 (lv_at hl 6 rfl) ?_
  refine lv_iconst (v := 1) hx hb dL_law_2712 (by decide) ?_
  refine lv_iadd hx hb dL_law_2713 ?_
  refine W.eq (g2 := F0 m 2714 ls [.int (nI (7 * i + 1)), .ref b, .ref (am 0)]) (congrArg (fun z9 => F0 m 2714 ls [.int z9, .ref b, .ref (am 0)]) (show nI (7 * i) + 1 = nI (7 * i + 1) from nI_addE rfl (by decide +kernel))) ?_
  refine va_sld hx hb hX hbl hbA hS (i := nI (7 * i + 1)) (vp_in_nI (by omega) (by omega)) dL_law_2714 ?_
  refine lv_aload_n hx hb dL_law_2715 rfl (lv_at hl 1 rfl) ?_
  refine lv_iload hx hb dL_law_2716 (lv_at hl 6 rfl) ?_
  refine lv_iconst (v := 2) hx hb dL_law_2718 (by decide) ?_
  refine lv_iadd hx hb dL_law_2719 ?_
  refine W.eq (g2 := F0 m 2720 ls [.int (nI (7 * i + 2)), .ref b, .int (xs (nI (7 * i + 1)).toNatClampNeg), .ref (am 0)]) (congrArg (fun z9 => F0 m 2720 ls [.int z9, .ref b, .int (xs (nI (7 * i + 1)).toNatClampNeg), .ref (am 0)]) (show nI (7 * i) + 2 = nI (7 * i + 2) from nI_addE rfl (by decide +kernel))) ?_
  refine va_sld hx hb hX hbl hbA hS (i := nI (7 * i + 2)) (vp_in_nI (by omega) (by omega)) dL_law_2720 ?_
  refine sp_callm (va_runV (As := [.int (xs (nI (7 * i + 1)).toNatClampNeg), .int (xs (nI (7 * i + 2)).toNatClampNeg)]) (rest := []) ⟨hx, hb, hml, hown, hts⟩ (c_X10_printIn l D am cy μ _ hA.2.1 n t hbr.1 (xs (nI (7 * i + 1)).toNatClampNeg) (xs (nI (7 * i + 2)).toNatClampNeg)) (cwV 2 hts gL_law_X10_printIn rfl rfl rfl (by decide +kernel) ⟨Nat.le_of_ble_eq_true rfl, Nat.le_of_ble_eq_true rfl⟩) (sp_preVm hKg hW.2.2.1 (κ := 0) (by decide) mE_0 rfl) rfl rfl hl.1 rfl (lv_room (Nat.le_of_ble_eq_true rfl)) dL_law_2721 ⟨by show cells + 2 + 0 ≤ 606307; omega, by show slots + 12 + 0 ≤ 7176832; omega⟩) hS (fun q _ h => lwAm hA hS q h) (fun q h => lwAm hA hS q h) (fun H3 locs3 hPm hle hfr hS => ?_)
  have hW := hW.model hPm hfr
  refine lv_topi (fun b7 eb7 => ?_)
  refine lv_istore (lv' := [(7, .int b7), (6, .int k6), (0, .ref b), (1, .ref (ad 429)), (2, .ref (am 0)), (3, .ref qo), (4, .ref qd), (5, .int (nI (7 * i)))]) hx hb dL_law_2724 hl (by decide) rfl (fun ls hl => ?_)
  refine lv_aload_n hx hb dL_law_2726 rfl (lv_at hl 4 rfl) ?_
  refine sp_call (W.runV (As := []) (rest := []) ⟨hx, hb, hml, hown, hts⟩ (c_X10_thrown l D am cy _) (cwV 0 hts gL_law_X10_thrown rfl rfl rfl (by decide +kernel) ⟨Nat.le_of_ble_eq_true rfl, Nat.le_of_ble_eq_true rfl⟩) (sp_preV hKg hW.2.2.1 (κ := 0) (by decide) mE_0 rfl) rfl rfl hl.1 rfl (lv_room (Nat.le_of_ble_eq_true rfl)) dL_law_2727 ⟨by show cells + 2 + 0 + 0 ≤ 606307; omega, by show slots + 12 + 0 + 0 ≤ 7176832; omega⟩) ?_
  refine lv_iload hx hb dL_law_2730 (lv_at hl 1 rfl) ?_
  have hp2 := AG.p2 (ag_in hbr (by omega) (xs (nI (7 * i + 1)).toNatClampNeg) (xs (nI (7 * i + 2)).toNatClampNeg)) hR hB6
  refine lv_icmp_eq (tgt := 2737) hx hb dL_law_2732 (by decide) (fun c_1 => ?_) (fun c_1 => absurd (hp2.1.trans ek6.symm) c_1)
  refine lv_iload hx hb dL_law_2737 (lv_at hl 1 rfl) ?_
  obtain ⟨f2, rfl, hf2⟩ := outL hO
  have fin : W p l e room_1 s m args below meth c H3 locs3 (cells + 2 + 0) (slots + 12 + 0) Q (F0 m 2754 ls []) := by
    refine lv_goto (tgt := 3617) hx hb dL_law_2754 (by decide) ?_
    refine W.widen (k := cells + 60) (n := slots + 240) (by omega) (by omega) ?_
    exact ih _ _ _ _ _ _ _ _ _ _ hW (hp2.rr hO) hS (lv_sub hl [2, 3, 4, 5, 6, 7] rfl)
  refine lv_if_ne (tgt := 2754) hx hb dL_law_2739 (by decide) (fun c_2 => fin) (fun c_2 => ?_)
  have hn := kC_0 (by decide) (ek6.symm.trans c_2)
  have hok := (hp2.2.1 hn).1
  have hv := hf2 hn
  have hPq : va_P D vwCl [(qo, eL cl f2)] H3 := wCons hW.2.2.2.1 (fun k x hx9 => by (cases hx9))
  refine lv_aload_n hx hb dL_law_2742 rfl (lv_at hl 5 rfl) ?_
  refine lv_iconst (v := 0) hx hb dL_law_2743 (by decide) ?_
  refine va_lald hx hb hK hPq 0 6 rfl rfl (i := 0) vp01 dL_law_2744 ?_
  refine lv_iload hx hb dL_law_2745 (lv_at hl 0 rfl) ?_
  refine lv_i2l (v := Int32.toInt64 b7) hx hb dL_law_2747 rfl ?_
  refine W.lcmp hx hb dL_law_2748 ?_
  refine lv_if_eq (tgt := 2754) hx hb dL_law_2749 (by decide) (fun _ => fin) (fun c_4 => absurd (lg_same (hv.trans (congrArg Int32.toInt64 (hok.trans eb7.symm)))) c_4)
set_option maxHeartbeats 4000000 in
set_option maxRecDepth 100000 in
theorem lc_39 (E0 : LE p l s m c args b L xs D cy cl cd xq) (hi : 7 * i + 7 ≤ L) (hL : L ≤ 3584) (hcl : cells + 60 ≤ 606307) (hsl : slots + 240 ≤ 7176832) (hW : LW s.heap.size D cy ad am qo qd pm rj rc σ μ (eL cl f) (eD cd g) H) (hR : RR B σ pm rc μ) (hB : B ≤ 20 * i + 1) (hS : va_S (fun q => s.heap.size ≤ q) s.heap H locs) (hl : lv_has ls 9 [(0, .ref b), (1, .ref (ad 429)), (2, .ref (am 0)), (3, .ref qo), (4, .ref qd), (5, .int (nI (7 * i)))]) (ih : LIH p l e s m args below meth c D cy cl cd ad am qo qd b i B cells slots Q) : W p l e room_1 s m args below meth c H locs cells slots Q (F0 m 2757 ls []) := by
  obtain ⟨hx, hb, hml, hown, hts, hX, hbl, hst, hK, hE0, hNC⟩ := E0
  have hbA : ¬ (fun q : Nat => s.heap.size ≤ q) b := Nat.not_le.mpr hbl
  obtain ⟨n, t, pi, ro, hbr⟩ := hR.1
  obtain ⟨⟨ch, hc8, hch, -⟩, hpm, -⟩ := hR.2.1
  have hRJ := hR.2.2.2.1
  have hB6 : B + 20 < 1000000 := by omega
  have hA := hW.1
  have hKg := hK.sub (tys' := tyG cy) [0, 1, 2, 3, 4, 5] rfl
  refine lv_aload_n hx hb dL_law_2757 rfl (lv_at hl 1 rfl) ?_
  refine lv_aload_n hx hb dL_law_2758 rfl (lv_at hl 0 rfl) ?_
  refine lv_iload hx hb dL_law_2759 (lv_at hl 5 rfl) ?_
  refine lv_iconst (v := 1) hx hb dL_law_2761 (by decide) ?_
  refine lv_iadd hx hb dL_law_2762 ?_
  refine W.eq (g2 := F0 m 2763 ls [.int (nI (7 * i + 1)), .ref b, .ref (ad 429)]) (congrArg (fun z9 => F0 m 2763 ls [.int z9, .ref b, .ref (ad 429)]) (show nI (7 * i) + 1 = nI (7 * i + 1) from nI_addE rfl (by decide +kernel))) ?_
  refine va_sld hx hb hX hbl hbA hS (i := nI (7 * i + 1)) (vp_in_nI (by omega) (by omega)) dL_law_2763 ?_
  refine lv_aload_n hx hb dL_law_2764 rfl (lv_at hl 3 rfl) ?_
  refine LW.call hW (vx_runSW (As := [.ref (ad 429), .int (xs (nI (7 * i + 1)).toNatClampNeg), .ref qo]) (rest := []) ⟨hx, hb, hml, hown, hts⟩ (c_L_printsInRow l D ad cy pm rj σ xq hst _ hA.1 (xs (nI (7 * i + 1)).toNatClampNeg) cl cd qo f g) (vx_cwSW 3 hts gL_law_L_printsInRow rfl rfl rfl (by decide +kernel) ⟨Nat.le_of_ble_eq_true rfl, Nat.le_of_ble_eq_true rfl⟩) (lwPre hW.2.1 hW.2.2.2.1 hK (lwEX hE0 hA hS) hNC (fun k hk => (hA.2.2.2.1 k hk).1) trivial) rfl rfl hl.1 rfl (lv_room (Nat.le_of_ble_eq_true rfl)) dL_law_2765 ⟨by show cells + 1 ≤ 606307; omega, by show slots + 6 ≤ 7176832; omega⟩) hS (fun H2 locs2 pm2 rj2 rc2 σ2 e2 hW hO hS => ?_)
  refine lv_topi (fun k6 ek6 => ?_)
  refine lv_istore (lv' := [(6, .int k6), (0, .ref b), (1, .ref (ad 429)), (2, .ref (am 0)), (3, .ref qo), (4, .ref qd), (5, .int (nI (7 * i)))]) hx hb dL_law_2768 hl (by decide) rfl (fun ls hl => ?_)
  refine lv_aload_n hx hb dL_law_2770 rfl (lv_at hl 3 rfl) ?_
  refine lv_aload_n hx hb dL_law_2771 rfl (lv_at hl 1 rfl) ?_
  refine lv_iload hx hb dL_law_2772 (lv_at hl 6 rfl) ?_
  refine lv_iconst (v := 1) hx hb dL_law_2774 (by decide) ?_
  refine lv_iadd hx hb dL_law_2775 ?_
  refine W.eq (g2 := F0 m 2776 ls [.int (nI (7 * i + 1)), .ref b, .ref (am 0)]) (congrArg (fun z9 => F0 m 2776 ls [.int z9, .ref b, .ref (am 0)]) (show nI (7 * i) + 1 = nI (7 * i + 1) from nI_addE rfl (by decide +kernel))) ?_
  refine va_sld hx hb hX hbl hbA hS (i := nI (7 * i + 1)) (vp_in_nI (by omega) (by omega)) dL_law_2776 ?_
  refine sp_callm (va_runV (As := [.int (xs (nI (7 * i + 1)).toNatClampNeg)]) (rest := []) ⟨hx, hb, hml, hown, hts⟩ (c_X10_printsInRow l D am cy μ _ hA.2.1 n t hbr.1 (xs (nI (7 * i + 1)).toNatClampNeg)) (cwV 1 hts gL_law_X10_printsInRow rfl rfl rfl (by decide +kernel) ⟨Nat.le_of_ble_eq_true rfl, Nat.le_of_ble_eq_true rfl⟩) (sp_preVm hKg hW.2.2.1 (κ := 0) (by decide) mE_0 rfl) rfl rfl hl.1 rfl (lv_room (Nat.le_of_ble_eq_true rfl)) dL_law_2777 ⟨by show cells + 1 + 0 ≤ 606307; omega, by show slots + 6 + 0 ≤ 7176832; omega⟩) hS (fun q _ h => lwAm hA hS q h) (fun q h => lwAm hA hS q h) (fun H3 locs3 hPm hle hfr hS => ?_)
  have hW := hW.model hPm hfr
  refine lv_topi (fun b7 eb7 => ?_)
  refine lv_istore (lv' := [(7, .int b7), (6, .int k6), (0, .ref b), (1, .ref (ad 429)), (2, .ref (am 0)), (3, .ref qo), (4, .ref qd), (5, .int (nI (7 * i)))]) hx hb dL_law_2780 hl (by decide) rfl (fun ls hl => ?_)
  refine lv_aload_n hx hb dL_law_2782 rfl (lv_at hl 4 rfl) ?_
  refine sp_call (W.runV (As := []) (rest := []) ⟨hx, hb, hml, hown, hts⟩ (c_X10_thrown l D am cy _) (cwV 0 hts gL_law_X10_thrown rfl rfl rfl (by decide +kernel) ⟨Nat.le_of_ble_eq_true rfl, Nat.le_of_ble_eq_true rfl⟩) (sp_preV hKg hW.2.2.1 (κ := 0) (by decide) mE_0 rfl) rfl rfl hl.1 rfl (lv_room (Nat.le_of_ble_eq_true rfl)) dL_law_2783 ⟨by show cells + 1 + 0 + 0 ≤ 606307; omega, by show slots + 6 + 0 + 0 ≤ 7176832; omega⟩) ?_
  refine lv_iload hx hb dL_law_2786 (lv_at hl 1 rfl) ?_
  have hp2 := AG.p2 (ag_row hbr (xs (nI (7 * i + 1)).toNatClampNeg)) hR hB6
  refine lv_icmp_eq (tgt := 2793) hx hb dL_law_2788 (by decide) (fun c_1 => ?_) (fun c_1 => absurd (hp2.1.trans ek6.symm) c_1)
  refine lv_iload hx hb dL_law_2793 (lv_at hl 1 rfl) ?_
  obtain ⟨f2, rfl, hf2⟩ := outL hO
  have fin : W p l e room_1 s m args below meth c H3 locs3 (cells + 1 + 0) (slots + 6 + 0) Q (F0 m 2810 ls []) := by
    refine lv_goto (tgt := 3617) hx hb dL_law_2810 (by decide) ?_
    refine W.widen (k := cells + 60) (n := slots + 240) (by omega) (by omega) ?_
    exact ih _ _ _ _ _ _ _ _ _ _ hW (hp2.rr hO) hS (lv_sub hl [2, 3, 4, 5, 6, 7] rfl)
  refine lv_if_ne (tgt := 2810) hx hb dL_law_2795 (by decide) (fun c_2 => fin) (fun c_2 => ?_)
  have hn := kC_0 (by decide) (ek6.symm.trans c_2)
  have hok := (hp2.2.1 hn).1
  have hv := hf2 hn
  have hPq : va_P D vwCl [(qo, eL cl f2)] H3 := wCons hW.2.2.2.1 (fun k x hx9 => by (cases hx9))
  refine lv_aload_n hx hb dL_law_2798 rfl (lv_at hl 5 rfl) ?_
  refine lv_iconst (v := 0) hx hb dL_law_2799 (by decide) ?_
  refine va_lald hx hb hK hPq 0 6 rfl rfl (i := 0) vp01 dL_law_2800 ?_
  refine lv_iload hx hb dL_law_2801 (lv_at hl 0 rfl) ?_
  refine lv_i2l (v := Int32.toInt64 b7) hx hb dL_law_2803 rfl ?_
  refine W.lcmp hx hb dL_law_2804 ?_
  refine lv_if_eq (tgt := 2810) hx hb dL_law_2805 (by decide) (fun _ => fin) (fun c_4 => absurd (lg_same (hv.trans (congrArg Int32.toInt64 (hok.trans eb7.symm)))) c_4)
end LCASE
