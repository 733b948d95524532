section LCASE
variable {p : Program} {l : Launch} {e : Env} {s : State} {m : MethodId} {args : Array Value} {below : List Frame} {meth : Method} {c : Code} {H : Heap} {locs : List Loc} {cells slots : Nat} {Q : State → Prop} {ls : Array Slot}
variable {b L : Nat} {xs : Nat → Int32} {D : va_G} {cy : Nat → ClassId} {cl cd : ClassId} {xq ad am : Nat → Nat} {qo qd : Nat} {pm : Nat → Nat} {rj : Option Nat} {rc : Option RC} {σ μ : Nat → Nat → Int32} {f : Nat → Int64} {g : Nat → UInt64} {i B : Nat}
set_option maxHeartbeats 4000000 in
set_option maxRecDepth 100000 in
theorem lc_16 (E0 : LE p l s m c args b L xs D cy cl cd xq) (hi : 7 * i + 7 ≤ L) (hL : L ≤ 3584) (hcl : cells + 60 ≤ 606307) (hsl : slots + 240 ≤ 7176832) (hW : LW s.heap.size D cy ad am qo qd pm rj rc σ μ (eL cl f) (eD cd g) H) (hR : RR B σ pm rc μ) (hB : B ≤ 20 * i + 1) (hS : va_S (fun q => s.heap.size ≤ q) s.heap H locs) (hl : lv_has ls 9 [(0, .ref b), (1, .ref (ad 429)), (2, .ref (am 0)), (3, .ref qo), (4, .ref qd), (5, .int (nI (7 * i)))]) (ih : LIH p l e s m args below meth c D cy cl cd ad am qo qd b i B cells slots Q) : W p l e room_1 s m args below meth c H locs cells slots Q (F0 m 1320 ls []) := by
  obtain ⟨hx, hb, hml, hown, hts, hX, hbl, hst, hK, hE0, hNC⟩ := E0
  have hbA : ¬ (fun q : Nat => s.heap.size ≤ q) b := Nat.not_le.mpr hbl
  obtain ⟨n, t, pi, ro, hbr⟩ := hR.1
  obtain ⟨⟨ch, hc8, hch, -⟩, hpm, -⟩ := hR.2.1
  have hRJ := hR.2.2.2.1
  have hB6 : B + 20 < 1000000 := by omega
  have hA := hW.1
  have hKg := hK.sub (tys' := tyG cy) [0, 1, 2, 3, 4, 5] rfl
  refine lv_aload_n hx hb dL_law_1320 rfl (lv_at hl 1 rfl) ?_
  refine lv_aload_n hx hb dL_law_1321 rfl (lv_at hl 0 rfl) ?_
  refine lv_iload hx hb dL_law_1322 (lv_at hl 5 rfl) ?_
  refine lv_iconst (v := 1) hx hb dL_law_1324 (by decide) ?_
  refine lv_iadd hx hb dL_law_1325 ?_
  refine W.eq (g2 := F0 m 1326 ls [.int (nI (7 * i + 1)), .ref b, .ref (ad 429)]) (congrArg (fun z9 => F0 m 1326 ls [.int z9, .ref b, .ref (ad 429)]) (show nI (7 * i) + 1 = nI (7 * i + 1) from nI_addE rfl (by decide +kernel))) ?_
  refine va_sld hx hb hX hbl hbA hS (i := nI (7 * i + 1)) (vp_in_nI (by omega) (by omega)) dL_law_1326 ?_
  refine lv_aload hx hb dL_law_1327 (lv_at hl 4 rfl) ?_
  refine LW.calld hW (vx_runSW (As := [.ref (ad 429), .int (xs (nI (7 * i + 1)).toNatClampNeg), .ref qd]) (rest := []) ⟨hx, hb, hml, hown, hts⟩ (c_L_confidence l D ad cy pm rj σ xq hst _ hA.1 (xs (nI (7 * i + 1)).toNatClampNeg) (hbr.dbC _) cl cd qd f g) (vx_cwSW 3 hts gL_law_L_confidence rfl rfl rfl (by decide +kernel) ⟨Nat.le_of_ble_eq_true rfl, Nat.le_of_ble_eq_true rfl⟩) (lwPre hW.2.1 hW.2.2.2.2.1 hK (lwEX hE0 hA hS) hNC (fun k hk => (hA.2.2.2.1 k hk).2) trivial) rfl rfl hl.1 rfl (lv_room (Nat.le_of_ble_eq_true rfl)) dL_law_1329 ⟨by show cells + 1 ≤ 606307; omega, by show slots + 6 ≤ 7176832; omega⟩) hS (fun H2 locs2 pm2 rj2 rc2 σ2 e2 hW hO hS => ?_)
  refine lv_topi (fun k6 ek6 => ?_)
  refine lv_istore (lv' := [(6, .int k6), (0, .ref b), (1, .ref (ad 429)), (2, .ref (am 0)), (3, .ref qo), (4, .ref qd), (5, .int (nI (7 * i)))]) hx hb dL_law_1332 hl (by decide) rfl (fun ls hl => ?_)
  refine lv_aload_n hx hb dL_law_1334 rfl (lv_at hl 3 rfl) ?_
  refine lv_aload_n hx hb dL_law_1335 rfl (lv_at hl 1 rfl) ?_
  refine lv_iload hx hb dL_law_1336 (lv_at hl 6 rfl) ?_
  refine lv_iconst (v := 1) hx hb dL_law_1338 (by decide) ?_
  refine lv_iadd hx hb dL_law_1339 ?_
  refine W.eq (g2 := F0 m 1340 ls [.int (nI (7 * i + 1)), .ref b, .ref (am 0)]) (congrArg (fun z9 => F0 m 1340 ls [.int z9, .ref b, .ref (am 0)]) (show nI (7 * i) + 1 = nI (7 * i + 1) from nI_addE rfl (by decide +kernel))) ?_
  refine va_sld hx hb hX hbl hbA hS (i := nI (7 * i + 1)) (vp_in_nI (by omega) (by omega)) dL_law_1340 ?_
  refine sp_callm (va_runV (As := [.int (xs (nI (7 * i + 1)).toNatClampNeg)]) (rest := []) ⟨hx, hb, hml, hown, hts⟩ (c_X10_confidence l D am cy μ _ hA.2.1 n t hbr.1 (xs (nI (7 * i + 1)).toNatClampNeg) (fun k hk => hbr.dbM (m_find_lt hk))) (cwV 1 hts gL_law_X10_confidence rfl rfl rfl (by decide +kernel) ⟨Nat.le_of_ble_eq_true rfl, Nat.le_of_ble_eq_true rfl⟩) (sp_preVm hKg hW.2.2.1 (κ := 0) (by decide) mE_0 rfl) rfl rfl hl.1 rfl (lv_room (Nat.le_of_ble_eq_true rfl)) dL_law_1341 ⟨by show cells + 1 + 0 ≤ 606307; omega, by show slots + 6 + 0 ≤ 7176832; omega⟩) hS (fun q _ h => lwAm hA hS q h) (fun q h => lwAm hA hS q h) (fun H3 locs3 hPm hle hfr hS => ?_)
  have hW := hW.model hPm hfr
  refine lv_topd (fun b7 eb7 => ?_)
  refine lv_dstore (lv' := [(7, .double b7), (6, .int k6), (0, .ref b), (1, .ref (ad 429)), (2, .ref (am 0)), (3, .ref qo), (4, .ref qd), (5, .int (nI (7 * i)))]) hx hb dL_law_1344 hl (by decide) rfl (fun ls hl => ?_)
  refine lv_aload_n hx hb dL_law_1346 rfl (lv_at hl 4 rfl) ?_
  refine sp_call (W.runV (As := []) (rest := []) ⟨hx, hb, hml, hown, hts⟩ (c_X10_thrown l D am cy _) (cwV 0 hts gL_law_X10_thrown rfl rfl rfl (by decide +kernel) ⟨Nat.le_of_ble_eq_true rfl, Nat.le_of_ble_eq_true rfl⟩) (sp_preV hKg hW.2.2.1 (κ := 0) (by decide) mE_0 rfl) rfl rfl hl.1 rfl (lv_room (Nat.le_of_ble_eq_true rfl)) dL_law_1347 ⟨by show cells + 1 + 0 + 0 ≤ 606307; omega, by show slots + 6 + 0 + 0 ≤ 7176832; omega⟩) ?_
  refine lv_iload hx hb dL_law_1350 (lv_at hl 1 rfl) ?_
  have hp2 := AG.p2 (ag_conf hbr (xs (nI (7 * i + 1)).toNatClampNeg)) hR hB6
  refine lv_icmp_eq (tgt := 1357) hx hb dL_law_1352 (by decide) (fun c_1 => ?_) (fun c_1 => absurd (hp2.1.trans ek6.symm) c_1)
  refine lv_iload hx hb dL_law_1357 (lv_at hl 1 rfl) ?_
  obtain ⟨f2, rfl, hf2⟩ := outD hO
  have fin : W p l e room_1 s m args below meth c H3 locs3 (cells + 1 + 0) (slots + 6 + 0) Q (F0 m 1394 ls []) := by
    refine lv_goto (tgt := 3617) hx hb dL_law_1394 (by decide) ?_
    refine W.widen (k := cells + 60) (n := slots + 240) (by omega) (by omega) ?_
    exact ih _ _ _ _ _ _ _ _ _ _ hW (hp2.rr hO) hS (lv_sub hl [2, 3, 4, 5, 6, 7] rfl)
  refine lv_if_ne (tgt := 1394) hx hb dL_law_1359 (by decide) (fun c_2 => fin) (fun c_2 => ?_)
  have hn := kC_0 (by decide) (ek6.symm.trans c_2)
  have hok := (hp2.2.1 hn).1
  have hv := hf2 hn
  have hPq : va_P D vwCl [(qd, eD cd f2)] H3 := wCons hW.2.2.2.2.1 (fun k x hx9 => by (cases hx9))
  have hsame : f2 (0 : Int32).toNatClampNeg = b7 := hv.trans (hok.trans eb7.symm)
  refine lv_aload hx hb dL_law_1362 (lv_at hl 6 rfl) ?_
  refine lv_iconst (v := 0) hx hb dL_law_1364 (by decide) ?_
  refine va_dald hx hb hK hPq 0 7 rfl rfl (i := 0) vp01 dL_law_1365 ?_
  refine lv_dload hx hb dL_law_1366 (lv_at hl 0 rfl) ?_
  refine lv_dcmp hx hb dL_law_1368 ?_
  refine lv_if_eq (tgt := 1394) hx hb dL_law_1369 (by decide) (fun _ => fin) (fun c_3 => ?_)
  have hnan : FP.dcmp b7 b7 = none := (dc_self _).resolve_right (fun z => c_3 (by rw [hsame, z]; rfl))
  refine lv_aload hx hb dL_law_1372 (lv_at hl 6 rfl) ?_
  refine lv_iconst (v := 0) hx hb dL_law_1374 (by decide) ?_
  refine va_dald hx hb hK hPq 0 7 rfl rfl (i := 0) vp01 dL_law_1375 ?_
  refine lv_aload hx hb dL_law_1376 (lv_at hl 6 rfl) ?_
  refine lv_iconst (v := 0) hx hb dL_law_1378 (by decide) ?_
  refine va_dald hx hb hK hPq 0 7 rfl rfl (i := 0) vp01 dL_law_1379 ?_
  refine lv_dcmp hx hb dL_law_1380 ?_
  refine lv_if_eq (tgt := 1392) hx hb dL_law_1381 (by decide) (fun c_4 => absurd c_4 (by rw [hsame, hnan]; decide)) (fun _ => ?_)
  refine lv_dload hx hb dL_law_1384 (lv_at hl 0 rfl) ?_
  refine lv_dload hx hb dL_law_1386 (lv_at hl 0 rfl) ?_
  refine lv_dcmp hx hb dL_law_1388 ?_
  refine lv_if_ne (tgt := 1394) hx hb dL_law_1389 (by decide) (fun _ => fin) (fun c_5 => absurd c_5 (by rw [hnan]; decide))
set_option maxHeartbeats 4000000 in
set_option maxRecDepth 100000 in
theorem lc_17 (E0 : LE p l s m c args b L xs D cy cl cd xq) (hi : 7 * i + 7 ≤ L) (hL : L ≤ 3584) (hcl : cells + 60 ≤ 606307) (hsl : slots + 240 ≤ 7176832) (hW : LW s.heap.size D cy ad am qo qd pm rj rc σ μ (eL cl f) (eD cd g) H) (hR : RR B σ pm rc μ) (hB : B ≤ 20 * i + 1) (hS : va_S (fun q => s.heap.size ≤ q) s.heap H locs) (hl : lv_has ls 9 [(0, .ref b), (1, .ref (ad 429)), (2, .ref (am 0)), (3, .ref qo), (4, .ref qd), (5, .int (nI (7 * i)))]) (ih : LIH p l e s m args below meth c D cy cl cd ad am qo qd b i B cells slots Q) : W p l e room_1 s m args below meth c H locs cells slots Q (F0 m 1397 ls []) := by
  obtain ⟨hx, hb, hml, hown, hts, hX, hbl, hst, hK, hE0, hNC⟩ := E0
  have hbA : ¬ (fun q : Nat => s.heap.size ≤ q) b := Nat.not_le.mpr hbl
  obtain ⟨n, t, pi, ro, hbr⟩ := hR.1
  obtain ⟨⟨ch, hc8, hch, -⟩, hpm, -⟩ := hR.2.1
  have hRJ := hR.2.2.2.1
  have hB6 : B + 20 < 1000000 := by omega
  have hA := hW.1
  have hKg := hK.sub (tys' := tyG cy) [0, 1, 2, 3, 4, 5] rfl
  refine lv_aload_n hx hb dL_law_1397 rfl (lv_at hl 1 rfl) ?_
  refine lv_aload_n hx hb dL_law_1398 rfl (lv_at hl 0 rfl) ?_
  refine lv_iload hx hb dL_law_1399 (lv_at hl 5 rfl) ?_
  refine lv_iconst (v := 1) hx hb dL_law_1401 (by decide) ?_
  refine lv_iadd hx hb dL_law_1402 ?_
  refine W.eq (g2 := F0 m 1403 ls [.int (nI (7 * i + 1)), .ref b, .ref (ad 429)]) (congrArg (fun z9 => F0 m 1403 ls [.int z9, .ref b, .ref (ad 429)]) (show nI (7 * i) + 1 = nI (7 * i + 1) from nI_addE rfl (by decide +kernel))) ?_
  refine va_sld hx hb hX hbl hbA hS (i := nI (7 * i + 1)) (vp_in_nI (by omega) (by omega)) dL_law_1403 ?_
  refine lv_aload_n hx hb dL_law_1404 rfl (lv_at hl 3 rfl) ?_
  refine LW.call hW (vx_runSW (As := [.ref (ad 429), .int (xs (nI (7 * i + 1)).toNatClampNeg), .ref qo]) (rest := []) ⟨hx, hb, hml, hown, hts⟩ (c_L_isLate l D ad cy pm rj σ xq hst _ hA.1 (xs (nI (7 * i + 1)).toNatClampNeg) cl cd qo f g) (vx_cwSW 3 hts gL_law_L_isLate rfl rfl rfl (by decide +kernel) ⟨Nat.le_of_ble_eq_true rfl, Nat.le_of_ble_eq_true rfl⟩) (lwPre hW.2.1 hW.2.2.2.1 hK (lwEX hE0 hA hS) hNC (fun k hk => (hA.2.2.2.1 k hk).1) trivial) rfl rfl hl.1 rfl (lv_room (Nat.le_of_ble_eq_true rfl)) dL_law_1405 ⟨by show cells + 1 ≤ 606307; omega, by show slots + 6 ≤ 7176832; omega⟩) hS (fun H2 locs2 pm2 rj2 rc2 σ2 e2 hW hO hS => ?_)
  refine lv_topi (fun k6 ek6 => ?_)
  refine lv_istore (lv' := [(6, .int k6), (0, .ref b), (1, .ref (ad 429)), (2, .ref (am 0)), (3, .ref qo), (4, .ref qd), (5, .int (nI (7 * i)))]) hx hb dL_law_1408 hl (by decide) rfl (fun ls hl => ?_)
  refine lv_aload_n hx hb dL_law_1410 rfl (lv_at hl 3 rfl) ?_
  refine lv_aload_n hx hb dL_law_1411 rfl (lv_at hl 1 rfl) ?_
  refine lv_iload hx hb dL_law_1412 (lv_at hl 6 rfl) ?_
  refine lv_iconst (v := 1) hx hb dL_law_1414 (by decide) ?_
  refine lv_iadd hx hb dL_law_1415 ?_
  refine W.eq (g2 := F0 m 1416 ls [.int (nI (7 * i + 1)), .ref b, .ref (am 0)]) (congrArg (fun z9 => F0 m 1416 ls [.int z9, .ref b, .ref (am 0)]) (show nI (7 * i) + 1 = nI (7 * i + 1) from nI_addE rfl (by decide +kernel))) ?_
  refine va_sld hx hb hX hbl hbA hS (i := nI (7 * i + 1)) (vp_in_nI (by omega) (by omega)) dL_law_1416 ?_
  refine sp_callm (va_runV (As := [.int (xs (nI (7 * i + 1)).toNatClampNeg)]) (rest := []) ⟨hx, hb, hml, hown, hts⟩ (c_X10_isLate l D am cy μ _ hA.2.1 n t hbr.1 (xs (nI (7 * i + 1)).toNatClampNeg)) (cwV 1 hts gL_law_X10_isLate rfl rfl rfl (by decide +kernel) ⟨Nat.le_of_ble_eq_true rfl, Nat.le_of_ble_eq_true rfl⟩) (sp_preVm hKg hW.2.2.1 (κ := 0) (by decide) mE_0 rfl) rfl rfl hl.1 rfl (lv_room (Nat.le_of_ble_eq_true rfl)) dL_law_1417 ⟨by show cells + 1 + 0 ≤ 606307; omega, by show slots + 6 + 0 ≤ 7176832; omega⟩) hS (fun q _ h => lwAm hA hS q h) (fun q h => lwAm hA hS q h) (fun H3 locs3 hPm hle hfr hS => ?_)
  have hW := hW.model hPm hfr
  refine lv_topi (fun b7 eb7 => ?_)
  refine lv_istore (lv' := [(7, .int b7), (6, .int k6), (0, .ref b), (1, .ref (ad 429)), (2, .ref (am 0)), (3, .ref qo), (4, .ref qd), (5, .int (nI (7 * i)))]) hx hb dL_law_1420 hl (by decide) rfl (fun ls hl => ?_)
  refine lv_aload_n hx hb dL_law_1422 rfl (lv_at hl 4 rfl) ?_
  refine sp_call (W.runV (As := []) (rest := []) ⟨hx, hb, hml, hown, hts⟩ (c_X10_thrown l D am cy _) (cwV 0 hts gL_law_X10_thrown rfl rfl rfl (by decide +kernel) ⟨Nat.le_of_ble_eq_true rfl, Nat.le_of_ble_eq_true rfl⟩) (sp_preV hKg hW.2.2.1 (κ := 0) (by decide) mE_0 rfl) rfl rfl hl.1 rfl (lv_room (Nat.le_of_ble_eq_true rfl)) dL_law_1423 ⟨by show cells + 1 + 0 + 0 ≤ 606307; omega, by show slots + 6 + 0 + 0 ≤ 7176832; omega⟩) ?_
  refine lv_iload hx hb dL_law_1426 (lv_at hl 1 rfl) ?_
  have hp2 := AG.p2 (ag_is hbr (xs (nI (7 * i + 1)).toNatClampNeg) (w := 8) (j := 9) (fun k hk => (hbr.pe hk).2.2.2.2.2.2.2.2)) hR hB6
  refine lv_icmp_eq (tgt := 1433) hx hb dL_law_1428 (by decide) (fun c_1 => ?_) (fun c_1 => absurd (hp2.1.trans ek6.symm) c_1)
  refine lv_iload hx hb dL_law_1433 (lv_at hl 1 rfl) ?_
  obtain ⟨f2, rfl, hf2⟩ := outL hO
  have fin : W p l e room_1 s m args below meth c H3 locs3 (cells + 1 + 0) (slots + 6 + 0) Q (F0 m 1457 ls []) := by
    refine lv_goto (tgt := 3617) hx hb dL_law_1457 (by decide) ?_
    refine W.widen (k := cells + 60) (n := slots + 240) (by omega) (by omega) ?_
    exact ih _ _ _ _ _ _ _ _ _ _ hW (hp2.rr hO) hS (lv_sub hl [2, 3, 4, 5, 6, 7] rfl)
  refine lv_if_ne (tgt := 1457) hx hb dL_law_1435 (by decide) (fun c_2 => fin) (fun c_2 => ?_)
  have hn := kC_0 (by decide) (ek6.symm.trans c_2)
  have hok := (hp2.2.1 hn).1
  have hv := hf2 hn
  have hPq : va_P D vwCl [(qo, eL cl f2)] H3 := wCons hW.2.2.2.1 (fun k x hx9 => by (cases hx9))
  refine lv_aload_n hx hb dL_law_1438 rfl (lv_at hl 5 rfl) ?_
  refine lv_iconst (v := 0) hx hb dL_law_1439 (by decide) ?_
  refine va_lald hx hb hK hPq 0 6 rfl rfl (i := 0) vp01 dL_law_1440 ?_
  refine lv_iload hx hb dL_law_1441 (lv_at hl 0 rfl) ?_
  have hb7 : b7 = 0 ∨ b7 = 1 := by rw [eb7]; exact b2i_01 _
  suffices key : W p l e room_1 s m args below meth c H3 locs3 (cells + 1 + 0) (slots + 6 + 0) Q (F0 m 1451 ls [.long (Int32.toInt64 b7), .long (f2 (0 : Int32).toNatClampNeg)]) by
    refine lv_if_eq (tgt := 1450) hx hb dL_law_1443 (by decide) (fun c_3 => ?_) (fun c_3 => ?_)
    · refine lv_lconst (v := 0) hx hb dL_law_1450 rfl ?_
      exact W.eq (g2 := F0 m 1451 ls [.long (Int32.toInt64 b7), .long (f2 (0 : Int32).toNatClampNeg)]) (by rw [c_3]; rfl) key
    · refine lv_lconst (v := 1) hx hb dL_law_1446 rfl ?_
      refine lv_goto (tgt := 1451) hx hb dL_law_1447 (by decide) ?_
      exact W.eq (g2 := F0 m 1451 ls [.long (Int32.toInt64 b7), .long (f2 (0 : Int32).toNatClampNeg)]) (by rw [hb7.resolve_left c_3]; rfl) key
  refine W.lcmp hx hb dL_law_1451 ?_
  refine lv_if_eq (tgt := 1457) hx hb dL_law_1452 (by decide) (fun _ => fin) (fun c_4 => absurd (lg_same (hv.trans (congrArg Int32.toInt64 (hok.trans eb7.symm)))) c_4)
set_option maxHeartbeats 4000000 in
set_option maxRecDepth 100000 in
theorem lc_18 (E0 : LE p l s m c args b L xs D cy cl cd xq) (hi : 7 * i + 7 ≤ L) (hL : L ≤ 3584) (hcl : cells + 60 ≤ 606307) (hsl : slots + 240 ≤ 7176832) (hW : LW s.heap.size D cy ad am qo qd pm rj rc σ μ (eL cl f) (eD cd g) H) (hR : RR B σ pm rc μ) (hB : B ≤ 20 * i + 1) (hS : va_S (fun q => s.heap.size ≤ q) s.heap H locs) (hl : lv_has ls 9 [(0, .ref b), (1, .ref (ad 429)), (2, .ref (am 0)), (3, .ref qo), (4, .ref qd), (5, .int (nI (7 * i)))]) (ih : LIH p l e s m args below meth c D cy cl cd ad am qo qd b i B cells slots Q) : W p l e room_1 s m args below meth c H locs cells slots Q (F0 m 1460 ls []) := by
  obtain ⟨hx, hb, hml, hown, hts, hX, hbl, hst, hK, hE0, hNC⟩ := E0
  have hbA : ¬ (fun q : Nat => s.heap.size ≤ q) b := Nat.not_le.mpr hbl
  obtain ⟨n, t, pi, ro, hbr⟩ := hR.1
  obtain ⟨⟨ch, hc8, hch, -⟩, hpm, -⟩ := hR.2.1
  have hRJ := hR.2.2.2.1
  have hB6 : B + 20 < 1000000 := by omega
  have hA := hW.1
  have hKg := hK.sub (tys' := tyG cy) [0, 1, 2, 3, 4, 5] rfl
  refine lv_aload_n hx hb dL_law_1460 rfl (lv_at hl 1 rfl) ?_
  refine lv_aload_n hx hb dL_law_1461 rfl (lv_at hl 0 rfl) ?_
  refine lv_iload hx hb dL_law_1462 (lv_at hl 5 rfl) ?_
  refine lv_iconst (v := 1) hx hb dL_law_1464 (by decide) ?_
  refine lv_iadd hx hb dL_law_1465 ?_
  refine W.eq (g2 := F0 m 1466 ls [.int (nI (7 * i + 1)), .ref b, .ref (ad 429)]) (congrArg (fun z9 => F0 m 1466 ls [.int z9, .ref b, .ref (ad 429)]) (show nI (7 * i) + 1 = nI (7 * i + 1) from nI_addE rfl (by decide +kernel))) ?_
  refine va_sld hx hb hX hbl hbA hS (i := nI (7 * i + 1)) (vp_in_nI (by omega) (by omega)) dL_law_1466 ?_
  refine lv_aload_n hx hb dL_law_1467 rfl (lv_at hl 3 rfl) ?_
  refine LW.call hW (vx_runSW (As := [.ref (ad 429), .int (xs (nI (7 * i + 1)).toNatClampNeg), .ref qo]) (rest := []) ⟨hx, hb, hml, hown, hts⟩ (c_L_previousPrint l D ad cy pm rj σ xq hst _ hA.1 (xs (nI (7 * i + 1)).toNatClampNeg) cl cd qo f g) (vx_cwSW 3 hts gL_law_L_previousPrint rfl rfl rfl (by decide +kernel) ⟨Nat.le_of_ble_eq_true rfl, Nat.le_of_ble_eq_true rfl⟩) (lwPre hW.2.1 hW.2.2.2.1 hK (lwEX hE0 hA hS) hNC (fun k hk => (hA.2.2.2.1 k hk).1) trivial) rfl rfl hl.1 rfl (lv_room (Nat.le_of_ble_eq_true rfl)) dL_law_1468 ⟨by show cells + 2 ≤ 606307; omega, by show slots + 12 ≤ 7176832; omega⟩) hS (fun H2 locs2 pm2 rj2 rc2 σ2 e2 hW hO hS => ?_)
  refine lv_topi (fun k6 ek6 => ?_)
  refine lv_istore (lv' := [(6, .int k6), (0, .ref b), (1, .ref (ad 429)), (2, .ref (am 0)), (3, .ref qo), (4, .ref qd), (5, .int (nI (7 * i)))]) hx hb dL_law_1471 hl (by decide) rfl (fun ls hl => ?_)
  refine lv_aload_n hx hb dL_law_1473 rfl (lv_at hl 3 rfl) ?_
  refine lv_aload_n hx hb dL_law_1474 rfl (lv_at hl 1 rfl) ?_
  refine lv_iload hx hb dL_law_1475 (lv_at hl 6 rfl) ?_
  refine lv_iconst (v := 1) hx hb dL_law_1477 (by decide) ?_
  refine lv_iadd hx hb dL_law_1478 ?_
  refine W.eq (g2 := F0 m 1479 ls [.int (nI (7 * i + 1)), .ref b, .ref (am 0)]) (congrArg (fun z9 => F0 m 1479 ls [.int z9, .ref b, .ref (am 0)]) (show nI (7 * i) + 1 = nI (7 * i + 1) from nI_addE rfl (by decide +kernel))) ?_
  refine va_sld hx hb hX hbl hbA hS (i := nI (7 * i + 1)) (vp_in_nI (by omega) (by omega)) dL_law_1479 ?_
  refine sp_callm (va_runV (As := [.int (xs (nI (7 * i + 1)).toNatClampNeg)]) (rest := []) ⟨hx, hb, hml, hown, hts⟩ (c_X10_previousPrint l D am cy μ _ hA.2.1 n t hbr.1 (xs (nI (7 * i + 1)).toNatClampNeg)) (cwV 1 hts gL_law_X10_previousPrint rfl rfl rfl (by decide +kernel) ⟨Nat.le_of_ble_eq_true rfl, Nat.le_of_ble_eq_true rfl⟩) (sp_preVm hKg hW.2.2.1 (κ := 0) (by decide) mE_0 rfl) rfl rfl hl.1 rfl (lv_room (Nat.le_of_ble_eq_true rfl)) dL_law_1480 ⟨by show cells + 2 + 0 ≤ 606307; omega, by show slots + 12 + 0 ≤ 7176832; omega⟩) hS (fun q _ h => lwAm hA hS q h) (fun q h => lwAm hA hS q h) (fun H3 locs3 hPm hle hfr hS => ?_)
  have hW := hW.model hPm hfr
  refine lv_topi (fun b7 eb7 => ?_)
  refine lv_istore (lv' := [(7, .int b7), (6, .int k6), (0, .ref b), (1, .ref (ad 429)), (2, .ref (am 0)), (3, .ref qo), (4, .ref qd), (5, .int (nI (7 * i)))]) hx hb dL_law_1483 hl (by decide) rfl (fun ls hl => ?_)
  refine lv_aload_n hx hb dL_law_1485 rfl (lv_at hl 4 rfl) ?_
  refine sp_call (W.runV (As := []) (rest := []) ⟨hx, hb, hml, hown, hts⟩ (c_X10_thrown l D am cy _) (cwV 0 hts gL_law_X10_thrown rfl rfl rfl (by decide +kernel) ⟨Nat.le_of_ble_eq_true rfl, Nat.le_of_ble_eq_true rfl⟩) (sp_preV hKg hW.2.2.1 (κ := 0) (by decide) mE_0 rfl) rfl rfl hl.1 rfl (lv_room (Nat.le_of_ble_eq_true rfl)) dL_law_1486 ⟨by show cells + 2 + 0 + 0 ≤ 606307; omega, by show slots + 12 + 0 + 0 ≤ 7176832; omega⟩) ?_
  refine lv_iload hx hb dL_law_1489 (lv_at hl 1 rfl) ?_
  have hp2 := AG.p2 (ag_prev hbr (xs (nI (7 * i + 1)).toNatClampNeg)) hR hB6
  refine lv_icmp_eq (tgt := 1496) hx hb dL_law_1491 (by decide) (fun c_1 => ?_) (fun c_1 => absurd (hp2.1.trans ek6.symm) c_1)
  refine lv_iload hx hb dL_law_1496 (lv_at hl 1 rfl) ?_
  obtain ⟨f2, rfl, hf2⟩ := outL hO
  have fin : W p l e room_1 s m args below meth c H3 locs3 (cells + 2 + 0) (slots + 12 + 0) Q (F0 m 1513 ls []) := by
    refine lv_goto (tgt := 3617) hx hb dL_law_1513 (by decide) ?_
    refine W.widen (k := cells + 60) (n := slots + 240) (by omega) (by omega) ?_
    exact ih _ _ _ _ _ _ _ _ _ _ hW (hp2.rr hO) hS (lv_sub hl [2, 3, 4, 5, 6, 7] rfl)
  refine lv_if_ne (tgt := 1513) hx hb dL_law_1498 (by decide) (fun c_2 => fin) (fun c_2 => ?_)
  have hn := kC_0 (by decide) (ek6.symm.trans c_2)
  have hok := (hp2.2.1 hn).1
  have hv := hf2 hn
  have hPq : va_P D vwCl [(qo, eL cl f2)] H3 := wCons hW.2.2.2.1 (fun k x hx9 => by (cases hx9))
  refine lv_aload_n hx hb dL_law_1501 rfl (lv_at hl 5 rfl) ?_
  refine lv_iconst (v := 0) hx hb dL_law_1502 (by decide) ?_
  refine va_lald hx hb hK hPq 0 6 rfl rfl (i := 0) vp01 dL_law_1503 ?_
  refine lv_iload hx hb dL_law_1504 (lv_at hl 0 rfl) ?_
  refine lv_i2l (v := Int32.toInt64 b7) hx hb dL_law_1506 rfl ?_
  refine W.lcmp hx hb dL_law_1507 ?_
  refine lv_if_eq (tgt := 1513) hx hb dL_law_1508 (by decide) (fun _ => fin) (fun c_4 => absurd (lg_same (hv.trans (congrArg Int32.toInt64 (hok.trans eb7.symm)))) c_4)
set_option maxHeartbeats 4000000 in
set_option maxRecDepth 100000 in
theorem lc_19 (E0 : LE p l s m c args b L xs D cy cl cd xq) (hi : 7 * i + 7 ≤ L) (hL : L ≤ 3584) (hcl : cells + 60 ≤ 606307) (hsl : slots + 240 ≤ 7176832) (hW : LW s.heap.size D cy ad am qo qd pm rj rc σ μ (eL cl f) (eD cd g) H) (hR : RR B σ pm rc μ) (hB : B ≤ 20 * i + 1) (hS : va_S (fun q => s.heap.size ≤ q) s.heap H locs) (hl : lv_has ls 9 [(0, .ref b), (1, .ref (ad 429)), (2, .ref (am 0)), (3, .ref qo), (4, .ref qd), (5, .int (nI (7 * i)))]) (ih : LIH p l e s m args below meth c D cy cl cd ad am qo qd b i B cells slots Q) : W p l e room_1 s m args below meth c H locs cells slots Q (F0 m 1516 ls []) := by
  obtain ⟨hx, hb, hml, hown, hts, hX, hbl, hst, hK, hE0, hNC⟩ := E0
  have hbA : ¬ (fun q : Nat => s.heap.size ≤ q) b := Nat.not_le.mpr hbl
  obtain ⟨n, t, pi, ro, hbr⟩ := hR.1
  obtain ⟨⟨ch, hc8, hch, -⟩, hpm, -⟩ := hR.2.1
  have hRJ := hR.2.2.2.1
  have hB6 : B + 20 < 1000000 := by omega
  have hA := hW.1
  have hKg := hK.sub (tys' := tyG cy) [0, 1, 2, 3, 4, 5] rfl
  refine lv_aload_n hx hb dL_law_1516 rfl (lv_at hl 1 rfl) ?_
  refine lv_aload_n hx hb dL_law_1517 rfl (lv_at hl 0 rfl) ?_
  refine lv_iload hx hb dL_law_1518 (lv_at hl 5 rfl) ?_
  refine lv_iconst (v := 1) hx hb dL_law_1520 (by decide) ?_
  refine lv_iadd hx hb dL_law_1521 ?_
  refine W.eq (g2 := F0 m 1522 ls [.int (nI (7 * i + 1)), .ref b, .ref (ad 429)]) (congrArg (fun z9 => F0 m 1522 ls [.int z9, .ref b, .ref (ad 429)]) (show nI (7 * i) + 1 = nI (7 * i + 1) from nI_addE rfl (by decide +kernel))) ?_
  refine va_sld hx hb hX hbl hbA hS (i := nI (7 * i + 1)) (vp_in_nI (by omega) (by omega)) dL_law_1522 ?_
  refine lv_aload_n hx hb dL_law_1523 rfl (lv_at hl 3 rfl) ?_
  refine LW.call hW (vx_runSW (As := [.ref (ad 429), .int (xs (nI (7 * i + 1)).toNatClampNeg), .ref qo]) (rest := []) ⟨hx, hb, hml, hown, hts⟩ (c_L_nextPrint l D ad cy pm rj σ xq hst _ hA.1 (xs (nI (7 * i + 1)).toNatClampNeg) cl cd qo f g) (vx_cwSW 3 hts gL_law_L_nextPrint rfl rfl rfl (by decide +kernel) ⟨Nat.le_of_ble_eq_true rfl, Nat.le_of_ble_eq_true rfl⟩) (lwPre hW.2.1 hW.2.2.2.1 hK (lwEX hE0 hA hS) hNC (fun k hk => (hA.2.2.2.1 k hk).1) trivial) rfl rfl hl.1 rfl (lv_room (Nat.le_of_ble_eq_true rfl)) dL_law_1524 ⟨by show cells + 2 ≤ 606307; omega, by show slots + 12 ≤ 7176832; omega⟩) hS (fun H2 locs2 pm2 rj2 rc2 σ2 e2 hW hO hS => ?_)
  refine lv_topi (fun k6 ek6 => ?_)
  refine lv_istore (lv' := [(6, .int k6), (0, .ref b), (1, .ref (ad 429)), (2, .ref (am 0)), (3, .ref qo), (4, .ref qd), (5, .int (nI (7 * i)))]) hx hb dL_law_1527 hl (by decide) rfl (fun ls hl => ?_)
  refine lv_aload_n hx hb dL_law_1529 rfl (lv_at hl 3 rfl) ?_
  refine lv_aload_n hx hb dL_law_1530 rfl (lv_at hl 1 rfl) ?_
  refine lv_iload hx hb dL_law_1531 (lv_at hl 6 rfl) ?_
  refine lv_iconst (v := 1) hx hb dL_law_1533 (by decide) ?_
  refine lv_iadd hx hb dL_law_1534 ?_
  refine W.eq (g2 := F0 m 1535 ls [.int (nI (7 * i + 1)), .ref b, .ref (am 0)]) (congrArg (fun z9 => F0 m 1535 ls [.int z9, .ref b, .ref (am 0)]) (show nI (7 * i) + 1 = nI (7 * i + 1) from nI_addE rfl (by decide +kernel))) ?_
  refine va_sld hx hb hX hbl hbA hS (i := nI (7 * i + 1)) (vp_in_nI (by omega) (by omega)) dL_law_1535 ?_
  refine sp_callm (va_runV (As := [.int (xs (nI (7 * i + 1)).toNatClampNeg)]) (rest := []) ⟨hx, hb, hml, hown, hts⟩ (c_X10_nextPrint l D am cy μ _ hA.2.1 n t hbr.1 (xs (nI (7 * i + 1)).toNatClampNeg)) (cwV 1 hts gL_law_X10_nextPrint rfl rfl rfl (by decide +kernel) ⟨Nat.le_of_ble_eq_true rfl, Nat.le_of_ble_eq_true rfl⟩) (sp_preVm hKg hW.2.2.1 (κ := 0) (by decide) mE_0 rfl) rfl rfl hl.1 rfl (lv_room (Nat.le_of_ble_eq_true rfl)) dL_law_1536 ⟨by show cells + 2 + 0 ≤ 606307; omega, by show slots + 12 + 0 ≤ 7176832; omega⟩) hS (fun q _ h => lwAm hA hS q h) (fun q h => lwAm hA hS q h) (fun H3 locs3 hPm hle hfr hS => ?_)
  have hW := hW.model hPm hfr
  refine lv_topi (fun b7 eb7 => ?_)
  refine lv_istore (lv' := [(7, .int b7), (6, .int k6), (0, .ref b), (1, .ref (ad 429)), (2, .ref (am 0)), (3, .ref qo), (4, .ref qd), (5, .int (nI (7 * i)))]) hx hb dL_law_1539 hl (by decide) rfl (fun ls hl => ?_)
  refine lv_aload_n hx hb dL_law_1541 rfl (lv_at hl 4 rfl) ?_
  refine sp_call (W.runV (As := []) (rest := []) ⟨hx, hb, hml, hown, hts⟩ (c_X10_thrown l D am cy _) (cwV 0 hts gL_law_X10_thrown rfl rfl rfl (by decide +kernel) ⟨Nat.le_of_ble_eq_true rfl, Nat.le_of_ble_eq_true rfl⟩) (sp_preV hKg hW.2.2.1 (κ := 0) (by decide) mE_0 rfl) rfl rfl hl.1 rfl (lv_room (Nat.le_of_ble_eq_true rfl)) dL_law_1542 ⟨by show cells + 2 + 0 + 0 ≤ 606307; omega, by show slots + 12 + 0 + 0 ≤ 7176832; omega⟩) ?_
  refine lv_iload hx hb dL_law_1545 (lv_at hl 1 rfl) ?_
  have hp2 := AG.p2 (ag_next hbr (xs (nI (7 * i + 1)).toNatClampNeg)) hR hB6
  refine lv_icmp_eq (tgt := 1552) hx hb dL_law_1547 (by decide) (fun c_1 => ?_) (fun c_1 => absurd (hp2.1.trans ek6.symm) c_1)
  refine lv_iload hx hb dL_law_1552 (lv_at hl 1 rfl) ?_
  obtain ⟨f2, rfl, hf2⟩ := outL hO
  have fin : W p l e room_1 s m args below meth c H3 locs3 (cells + 2 + 0) (slots + 12 + 0) Q (F0 m 1569 ls []) := by
    refine lv_goto (tgt := 3617) hx hb dL_law_1569 (by decide) ?_
    refine W.widen (k := cells + 60) (n := slots + 240) (by omega) (by omega) ?_
    exact ih _ _ _ _ _ _ _ _ _ _ hW (hp2.rr hO) hS (lv_sub hl [2, 3, 4, 5, 6, 7] rfl)
  refine lv_if_ne (tgt := 1569) hx hb dL_law_1554 (by decide) (fun c_2 => fin) (fun c_2 => ?_)
  have hn := kC_0 (by decide) (ek6.symm.trans c_2)
  have hok := (hp2.2.1 hn).1
  have hv := hf2 hn
  have hPq : va_P D vwCl [(qo, eL cl f2)] H3 := wCons hW.2.2.2.1 (fun k x hx9 => by (cases hx9))
  refine lv_aload_n hx hb dL_law_1557 rfl (lv_at hl 5 rfl) ?_
  refine lv_iconst (v := 0) hx hb dL_law_1558 (by decide) ?_
  refine va_lald hx hb hK hPq 0 6 rfl rfl (i := 0) vp01 dL_law_1559 ?_
  refine lv_iload hx hb dL_law_1560 (lv_at hl 0 rfl) ?_
  refine lv_i2l (v := Int32.toInt64 b7) hx hb dL_law_1562 rfl ?_
  refine W.lcmp hx hb dL_law_1563 ?_
  refine lv_if_eq (tgt := 1569) hx hb dL_law_1564 (by decide) (fun _ => fin) (fun c_4 => absurd (lg_same (hv.trans (congrArg Int32.toInt64 (hok.trans eb7.symm)))) c_4)
set_option maxHeartbeats 4000000 in
set_option maxRecDepth 100000 in
theorem lc_20 (E0 : LE p l s m c args b L xs D cy cl cd xq) (hi : 7 * i + 7 ≤ L) (hL : L ≤ 3584) (hcl : cells + 60 ≤ 606307) (hsl : slots + 240 ≤ 7176832) (hW : LW s.heap.size D cy ad am qo qd pm rj rc σ μ (eL cl f) (eD cd g) H) (hR : RR B σ pm rc μ) (hB : B ≤ 20 * i + 1) (hS : va_S (fun q => s.heap.size ≤ q) s.heap H locs) (hl : lv_has ls 9 [(0, .ref b), (1, .ref (ad 429)), (2, .ref (am 0)), (3, .ref qo), (4, .ref qd), (5, .int (nI (7 * i)))]) (ih : LIH p l e s m args below meth c D cy cl cd ad am qo qd b i B cells slots Q) : W p l e room_1 s m args below meth c H locs cells slots Q (F0 m 1572 ls []) := by
  obtain ⟨hx, hb, hml, hown, hts, hX, hbl, hst, hK, hE0, hNC⟩ := E0
  have hbA : ¬ (fun q : Nat => s.heap.size ≤ q) b := Nat.not_le.mpr hbl
  obtain ⟨n, t, pi, ro, hbr⟩ := hR.1
  obtain ⟨⟨ch, hc8, hch, -⟩, hpm, -⟩ := hR.2.1
  have hRJ := hR.2.2.2.1
  have hB6 : B + 20 < 1000000 := by omega
  have hA := hW.1
  have hKg := hK.sub (tys' := tyG cy) [0, 1, 2, 3, 4, 5] rfl
  refine lv_aload_n hx hb dL_law_1572 rfl (lv_at hl 1 rfl) ?_
  refine lv_aload_n hx hb dL_law_1573 rfl (lv_at hl 0 rfl) ?_
  refine lv_iload hx hb dL_law_1574 (lv_at hl 5 rfl) ?_
  refine lv_iconst (v := 1) hx hb dL_law_1576 (by decide) ?_
  refine lv_iadd hx hb dL_law_1577 ?_
  refine W.eq (g2 := F0 m 1578 ls [.int (nI (7 * i + 1)), .ref b, .ref (ad 429)]) (congrArg (fun z9 => F0 m 1578 ls [.int z9, .ref b, .ref (ad 429)]) (show nI (7 * i) + 1 = nI (7 * i + 1) from nI_addE rfl (by decide +kernel))) ?_
  refine va_sld hx hb hX hbl hbA hS (i := nI (7 * i + 1)) (vp_in_nI (by omega) (by omega)) dL_law_1578 ?_
  refine lv_aload_n hx hb dL_law_1579 rfl (lv_at hl 3 rfl) ?_
  refine LW.call hW (vx_runSW (As := [.ref (ad 429), .int (xs (nI (7 * i + 1)).toNatClampNeg), .ref qo]) (rest := []) ⟨hx, hb, hml, hown, hts⟩ (c_L_strideOf l D ad cy pm rj σ xq hst _ hA.1 (xs (nI (7 * i + 1)).toNatClampNeg) cl cd qo f g) (vx_cwSW 3 hts gL_law_L_strideOf rfl rfl rfl (by decide +kernel) ⟨Nat.le_of_ble_eq_true rfl, Nat.le_of_ble_eq_true rfl⟩) (lwPre hW.2.1 hW.2.2.2.1 hK (lwEX hE0 hA hS) hNC (fun k hk => (hA.2.2.2.1 k hk).1) trivial) rfl rfl hl.1 rfl (lv_room (Nat.le_of_ble_eq_true rfl)) dL_law_1580 ⟨by show cells + 2 ≤ 606307; omega, by show slots + 12 ≤ 7176832; omega⟩) hS (fun H2 locs2 pm2 rj2 rc2 σ2 e2 hW hO hS => ?_)
  refine lv_topi (fun k6 ek6 => ?_)
  refine lv_istore (lv' := [(6, .int k6), (0, .ref b), (1, .ref (ad 429)), (2, .ref (am 0)), (3, .ref qo), (4, .ref qd), (5, .int (nI (7 * i)))]) hx hb dL_law_1583 hl (by decide) rfl (fun ls hl => ?_)
  refine lv_aload_n hx hb dL_law_1585 rfl (lv_at hl 3 rfl) ?_
  refine lv_aload_n hx hb dL_law_1586 rfl (lv_at hl 1 rfl) ?_
  refine lv_iload hx hb dL_law_1587 (lv_at hl 6 rfl) ?_
  refine lv_iconst (v := 1) hx hb dL_law_1589 (by decide) ?_
  refine lv_iadd hx hb dL_law_1590 ?_
  refine W.eq (g2 := F0 m 1591 ls [.int (nI (7 * i + 1)), .ref b, .ref (am 0)]) (congrArg (fun z9 => F0 m 1591 ls [.int z9, .ref b, .ref (am 0)]) (show nI (7 * i) + 1 = nI (7 * i + 1) from nI_addE rfl (by decide +kernel))) ?_
  refine va_sld hx hb hX hbl hbA hS (i := nI (7 * i + 1)) (vp_in_nI (by omega) (by omega)) dL_law_1591 ?_
  refine sp_callm (va_runV (As := [.int (xs (nI (7 * i + 1)).toNatClampNeg)]) (rest := []) ⟨hx, hb, hml, hown, hts⟩ (c_X10_strideOf l D am cy μ _ hA.2.1 n t hbr.1 (xs (nI (7 * i + 1)).toNatClampNeg)) (cwV 1 hts gL_law_X10_strideOf rfl rfl rfl (by decide +kernel) ⟨Nat.le_of_ble_eq_true rfl, Nat.le_of_ble_eq_true rfl⟩) (sp_preVm hKg hW.2.2.1 (κ := 0) (by decide) mE_0 rfl) rfl rfl hl.1 rfl (lv_room (Nat.le_of_ble_eq_true rfl)) dL_law_1592 ⟨by show cells + 2 + 0 ≤ 606307; omega, by show slots + 12 + 0 ≤ 7176832; omega⟩) hS (fun q _ h => lwAm hA hS q h) (fun q h => lwAm hA hS q h) (fun H3 locs3 hPm hle hfr hS => ?_)
  have hW := hW.model hPm hfr
  refine lv_topi (fun b7 eb7 => ?_)
  refine lv_istore (lv' := [(7, .int b7), (6, .int k6), (0, .ref b), (1, .ref (ad 429)), (2, .ref (am 0)), (3, .ref qo), (4, .ref qd), (5, .int (nI (7 * i)))]) hx hb dL_law_1595 hl (by decide) rfl (fun ls hl => ?_)
  refine lv_aload_n hx hb dL_law_1597 rfl (lv_at hl 4 rfl) ?_
  refine sp_call (W.runV (As := []) (rest := []) ⟨hx, hb, hml, hown, hts⟩ (c_X10_thrown l D am cy _) (cwV 0 hts gL_law_X10_thrown rfl rfl rfl (by decide +kernel) ⟨Nat.le_of_ble_eq_true rfl, Nat.le_of_ble_eq_true rfl⟩) (sp_preV hKg hW.2.2.1 (κ := 0) (by decide) mE_0 rfl) rfl rfl hl.1 rfl (lv_room (Nat.le_of_ble_eq_true rfl)) dL_law_1598 ⟨by show cells + 2 + 0 + 0 ≤ 606307; omega, by show slots + 12 + 0 + 0 ≤ 7176832; omega⟩) ?_
  refine lv_iload hx hb dL_law_1601 (lv_at hl 1 rfl) ?_
  have hp2 := AG.p2 (ag_stride hbr (xs (nI (7 * i + 1)).toNatClampNeg)) hR hB6
  refine lv_icmp_eq (tgt := 1608) hx hb dL_law_1603 (by decide) (fun c_1 => ?_) (fun c_1 => absurd (hp2.1.trans ek6.symm) c_1)
  refine lv_iload hx hb dL_law_1608 (lv_at hl 1 rfl) ?_
  obtain ⟨f2, rfl, hf2⟩ := outL hO
  have fin : W p l e room_1 s m args below meth c H3 locs3 (cells + 2 + 0) (slots + 12 + 0) Q (F0 m 1625 ls []) := by
    refine lv_goto (tgt := 3617) hx hb dL_law_1625 (by decide) ?_
    refine W.widen (k := cells + 60) (n := slots + 240) (by omega) (by omega) ?_
    exact ih _ _ _ _ _ _ _ _ _ _ hW (hp2.rr hO) hS (lv_sub hl [2, 3, 4, 5, 6, 7] rfl)
  refine lv_if_ne (tgt := 1625) hx hb dL_law_1610 (by decide) (fun c_2 => fin) (fun c_2 => ?_)
  have hn := kC_0 (by decide) (ek6.symm.trans c_2)
  have hok := (hp2.2.1 hn).1
  have hv := hf2 hn
  have hPq : va_P D vwCl [(qo, eL cl f2)] H3 := wCons hW.2.2.2.1 (fun k x hx9 => by (cases hx9))
  refine lv_aload_n hx hb dL_law_1613 rfl (lv_at hl 5 rfl) ?_
  refine lv_iconst (v := 0) hx hb dL_law_1614 (by decide) ?_
  refine va_lald hx hb hK hPq 0 6 rfl rfl (i := 0) vp01 dL_law_1615 ?_
  refine lv_iload hx hb dL_law_1616 (lv_at hl 0 rfl) ?_
  refine lv_i2l (v := Int32.toInt64 b7) hx hb dL_law_1618 rfl ?_
  refine W.lcmp hx hb dL_law_1619 ?_
  refine lv_if_eq (tgt := 1625) hx hb dL_law_1620 (by decide) (fun _ => fin) (fun c_4 => absurd (lg_same (hv.trans (congrArg Int32.toInt64 (hok.trans eb7.symm)))) c_4)
set_option maxHeartbeats 4000000 in
set_option maxRecDepth 100000 in
theorem lc_21 (E0 : LE p l s m c args b L xs D cy cl cd xq) (hi : 7 * i + 7 ≤ L) (hL : L ≤ 3584) (hcl : cells + 60 ≤ 606307) (hsl : slots + 240 ≤ 7176832) (hW : LW s.heap.size D cy ad am qo qd pm rj rc σ μ (eL cl f) (eD cd g) H) (hR : RR B σ pm rc μ) (hB : B ≤ 20 * i + 1) (hS : va_S (fun q => s.heap.size ≤ q) s.heap H locs) (hl : lv_has ls 9 [(0, .ref b), (1, .ref (ad 429)), (2, .ref (am 0)), (3, .ref qo), (4, .ref qd), (5, .int (nI (7 * i)))]) (ih : LIH p l e s m args below meth c D cy cl cd ad am qo qd b i B cells slots Q) : W p l e room_1 s m args below meth c H locs cells slots Q (F0 m 1628 ls []) := by
  obtain ⟨hx, hb, hml, hown, hts, hX, hbl, hst, hK, hE0, hNC⟩ := E0
  have hbA : ¬ (fun q : Nat => s.heap.size ≤ q) b := Nat.not_le.mpr hbl
  obtain ⟨n, t, pi, ro, hbr⟩ := hR.1
  obtain ⟨⟨ch, hc8, hch, -⟩, hpm, -⟩ := hR.2.1
  have hRJ := hR.2.2.2.1
  have hB6 : B + 20 < 1000000 := by omega
  have hA := hW.1
  have hKg := hK.sub (tys' := tyG cy) [0, 1, 2, 3, 4, 5] rfl
  refine lv_aload_n hx hb dL_law_1628 rfl (lv_at hl 1 rfl) ?_
  refine lv_aload_n hx hb dL_law_1629 rfl (lv_at hl 0 rfl) ?_
  refine lv_iload hx hb dL_law_1630 (lv_at hl 5 rfl) ?_
  refine lv_iconst (v := 1) hx hb dL_law_1632 (by decide) ?_
  refine lv_iadd hx hb dL_law_1633 ?_
  refine W.eq (g2 := F0 m 1634 ls [.int (nI (7 * i + 1)), .ref b, .ref (ad 429)]) (congrArg (fun z9 => F0 m 1634 ls [.int z9, .ref b, .ref (ad 429)]) (show nI (7 * i) + 1 = nI (7 * i + 1) from nI_addE rfl (by decide +kernel))) ?_
  refine va_sld hx hb hX hbl hbA hS (i := nI (7 * i + 1)) (vp_in_nI (by omega) (by omega)) dL_law_1634 ?_
  refine lv_aload_n hx hb dL_law_1635 rfl (lv_at hl 3 rfl) ?_
  refine LW.call hW (vx_runSW (As := [.ref (ad 429), .int (xs (nI (7 * i + 1)).toNatClampNeg), .ref qo]) (rest := []) ⟨hx, hb, hml, hown, hts⟩ (c_L_hasStrideError l D ad cy pm rj σ xq hst _ hA.1 (xs (nI (7 * i + 1)).toNatClampNeg) cl cd qo f g) (vx_cwSW 3 hts gL_law_L_hasStrideError rfl rfl rfl (by decide +kernel) ⟨Nat.le_of_ble_eq_true rfl, Nat.le_of_ble_eq_true rfl⟩) (lwPre hW.2.1 hW.2.2.2.1 hK (lwEX hE0 hA hS) hNC (fun k hk => (hA.2.2.2.1 k hk).1) trivial) rfl rfl hl.1 rfl (lv_room (Nat.le_of_ble_eq_true rfl)) dL_law_1636 ⟨by show cells + 1 ≤ 606307; omega, by show slots + 6 ≤ 7176832; omega⟩) hS (fun H2 locs2 pm2 rj2 rc2 σ2 e2 hW hO hS => ?_)
  refine lv_topi (fun k6 ek6 => ?_)
  refine lv_istore (lv' := [(6, .int k6), (0, .ref b), (1, .ref (ad 429)), (2, .ref (am 0)), (3, .ref qo), (4, .ref qd), (5, .int (nI (7 * i)))]) hx hb dL_law_1639 hl (by decide) rfl (fun ls hl => ?_)
  refine lv_aload_n hx hb dL_law_1641 rfl (lv_at hl 3 rfl) ?_
  refine lv_aload_n hx hb dL_law_1642 rfl (lv_at hl 1 rfl) ?_
  refine lv_iload hx hb dL_law_1643 (lv_at hl 6 rfl) ?_
  refine lv_iconst (v := 1) hx hb dL_law_1645 (by decide) ?_
  refine lv_iadd hx hb dL_law_1646 ?_
  refine W.eq (g2 := F0 m 1647 ls [.int (nI (7 * i + 1)), .ref b, .ref (am 0)]) (congrArg (fun z9 => F0 m 1647 ls [.int z9, .ref b, .ref (am 0)]) (show nI (7 * i) + 1 = nI (7 * i + 1) from nI_addE rfl (by decide +kernel))) ?_
  refine va_sld hx hb hX hbl hbA hS (i := nI (7 * i + 1)) (vp_in_nI (by omega) (by omega)) dL_law_1647 ?_
  refine sp_callm (va_runV (As := [.int (xs (nI (7 * i + 1)).toNatClampNeg)]) (rest := []) ⟨hx, hb, hml, hown, hts⟩ (c_X10_hasStrideError l D am cy μ _ hA.2.1 n t hbr.1 (xs (nI (7 * i + 1)).toNatClampNeg)) (cwV 1 hts gL_law_X10_hasStrideError rfl rfl rfl (by decide +kernel) ⟨Nat.le_of_ble_eq_true rfl, Nat.le_of_ble_eq_true rfl⟩) (sp_preVm hKg hW.2.2.1 (κ := 0) (by decide) mE_0 rfl) rfl rfl hl.1 rfl (lv_room (Nat.le_of_ble_eq_true rfl)) dL_law_1648 ⟨by show cells + 1 + 0 ≤ 606307; omega, by show slots + 6 + 0 ≤ 7176832; omega⟩) hS (fun q _ h => lwAm hA hS q h) (fun q h => lwAm hA hS q h) (fun H3 locs3 hPm hle hfr hS => ?_)
  have hW := hW.model hPm hfr
  refine lv_topi (fun b7 eb7 => ?_)
  refine lv_istore (lv' := [(7, .int b7), (6, .int k6), (0, .ref b), (1, .ref (ad 429)), (2, .ref (am 0)), (3, .ref qo), (4, .ref qd), (5, .int (nI (7 * i)))]) hx hb dL_law_1651 hl (by decide) rfl (fun ls hl => ?_)
  refine lv_aload_n hx hb dL_law_1653 rfl (lv_at hl 4 rfl) ?_
  refine sp_call (W.runV (As := []) (rest := []) ⟨hx, hb, hml, hown, hts⟩ (c_X10_thrown l D am cy _) (cwV 0 hts gL_law_X10_thrown rfl rfl rfl (by decide +kernel) ⟨Nat.le_of_ble_eq_true rfl, Nat.le_of_ble_eq_true rfl⟩) (sp_preV hKg hW.2.2.1 (κ := 0) (by decide) mE_0 rfl) rfl rfl hl.1 rfl (lv_room (Nat.le_of_ble_eq_true rfl)) dL_law_1654 ⟨by show cells + 1 + 0 + 0 ≤ 606307; omega, by show slots + 6 + 0 + 0 ≤ 7176832; omega⟩) ?_
  refine lv_iload hx hb dL_law_1657 (lv_at hl 1 rfl) ?_
  have hp2 := AG.p2 (ag_err hbr (xs (nI (7 * i + 1)).toNatClampNeg) 0 (F := fun i => f_tooLong σ (f_before σ i) i) (fun k hk => hbr.tooLong hk)) hR hB6
  refine lv_icmp_eq (tgt := 1664) hx hb dL_law_1659 (by decide) (fun c_1 => ?_) (fun c_1 => absurd (hp2.1.trans ek6.symm) c_1)
  refine lv_iload hx hb dL_law_1664 (lv_at hl 1 rfl) ?_
  obtain ⟨f2, rfl, hf2⟩ := outL hO
  have fin : W p l e room_1 s m args below meth c H3 locs3 (cells + 1 + 0) (slots + 6 + 0) Q (F0 m 1688 ls []) := by
    refine lv_goto (tgt := 3617) hx hb dL_law_1688 (by decide) ?_
    refine W.widen (k := cells + 60) (n := slots + 240) (by omega) (by omega) ?_
    exact ih _ _ _ _ _ _ _ _ _ _ hW (hp2.rr hO) hS (lv_sub hl [2, 3, 4, 5, 6, 7] rfl)
  refine lv_if_ne (tgt := 1688) hx hb dL_law_1666 (by decide) (fun c_2 => fin) (fun c_2 => ?_)
  have hn := kC_0 (by decide) (ek6.symm.trans c_2)
  have hok := (hp2.2.1 hn).1
  have hv := hf2 hn
  have hPq : va_P D vwCl [(qo, eL cl f2)] H3 := wCons hW.2.2.2.1 (fun k x hx9 => by (cases hx9))
  refine lv_aload_n hx hb dL_law_1669 rfl (lv_at hl 5 rfl) ?_
  refine lv_iconst (v := 0) hx hb dL_law_1670 (by decide) ?_
  refine va_lald hx hb hK hPq 0 6 rfl rfl (i := 0) vp01 dL_law_1671 ?_
  refine lv_iload hx hb dL_law_1672 (lv_at hl 0 rfl) ?_
  have hb7 : b7 = 0 ∨ b7 = 1 := by rw [eb7]; exact b2i_01 _
  suffices key : W p l e room_1 s m args below meth c H3 locs3 (cells + 1 + 0) (slots + 6 + 0) Q (F0 m 1682 ls [.long (Int32.toInt64 b7), .long (f2 (0 : Int32).toNatClampNeg)]) by
    refine lv_if_eq (tgt := 1681) hx hb dL_law_1674 (by decide) (fun c_3 => ?_) (fun c_3 => ?_)
    · refine lv_lconst (v := 0) hx hb dL_law_1681 rfl ?_
      exact W.eq (g2 := F0 m 1682 ls [.long (Int32.toInt64 b7), .long (f2 (0 : Int32).toNatClampNeg)]) (by rw [c_3]; rfl) key
    · refine lv_lconst (v := 1) hx hb dL_law_1677 rfl ?_
      refine lv_goto (tgt := 1682) hx hb dL_law_1678 (by decide) ?_
      exact W.eq (g2 := F0 m 1682 ls [.long (Int32.toInt64 b7), .long (f2 (0 : Int32).toNatClampNeg)]) (by rw [hb7.resolve_left c_3]; rfl) key
  refine W.lcmp hx hb dL_law_1682 ?_
  refine lv_if_eq (tgt := 1688) hx hb dL_law_1683 (by decide) (fun _ => fin) (fun c_4 => absurd (lg_same (hv.trans (congrArg Int32.toInt64 (hok.trans eb7.symm)))) c_4)
set_option maxHeartbeats 4000000 in
set_option maxRecDepth 100000 in
theorem lc_22 (E0 : LE p l s m c args b L xs D cy cl cd xq) (hi : 7 * i + 7 ≤ L) (hL : L ≤ 3584) (hcl : cells + 60 ≤ 606307) (hsl : slots + 240 ≤ 7176832) (hW : LW s.heap.size D cy ad am qo qd pm rj rc σ μ (eL cl f) (eD cd g) H) (hR : RR B σ pm rc μ) (hB : B ≤ 20 * i + 1) (hS : va_S (fun q => s.heap.size ≤ q) s.heap H locs) (hl : lv_has ls 9 [(0, .ref b), (1, .ref (ad 429)), (2, .ref (am 0)), (3, .ref qo), (4, .ref qd), (5, .int (nI (7 * i)))]) (ih : LIH p l e s m args below meth c D cy cl cd ad am qo qd b i B cells slots Q) : W p l e room_1 s m args below meth c H locs cells slots Q (F0 m 1691 ls []) := by
  obtain ⟨hx, hb, hml, hown, hts, hX, hbl, hst, hK, hE0, hNC⟩ := E0
  have hbA : ¬ (fun q : Nat => s.heap.size ≤ q) b := Nat.not_le.mpr hbl
  obtain ⟨n, t, pi, ro, hbr⟩ := hR.1
  obtain ⟨⟨ch, hc8, hch, -⟩, hpm, -⟩ := hR.2.1
  have hRJ := hR.2.2.2.1
  have hB6 : B + 20 < 1000000 := by omega
  have hA := hW.1
  have hKg := hK.sub (tys' := tyG cy) [0, 1, 2, 3, 4, 5] rfl
  refine lv_aload_n hx hb dL_law_1691 rfl (lv_at hl 1 rfl) ?_
  refine lv_aload_n hx hb dL_law_1692 rfl (lv_at hl 0 rfl) ?_
  refine lv_iload hx hb dL_law_1693 (lv_at hl 5 rfl) ?_
  refine lv_iconst (v := 1) hx hb dL_law_1695 (by decide) ?_
  refine lv_iadd hx hb dL_law_1696 ?_
  refine W.eq (g2 := F0 m 1697 ls [.int (nI (7 * i + 1)), .ref b, .ref (ad 429)]) (congrArg (fun z9 => F0 m 1697 ls [.int z9, .ref b, .ref (ad 429)]) (show nI (7 * i) + 1 = nI (7 * i + 1) from nI_addE rfl (by decide +kernel))) ?_
  refine va_sld hx hb hX hbl hbA hS (i := nI (7 * i + 1)) (vp_in_nI (by omega) (by omega)) dL_law_1697 ?_
  refine lv_aload_n hx hb dL_law_1698 rfl (lv_at hl 3 rfl) ?_
  refine LW.call hW (vx_runSW (As := [.ref (ad 429), .int (xs (nI (7 * i + 1)).toNatClampNeg), .ref qo]) (rest := []) ⟨hx, hb, hml, hown, hts⟩ (c_L_hasFootError l D ad cy pm rj σ xq hst _ hA.1 (xs (nI (7 * i + 1)).toNatClampNeg) cl cd qo f g) (vx_cwSW 3 hts gL_law_L_hasFootError rfl rfl rfl (by decide +kernel) ⟨Nat.le_of_ble_eq_true rfl, Nat.le_of_ble_eq_true rfl⟩) (lwPre hW.2.1 hW.2.2.2.1 hK (lwEX hE0 hA hS) hNC (fun k hk => (hA.2.2.2.1 k hk).1) trivial) rfl rfl hl.1 rfl (lv_room (Nat.le_of_ble_eq_true rfl)) dL_law_1699 ⟨by show cells + 1 ≤ 606307; omega, by show slots + 6 ≤ 7176832; omega⟩) hS (fun H2 locs2 pm2 rj2 rc2 σ2 e2 hW hO hS => ?_)
  refine lv_topi (fun k6 ek6 => ?_)
  refine lv_istore (lv' := [(6, .int k6), (0, .ref b), (1, .ref (ad 429)), (2, .ref (am 0)), (3, .ref qo), (4, .ref qd), (5, .int (nI (7 * i)))]) hx hb dL_law_1702 hl (by decide) rfl (fun ls hl => ?_)
  refine lv_aload_n hx hb dL_law_1704 rfl (lv_at hl 3 rfl) ?_
  refine lv_aload_n hx hb dL_law_1705 rfl (lv_at hl 1 rfl) ?_
  refine lv_iload hx hb dL_law_1706 (lv_at hl 6 rfl) ?_
  refine lv_iconst (v := 1) hx hb dL_law_1708 (by decide) ?_
  refine lv_iadd hx hb dL_law_1709 ?_
  refine W.eq (g2 := F0 m 1710 ls [.int (nI (7 * i + 1)), .ref b, .ref (am 0)]) (congrArg (fun z9 => F0 m 1710 ls [.int z9, .ref b, .ref (am 0)]) (show nI (7 * i) + 1 = nI (7 * i + 1) from nI_addE rfl (by decide +kernel))) ?_
  refine va_sld hx hb hX hbl hbA hS (i := nI (7 * i + 1)) (vp_in_nI (by omega) (by omega)) dL_law_1710 ?_
  refine sp_callm (va_runV (As := [.int (xs (nI (7 * i + 1)).toNatClampNeg)]) (rest := []) ⟨hx, hb, hml, hown, hts⟩ (c_X10_hasFootError l D am cy μ _ hA.2.1 n t hbr.1 (xs (nI (7 * i + 1)).toNatClampNeg)) (cwV 1 hts gL_law_X10_hasFootError rfl rfl rfl (by decide +kernel) ⟨Nat.le_of_ble_eq_true rfl, Nat.le_of_ble_eq_true rfl⟩) (sp_preVm hKg hW.2.2.1 (κ := 0) (by decide) mE_0 rfl) rfl rfl hl.1 rfl (lv_room (Nat.le_of_ble_eq_true rfl)) dL_law_1711 ⟨by show cells + 1 + 0 ≤ 606307; omega, by show slots + 6 + 0 ≤ 7176832; omega⟩) hS (fun q _ h => lwAm hA hS q h) (fun q h => lwAm hA hS q h) (fun H3 locs3 hPm hle hfr hS => ?_)
  have hW := hW.model hPm hfr
  refine lv_topi (fun b7 eb7 => ?_)
  refine lv_istore (lv' := [(7, .int b7), (6, .int k6), (0, .ref b), (1, .ref (ad 429)), (2, .ref (am 0)), (3, .ref qo), (4, .ref qd), (5, .int (nI (7 * i)))]) hx hb dL_law_1714 hl (by decide) rfl (fun ls hl => ?_)
  refine lv_aload_n hx hb dL_law_1716 rfl (lv_at hl 4 rfl) ?_
  refine sp_call (W.runV (As := []) (rest := []) ⟨hx, hb, hml, hown, hts⟩ (c_X10_thrown l D am cy _) (cwV 0 hts gL_law_X10_thrown rfl rfl rfl (by decide +kernel) ⟨Nat.le_of_ble_eq_true rfl, Nat.le_of_ble_eq_true rfl⟩) (sp_preV hKg hW.2.2.1 (κ := 0) (by decide) mE_0 rfl) rfl rfl hl.1 rfl (lv_room (Nat.le_of_ble_eq_true rfl)) dL_law_1717 ⟨by show cells + 1 + 0 + 0 ≤ 606307; omega, by show slots + 6 + 0 + 0 ≤ 7176832; omega⟩) ?_
  refine lv_iload hx hb dL_law_1720 (lv_at hl 1 rfl) ?_
  have hp2 := AG.p2 (ag_err hbr (xs (nI (7 * i + 1)).toNatClampNeg) 1 (F := fun i => f_sameFoot σ (f_before σ i) i) (fun k hk => hbr.sameFoot hk)) hR hB6
  refine lv_icmp_eq (tgt := 1727) hx hb dL_law_1722 (by decide) (fun c_1 => ?_) (fun c_1 => absurd (hp2.1.trans ek6.symm) c_1)
  refine lv_iload hx hb dL_law_1727 (lv_at hl 1 rfl) ?_
  obtain ⟨f2, rfl, hf2⟩ := outL hO
  have fin : W p l e room_1 s m args below meth c H3 locs3 (cells + 1 + 0) (slots + 6 + 0) Q (F0 m 1751 ls []) := by
    refine lv_goto (tgt := 3617) hx hb dL_law_1751 (by decide) ?_
    refine W.widen (k := cells + 60) (n := slots + 240) (by omega) (by omega) ?_
    exact ih _ _ _ _ _ _ _ _ _ _ hW (hp2.rr hO) hS (lv_sub hl [2, 3, 4, 5, 6, 7] rfl)
  refine lv_if_ne (tgt := 1751) hx hb dL_law_1729 (by decide) (fun c_2 => fin) (fun c_2 => ?_)
  have hn := kC_0 (by decide) (ek6.symm.trans c_2)
  have hok := (hp2.2.1 hn).1
  have hv := hf2 hn
  have hPq : va_P D vwCl [(qo, eL cl f2)] H3 := wCons hW.2.2.2.1 (fun k x hx9 => by (cases hx9))
  refine lv_aload_n hx hb dL_law_1732 rfl (lv_at hl 5 rfl) ?_
  refine lv_iconst (v := 0) hx hb dL_law_1733 (by decide) ?_
  refine va_lald hx hb hK hPq 0 6 rfl rfl (i := 0) vp01 dL_law_1734 ?_
  refine lv_iload hx hb dL_law_1735 (lv_at hl 0 rfl) ?_
  have hb7 : b7 = 0 ∨ b7 = 1 := by rw [eb7]; exact b2i_01 _
  suffices key : W p l e room_1 s m args below meth c H3 locs3 (cells + 1 + 0) (slots + 6 + 0) Q (F0 m 1745 ls [.long (Int32.toInt64 b7), .long (f2 (0 : Int32).toNatClampNeg)]) by
    refine lv_if_eq (tgt := 1744) hx hb dL_law_1737 (by decide) (fun c_3 => ?_) (fun c_3 => ?_)
    · refine lv_lconst (v := 0) hx hb dL_law_1744 rfl ?_
      exact W.eq (g2 := F0 m 1745 ls [.long (Int32.toInt64 b7), .long (f2 (0 : Int32).toNatClampNeg)]) (by rw [c_3]; rfl) key
    · refine lv_lconst (v := 1) hx hb dL_law_1740 rfl ?_
      refine lv_goto (tgt := 1745) hx hb dL_law_1741 (by decide) ?_
      exact W.eq (g2 := F0 m 1745 ls [.long (Int32.toInt64 b7), .long (f2 (0 : Int32).toNatClampNeg)]) (by rw [hb7.resolve_left c_3]; rfl) key
  refine W.lcmp hx hb dL_law_1745 ?_
  refine lv_if_eq (tgt := 1751) hx hb dL_law_1746 (by decide) (fun _ => fin) (fun c_4 => absurd (lg_same (hv.trans (congrArg Int32.toInt64 (hok.trans eb7.symm)))) c_4)
set_option maxHeartbeats 4000000 in
set_option maxRecDepth 100000 in
theorem lc_23 (E0 : LE p l s m c args b L xs D cy cl cd xq) (hi : 7 * i + 7 ≤ L) (hL : L ≤ 3584) (hcl : cells + 60 ≤ 606307) (hsl : slots + 240 ≤ 7176832) (hW : LW s.heap.size D cy ad am qo qd pm rj rc σ μ (eL cl f) (eD cd g) H) (hR : RR B σ pm rc μ) (hB : B ≤ 20 * i + 1) (hS : va_S (fun q => s.heap.size ≤ q) s.heap H locs) (hl : lv_has ls 9 [(0, .ref b), (1, .ref (ad 429)), (2, .ref (am 0)), (3, .ref qo), (4, .ref qd), (5, .int (nI (7 * i)))]) (ih : LIH p l e s m args below meth c D cy cl cd ad am qo qd b i B cells slots Q) : W p l e room_1 s m args below meth c H locs cells slots Q (F0 m 1754 ls []) := by
  obtain ⟨hx, hb, hml, hown, hts, hX, hbl, hst, hK, hE0, hNC⟩ := E0
  have hbA : ¬ (fun q : Nat => s.heap.size ≤ q) b := Nat.not_le.mpr hbl
  obtain ⟨n, t, pi, ro, hbr⟩ := hR.1
  obtain ⟨⟨ch, hc8, hch, -⟩, hpm, -⟩ := hR.2.1
  have hRJ := hR.2.2.2.1
  have hB6 : B + 20 < 1000000 := by omega
  have hA := hW.1
  have hKg := hK.sub (tys' := tyG cy) [0, 1, 2, 3, 4, 5] rfl
  refine lv_aload_n hx hb dL_law_1754 rfl (lv_at hl 1 rfl) ?_
  refine lv_aload_n hx hb dL_law_1755 rfl (lv_at hl 0 rfl) ?_
  refine lv_iload hx hb dL_law_1756 (lv_at hl 5 rfl) ?_
  refine lv_iconst (v := 1) hx hb dL_law_1758 (by decide) ?_
  refine lv_iadd hx hb dL_law_1759 ?_
  refine W.eq (g2 := F0 m 1760 ls [.int (nI (7 * i + 1)), .ref b, .ref (ad 429)]) (congrArg (fun z9 => F0 m 1760 ls [.int z9, .ref b, .ref (ad 429)]) (show nI (7 * i) + 1 = nI (7 * i + 1) from nI_addE rfl (by decide +kernel))) ?_
  refine va_sld hx hb hX hbl hbA hS (i := nI (7 * i + 1)) (vp_in_nI (by omega) (by omega)) dL_law_1760 ?_
  refine lv_aload_n hx hb dL_law_1761 rfl (lv_at hl 3 rfl) ?_
  refine LW.call hW (vx_runSW (As := [.ref (ad 429), .int (xs (nI (7 * i + 1)).toNatClampNeg), .ref qo]) (rest := []) ⟨hx, hb, hml, hown, hts⟩ (c_L_hasDepthError l D ad cy pm rj σ xq hst _ hA.1 (xs (nI (7 * i + 1)).toNatClampNeg) cl cd qo f g) (vx_cwSW 3 hts gL_law_L_hasDepthError rfl rfl rfl (by decide +kernel) ⟨Nat.le_of_ble_eq_true rfl, Nat.le_of_ble_eq_true rfl⟩) (lwPre hW.2.1 hW.2.2.2.1 hK (lwEX hE0 hA hS) hNC (fun k hk => (hA.2.2.2.1 k hk).1) trivial) rfl rfl hl.1 rfl (lv_room (Nat.le_of_ble_eq_true rfl)) dL_law_1762 ⟨by show cells + 1 ≤ 606307; omega, by show slots + 6 ≤ 7176832; omega⟩) hS (fun H2 locs2 pm2 rj2 rc2 σ2 e2 hW hO hS => ?_)
  refine lv_topi (fun k6 ek6 => ?_)
  refine lv_istore (lv' := [(6, .int k6), (0, .ref b), (1, .ref (ad 429)), (2, .ref (am 0)), (3, .ref qo), (4, .ref qd), (5, .int (nI (7 * i)))]) hx hb dL_law_1765 hl (by decide) rfl (fun ls hl => ?_)
  refine lv_aload_n hx hb dL_law_1767 rfl (lv_at hl 3 rfl) ?_
  refine lv_aload_n hx hb dL_law_1768 rfl (lv_at hl 1 rfl) ?_
  refine lv_iload hx hb dL_law_1769 (lv_at hl 6 rfl) ?_
  refine lv_iconst (v := 1) hx hb dL_law_1771 (by decide) ?_
  refine lv_iadd hx hb dL_law_1772 ?_
  refine W.eq (g2 := F0 m 1773 ls [.int (nI (7 * i + 1)), .ref b, .ref (am 0)]) (congrArg (fun z9 => F0 m 1773 ls [.int z9, .ref b, .ref (am 0)]) (show nI (7 * i) + 1 = nI (7 * i + 1) from nI_addE rfl (by decide +kernel))) ?_
  refine va_sld hx hb hX hbl hbA hS (i := nI (7 * i + 1)) (vp_in_nI (by omega) (by omega)) dL_law_1773 ?_
  refine sp_callm (va_runV (As := [.int (xs (nI (7 * i + 1)).toNatClampNeg)]) (rest := []) ⟨hx, hb, hml, hown, hts⟩ (c_X10_hasDepthError l D am cy μ _ hA.2.1 n t hbr.1 (xs (nI (7 * i + 1)).toNatClampNeg)) (cwV 1 hts gL_law_X10_hasDepthError rfl rfl rfl (by decide +kernel) ⟨Nat.le_of_ble_eq_true rfl, Nat.le_of_ble_eq_true rfl⟩) (sp_preVm hKg hW.2.2.1 (κ := 0) (by decide) mE_0 rfl) rfl rfl hl.1 rfl (lv_room (Nat.le_of_ble_eq_true rfl)) dL_law_1774 ⟨by show cells + 1 + 0 ≤ 606307; omega, by show slots + 6 + 0 ≤ 7176832; omega⟩) hS (fun q _ h => lwAm hA hS q h) (fun q h => lwAm hA hS q h) (fun H3 locs3 hPm hle hfr hS => ?_)
  have hW := hW.model hPm hfr
  refine lv_topi (fun b7 eb7 => ?_)
  refine lv_istore (lv' := [(7, .int b7), (6, .int k6), (0, .ref b), (1, .ref (ad 429)), (2, .ref (am 0)), (3, .ref qo), (4, .ref qd), (5, .int (nI (7 * i)))]) hx hb dL_law_1777 hl (by decide) rfl (fun ls hl => ?_)
  refine lv_aload_n hx hb dL_law_1779 rfl (lv_at hl 4 rfl) ?_
  refine sp_call (W.runV (As := []) (rest := []) ⟨hx, hb, hml, hown, hts⟩ (c_X10_thrown l D am cy _) (cwV 0 hts gL_law_X10_thrown rfl rfl rfl (by decide +kernel) ⟨Nat.le_of_ble_eq_true rfl, Nat.le_of_ble_eq_true rfl⟩) (sp_preV hKg hW.2.2.1 (κ := 0) (by decide) mE_0 rfl) rfl rfl hl.1 rfl (lv_room (Nat.le_of_ble_eq_true rfl)) dL_law_1780 ⟨by show cells + 1 + 0 + 0 ≤ 606307; omega, by show slots + 6 + 0 + 0 ≤ 7176832; omega⟩) ?_
  refine lv_iload hx hb dL_law_1783 (lv_at hl 1 rfl) ?_
  have hp2 := AG.p2 (ag_err hbr (xs (nI (7 * i + 1)).toNatClampNeg) 2 (F := fun i => f_uneven σ (f_before σ i) i) (fun k hk => hbr.uneven hk)) hR hB6
  refine lv_icmp_eq (tgt := 1790) hx hb dL_law_1785 (by decide) (fun c_1 => ?_) (fun c_1 => absurd (hp2.1.trans ek6.symm) c_1)
  refine lv_iload hx hb dL_law_1790 (lv_at hl 1 rfl) ?_
  obtain ⟨f2, rfl, hf2⟩ := outL hO
  have fin : W p l e room_1 s m args below meth c H3 locs3 (cells + 1 + 0) (slots + 6 + 0) Q (F0 m 1814 ls []) := by
    refine lv_goto (tgt := 3617) hx hb dL_law_1814 (by decide) ?_
    refine W.widen (k := cells + 60) (n := slots + 240) (by omega) (by omega) ?_
    exact ih _ _ _ _ _ _ _ _ _ _ hW (hp2.rr hO) hS (lv_sub hl [2, 3, 4, 5, 6, 7] rfl)
  refine lv_if_ne (tgt := 1814) hx hb dL_law_1792 (by decide) (fun c_2 => fin) (fun c_2 => ?_)
  have hn := kC_0 (by decide) (ek6.symm.trans c_2)
  have hok := (hp2.2.1 hn).1
  have hv := hf2 hn
  have hPq : va_P D vwCl [(qo, eL cl f2)] H3 := wCons hW.2.2.2.1 (fun k x hx9 => by (cases hx9))
  refine lv_aload_n hx hb dL_law_1795 rfl (lv_at hl 5 rfl) ?_
  refine lv_iconst (v := 0) hx hb dL_law_1796 (by decide) ?_
  refine va_lald hx hb hK hPq 0 6 rfl rfl (i := 0) vp01 dL_law_1797 ?_
  refine lv_iload hx hb dL_law_1798 (lv_at hl 0 rfl) ?_
  have hb7 : b7 = 0 ∨ b7 = 1 := by rw [eb7]; exact b2i_01 _
  suffices key : W p l e room_1 s m args below meth c H3 locs3 (cells + 1 + 0) (slots + 6 + 0) Q (F0 m 1808 ls [.long (Int32.toInt64 b7), .long (f2 (0 : Int32).toNatClampNeg)]) by
    refine lv_if_eq (tgt := 1807) hx hb dL_law_1800 (by decide) (fun c_3 => ?_) (fun c_3 => ?_)
    · refine lv_lconst (v := 0) hx hb dL_law_1807 rfl ?_
      exact W.eq (g2 := F0 m 1808 ls [.long (Int32.toInt64 b7), .long (f2 (0 : Int32).toNatClampNeg)]) (by rw [c_3]; rfl) key
    · refine lv_lconst (v := 1) hx hb dL_law_1803 rfl ?_
      refine lv_goto (tgt := 1808) hx hb dL_law_1804 (by decide) ?_
      exact W.eq (g2 := F0 m 1808 ls [.long (Int32.toInt64 b7), .long (f2 (0 : Int32).toNatClampNeg)]) (by rw [hb7.resolve_left c_3]; rfl) key
  refine W.lcmp hx hb dL_law_1808 ?_
  refine lv_if_eq (tgt := 1814) hx hb dL_law_1809 (by decide) (fun _ => fin) (fun c_4 => absurd (lg_same (hv.trans (congrArg Int32.toInt64 (hok.trans eb7.symm)))) c_4)
end LCASE
