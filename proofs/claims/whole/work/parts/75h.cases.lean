section LCASE
variable {p : Program} {l : Launch} {e : Env} {s : State} {m : MethodId} {args : Array Value} {below : List Frame} {meth : Method} {c : Code} {H : Heap} {locs : List Loc} {cells slots : Nat} {Q : State → Prop} {ls : Array Slot}
variable {b L : Nat} {xs : Nat → Int32} {D : va_G} {cy : Nat → ClassId} {cl cd : ClassId} {xq ad am : Nat → Nat} {qo qd : Nat} {pm : Nat → Nat} {rj : Option Nat} {rc : Option RC} {σ μ : Nat → Nat → Int32} {f : Nat → Int64} {g : Nat → UInt64} {i B : Nat}
set_option maxHeartbeats 4000000 in
set_option maxRecDepth 100000 in
theorem lc_56 (E0 : LE p l s m c args b L xs D cy cl cd xq) (hi : 7 * i + 7 ≤ L) (hL : L ≤ 3584) (hcl : cells + 60 ≤ 606307) (hsl : slots + 240 ≤ 7176832) (hW : LW s.heap.size D cy ad am qo qd pm rj rc σ μ (eL cl f) (eD cd g) H) (hR : RR B σ pm rc μ) (hB : B ≤ 20 * i + 1) (hS : va_S (fun q => s.heap.size ≤ q) s.heap H locs) (hl : lv_has ls 9 [(0, .ref b), (1, .ref (ad 429)), (2, .ref (am 0)), (3, .ref qo), (4, .ref qd), (5, .int (nI (7 * i)))]) (ih : LIH p l e s m args below meth c D cy cl cd ad am qo qd b i B cells slots Q) : W p l e room_1 s m args below meth c H locs cells slots Q (F0 m 3415 ls []) := by
  obtain ⟨hx, hb, hml, hown, hts, hX, hbl, hst, hK, hE0, hNC⟩ := E0
  have hbA : ¬ (fun q : Nat => s.heap.size ≤ q) b := Nat.not_le.mpr hbl
  obtain ⟨n, t, pi, ro, hbr⟩ := hR.1
  obtain ⟨⟨ch, hc8, hch, -⟩, hpm, -⟩ := hR.2.1
  have hRJ := hR.2.2.2.1
  have hB6 : B + 20 < 1000000 := by omega
  have hA := hW.1
  have hKg := hK.sub (tys' := tyG cy) [0, 1, 2, 3, 4, 5] rfl
  refine lv_aload_n hx hb dL_law_3415 rfl (lv_at hl 1 rfl) ?_
  refine lv_aload_n hx hb dL_law_3416 rfl (lv_at hl 3 rfl) ?_
  refine LW.call hW (vx_runSW (As := [.ref (ad 429), .ref qo]) (rest := []) ⟨hx, hb, hml, hown, hts⟩ (c_L_causeReason l D ad cy pm rj σ xq hst rc _ hA.1 cl cd qo f g) (vx_cwSW 2 hts gL_law_L_causeReason rfl rfl rfl (by decide +kernel) ⟨Nat.le_of_ble_eq_true rfl, Nat.le_of_ble_eq_true rfl⟩) (lwPre hW.2.1 hW.2.2.2.1 hK (lwEX hE0 hA hS) hNC (fun k hk => (hA.2.2.2.1 k hk).1) hW.2.2.2.2.2.sp) rfl rfl hl.1 rfl (lv_room (Nat.le_of_ble_eq_true rfl)) dL_law_3417 ⟨by show cells + 1 ≤ 606307; omega, by show slots + 6 ≤ 7176832; omega⟩) hS (fun H2 locs2 pm2 rj2 rc2 σ2 e2 hW hO hS => ?_)
  refine lv_topi (fun k6 ek6 => ?_)
  refine lv_istore (lv' := [(6, .int k6), (0, .ref b), (1, .ref (ad 429)), (2, .ref (am 0)), (3, .ref qo), (4, .ref qd), (5, .int (nI (7 * i)))]) hx hb dL_law_3420 hl (by decide) rfl (fun ls hl => ?_)
  refine lv_aload_n hx hb dL_law_3422 rfl (lv_at hl 3 rfl) ?_
  refine sp_callm (va_runV (As := []) (rest := []) ⟨hx, hb, hml, hown, hts⟩ (c_X10_causeReason l D am cy μ _ hA.2.1 n t hbr.1) (cwV 0 hts gL_law_X10_causeReason rfl rfl rfl (by decide +kernel) ⟨Nat.le_of_ble_eq_true rfl, Nat.le_of_ble_eq_true rfl⟩) (sp_preVm hKg hW.2.2.1 (κ := 0) (by decide) mE_0 rfl) rfl rfl hl.1 rfl (lv_room (Nat.le_of_ble_eq_true rfl)) dL_law_3423 ⟨by show cells + 1 + 0 ≤ 606307; omega, by show slots + 6 + 0 ≤ 7176832; omega⟩) hS (fun q _ h => lwAm hA hS q h) (fun q h => lwAm hA hS q h) (fun H3 locs3 hPm hle hfr hS => ?_)
  have hW := hW.model hPm hfr
  refine lv_topi (fun b7 eb7 => ?_)
  refine lv_istore (lv' := [(7, .int b7), (6, .int k6), (0, .ref b), (1, .ref (ad 429)), (2, .ref (am 0)), (3, .ref qo), (4, .ref qd), (5, .int (nI (7 * i)))]) hx hb dL_law_3426 hl (by decide) rfl (fun ls hl => ?_)
  refine lv_aload_n hx hb dL_law_3428 rfl (lv_at hl 4 rfl) ?_
  refine sp_call (W.runV (As := []) (rest := []) ⟨hx, hb, hml, hown, hts⟩ (c_X10_thrown l D am cy _) (cwV 0 hts gL_law_X10_thrown rfl rfl rfl (by decide +kernel) ⟨Nat.le_of_ble_eq_true rfl, Nat.le_of_ble_eq_true rfl⟩) (sp_preV hKg hW.2.2.1 (κ := 0) (by decide) mE_0 rfl) rfl rfl hl.1 rfl (lv_room (Nat.le_of_ble_eq_true rfl)) dL_law_3429 ⟨by show cells + 1 + 0 + 0 ≤ 606307; omega, by show slots + 6 + 0 + 0 ≤ 7176832; omega⟩) ?_
  refine lv_iload hx hb dL_law_3432 (lv_at hl 1 rfl) ?_
  have hp2 := AG.p2 (ag_cr hRJ).1 hR hB6
  refine lv_icmp_eq (tgt := 3439) hx hb dL_law_3434 (by decide) (fun c_1 => ?_) (fun c_1 => absurd (hp2.1.trans ek6.symm) c_1)
  refine lv_iload hx hb dL_law_3439 (lv_at hl 1 rfl) ?_
  obtain ⟨f2, rfl, hf2⟩ := outL hO
  have fin : W p l e room_1 s m args below meth c H3 locs3 (cells + 1 + 0) (slots + 6 + 0) Q (F0 m 3456 ls []) := by
    refine lv_goto (tgt := 3617) hx hb dL_law_3456 (by decide) ?_
    refine W.widen (k := cells + 60) (n := slots + 240) (by omega) (by omega) ?_
    exact ih _ _ _ _ _ _ _ _ _ _ hW (hp2.rr hO) hS (lv_sub hl [2, 3, 4, 5, 6, 7] rfl)
  refine lv_if_ne (tgt := 3456) hx hb dL_law_3441 (by decide) (fun c_2 => fin) (fun c_2 => ?_)
  have hn := kC_0 (by decide) (ek6.symm.trans c_2)
  have hok := (hp2.2.1 hn).1
  have hv := hf2 hn
  have hPq : va_P D vwCl [(qo, eL cl f2)] H3 := wCons hW.2.2.2.1 (fun k x hx9 => by (cases hx9))
  refine lv_aload_n hx hb dL_law_3444 rfl (lv_at hl 5 rfl) ?_
  refine lv_iconst (v := 0) hx hb dL_law_3445 (by decide) ?_
  refine va_lald hx hb hK hPq 0 6 rfl rfl (i := 0) vp01 dL_law_3446 ?_
  refine lv_iload hx hb dL_law_3447 (lv_at hl 0 rfl) ?_
  refine lv_i2l (v := Int32.toInt64 b7) hx hb dL_law_3449 rfl ?_
  refine W.lcmp hx hb dL_law_3450 ?_
  refine lv_if_eq (tgt := 3456) hx hb dL_law_3451 (by decide) (fun _ => fin) (fun c_4 => absurd (lg_same (hv.trans (congrArg Int32.toInt64 (hok.trans eb7.symm)))) c_4)
set_option maxHeartbeats 4000000 in
set_option maxRecDepth 100000 in
theorem lc_57 (E0 : LE p l s m c args b L xs D cy cl cd xq) (hi : 7 * i + 7 ≤ L) (hL : L ≤ 3584) (hcl : cells + 60 ≤ 606307) (hsl : slots + 240 ≤ 7176832) (hW : LW s.heap.size D cy ad am qo qd pm rj rc σ μ (eL cl f) (eD cd g) H) (hR : RR B σ pm rc μ) (hB : B ≤ 20 * i + 1) (hS : va_S (fun q => s.heap.size ≤ q) s.heap H locs) (hl : lv_has ls 9 [(0, .ref b), (1, .ref (ad 429)), (2, .ref (am 0)), (3, .ref qo), (4, .ref qd), (5, .int (nI (7 * i)))]) (ih : LIH p l e s m args below meth c D cy cl cd ad am qo qd b i B cells slots Q) : W p l e room_1 s m args below meth c H locs cells slots Q (F0 m 3459 ls []) := by
  obtain ⟨hx, hb, hml, hown, hts, hX, hbl, hst, hK, hE0, hNC⟩ := E0
  have hbA : ¬ (fun q : Nat => s.heap.size ≤ q) b := Nat.not_le.mpr hbl
  obtain ⟨n, t, pi, ro, hbr⟩ := hR.1
  obtain ⟨⟨ch, hc8, hch, -⟩, hpm, -⟩ := hR.2.1
  have hRJ := hR.2.2.2.1
  have hB6 : B + 20 < 1000000 := by omega
  have hA := hW.1
  have hKg := hK.sub (tys' := tyG cy) [0, 1, 2, 3, 4, 5] rfl
  refine lv_aload_n hx hb dL_law_3459 rfl (lv_at hl 1 rfl) ?_
  refine lv_aload_n hx hb dL_law_3460 rfl (lv_at hl 3 rfl) ?_
  refine LW.call hW (vx_runSW (As := [.ref (ad 429), .ref qo]) (rest := []) ⟨hx, hb, hml, hown, hts⟩ (c_L_causeDetail l D ad cy pm rj σ xq hst rc _ hA.1 cl cd qo f g) (vx_cwSW 2 hts gL_law_L_causeDetail rfl rfl rfl (by decide +kernel) ⟨Nat.le_of_ble_eq_true rfl, Nat.le_of_ble_eq_true rfl⟩) (lwPre hW.2.1 hW.2.2.2.1 hK (lwEX hE0 hA hS) hNC (fun k hk => (hA.2.2.2.1 k hk).1) hW.2.2.2.2.2.sp) rfl rfl hl.1 rfl (lv_room (Nat.le_of_ble_eq_true rfl)) dL_law_3461 ⟨by show cells + 1 ≤ 606307; omega, by show slots + 6 ≤ 7176832; omega⟩) hS (fun H2 locs2 pm2 rj2 rc2 σ2 e2 hW hO hS => ?_)
  refine lv_topi (fun k6 ek6 => ?_)
  refine lv_istore (lv' := [(6, .int k6), (0, .ref b), (1, .ref (ad 429)), (2, .ref (am 0)), (3, .ref qo), (4, .ref qd), (5, .int (nI (7 * i)))]) hx hb dL_law_3464 hl (by decide) rfl (fun ls hl => ?_)
  refine lv_aload_n hx hb dL_law_3466 rfl (lv_at hl 3 rfl) ?_
  refine sp_callm (va_runV (As := []) (rest := []) ⟨hx, hb, hml, hown, hts⟩ (c_X10_causeDetail l D am cy μ _ hA.2.1 n t hbr.1) (cwV 0 hts gL_law_X10_causeDetail rfl rfl rfl (by decide +kernel) ⟨Nat.le_of_ble_eq_true rfl, Nat.le_of_ble_eq_true rfl⟩) (sp_preVm hKg hW.2.2.1 (κ := 0) (by decide) mE_0 rfl) rfl rfl hl.1 rfl (lv_room (Nat.le_of_ble_eq_true rfl)) dL_law_3467 ⟨by show cells + 1 + 0 ≤ 606307; omega, by show slots + 6 + 0 ≤ 7176832; omega⟩) hS (fun q _ h => lwAm hA hS q h) (fun q h => lwAm hA hS q h) (fun H3 locs3 hPm hle hfr hS => ?_)
  have hW := hW.model hPm hfr
  refine lv_topi (fun b7 eb7 => ?_)
  refine lv_istore (lv' := [(7, .int b7), (6, .int k6), (0, .ref b), (1, .ref (ad 429)), (2, .ref (am 0)), (3, .ref qo), (4, .ref qd), (5, .int (nI (7 * i)))]) hx hb dL_law_3470 hl (by decide) rfl (fun ls hl => ?_)
  refine lv_aload_n hx hb dL_law_3472 rfl (lv_at hl 4 rfl) ?_
  refine sp_call (W.runV (As := []) (rest := []) ⟨hx, hb, hml, hown, hts⟩ (c_X10_thrown l D am cy _) (cwV 0 hts gL_law_X10_thrown rfl rfl rfl (by decide +kernel) ⟨Nat.le_of_ble_eq_true rfl, Nat.le_of_ble_eq_true rfl⟩) (sp_preV hKg hW.2.2.1 (κ := 0) (by decide) mE_0 rfl) rfl rfl hl.1 rfl (lv_room (Nat.le_of_ble_eq_true rfl)) dL_law_3473 ⟨by show cells + 1 + 0 + 0 ≤ 606307; omega, by show slots + 6 + 0 + 0 ≤ 7176832; omega⟩) ?_
  refine lv_iload hx hb dL_law_3476 (lv_at hl 1 rfl) ?_
  have hp2 := AG.p2 (ag_cr hRJ).2 hR hB6
  refine lv_icmp_eq (tgt := 3483) hx hb dL_law_3478 (by decide) (fun c_1 => ?_) (fun c_1 => absurd (hp2.1.trans ek6.symm) c_1)
  refine lv_iload hx hb dL_law_3483 (lv_at hl 1 rfl) ?_
  obtain ⟨f2, rfl, hf2⟩ := outL hO
  have fin : W p l e room_1 s m args below meth c H3 locs3 (cells + 1 + 0) (slots + 6 + 0) Q (F0 m 3500 ls []) := by
    refine lv_goto (tgt := 3617) hx hb dL_law_3500 (by decide) ?_
    refine W.widen (k := cells + 60) (n := slots + 240) (by omega) (by omega) ?_
    exact ih _ _ _ _ _ _ _ _ _ _ hW (hp2.rr hO) hS (lv_sub hl [2, 3, 4, 5, 6, 7] rfl)
  refine lv_if_ne (tgt := 3500) hx hb dL_law_3485 (by decide) (fun c_2 => fin) (fun c_2 => ?_)
  have hn := kC_0 (by decide) (ek6.symm.trans c_2)
  have hok := (hp2.2.1 hn).1
  have hv := hf2 hn
  have hPq : va_P D vwCl [(qo, eL cl f2)] H3 := wCons hW.2.2.2.1 (fun k x hx9 => by (cases hx9))
  refine lv_aload_n hx hb dL_law_3488 rfl (lv_at hl 5 rfl) ?_
  refine lv_iconst (v := 0) hx hb dL_law_3489 (by decide) ?_
  refine va_lald hx hb hK hPq 0 6 rfl rfl (i := 0) vp01 dL_law_3490 ?_
  refine lv_iload hx hb dL_law_3491 (lv_at hl 0 rfl) ?_
  refine lv_i2l (v := Int32.toInt64 b7) hx hb dL_law_3493 rfl ?_
  refine W.lcmp hx hb dL_law_3494 ?_
  refine lv_if_eq (tgt := 3500) hx hb dL_law_3495 (by decide) (fun _ => fin) (fun c_4 => absurd (lg_same (hv.trans (congrArg Int32.toInt64 (hok.trans eb7.symm)))) c_4)
set_option maxHeartbeats 4000000 in
set_option maxRecDepth 100000 in
theorem lc_58 (E0 : LE p l s m c args b L xs D cy cl cd xq) (hi : 7 * i + 7 ≤ L) (hL : L ≤ 3584) (hcl : cells + 60 ≤ 606307) (hsl : slots + 240 ≤ 7176832) (hW : LW s.heap.size D cy ad am qo qd pm rj rc σ μ (eL cl f) (eD cd g) H) (hR : RR B σ pm rc μ) (hB : B ≤ 20 * i + 1) (hS : va_S (fun q => s.heap.size ≤ q) s.heap H locs) (hl : lv_has ls 9 [(0, .ref b), (1, .ref (ad 429)), (2, .ref (am 0)), (3, .ref qo), (4, .ref qd), (5, .int (nI (7 * i)))]) (ih : LIH p l e s m args below meth c D cy cl cd ad am qo qd b i B cells slots Q) : W p l e room_1 s m args below meth c H locs cells slots Q (F0 m 3503 ls []) := by
  obtain ⟨hx, hb, hml, hown, hts, hX, hbl, hst, hK, hE0, hNC⟩ := E0
  have hbA : ¬ (fun q : Nat => s.heap.size ≤ q) b := Nat.not_le.mpr hbl
  obtain ⟨n, t, pi, ro, hbr⟩ := hR.1
  obtain ⟨⟨ch, hc8, hch, -⟩, hpm, -⟩ := hR.2.1
  have hRJ := hR.2.2.2.1
  have hB6 : B + 20 < 1000000 := by omega
  have hA := hW.1
  have hKg := hK.sub (tys' := tyG cy) [0, 1, 2, 3, 4, 5] rfl
  refine lv_aload_n hx hb dL_law_3503 rfl (lv_at hl 1 rfl) ?_
  refine lv_aload_n hx hb dL_law_3504 rfl (lv_at hl 3 rfl) ?_
  refine LW.call hW (vx_runSW (As := [.ref (ad 429), .ref qo]) (rest := []) ⟨hx, hb, hml, hown, hts⟩ (c_L_undo l D ad cy pm rj σ xq hst _ hA.1 hpm cl cd qo f g) (vx_cwSW 2 hts gL_law_L_undo rfl rfl rfl (by decide +kernel) ⟨Nat.le_of_ble_eq_true rfl, Nat.le_of_ble_eq_true rfl⟩) (lwPre hW.2.1 hW.2.2.2.1 hK (lwEX hE0 hA hS) hNC (fun k hk => (hA.2.2.2.1 k hk).1) trivial) rfl rfl hl.1 rfl (lv_room (Nat.le_of_ble_eq_true rfl)) dL_law_3505 ⟨by show cells + 1 ≤ 606307; omega, by show slots + 6 ≤ 7176832; omega⟩) hS (fun H2 locs2 pm2 rj2 rc2 σ2 e2 hW hO hS => ?_)
  refine lv_topi (fun k6 ek6 => ?_)
  refine lv_istore (lv' := [(6, .int k6), (0, .ref b), (1, .ref (ad 429)), (2, .ref (am 0)), (3, .ref qo), (4, .ref qd), (5, .int (nI (7 * i)))]) hx hb dL_law_3508 hl (by decide) rfl (fun ls hl => ?_)
  refine lv_aload_n hx hb dL_law_3510 rfl (lv_at hl 3 rfl) ?_
  refine sp_callm (va_runV (As := []) (rest := []) ⟨hx, hb, hml, hown, hts⟩ (c_X10_undo l D am cy μ _ hA.2.1 n t hbr.1 ch hch hc8) (cwV 0 hts gL_law_X10_undo rfl rfl rfl (by decide +kernel) ⟨Nat.le_of_ble_eq_true rfl, Nat.le_of_ble_eq_true rfl⟩) (sp_preVm hKg hW.2.2.1 (κ := 0) (by decide) mE_0 rfl) rfl rfl hl.1 rfl (lv_room (Nat.le_of_ble_eq_true rfl)) dL_law_3511 ⟨by show cells + 1 + 0 ≤ 606307; omega, by show slots + 6 + 0 ≤ 7176832; omega⟩) hS (fun q _ h => lwAm hA hS q h) (fun q h => lwAm hA hS q h) (fun H3 locs3 hPm hle hfr hS => ?_)
  have hW := hW.model hPm hfr
  refine lv_topi (fun b7 eb7 => ?_)
  refine lv_istore (lv' := [(7, .int b7), (6, .int k6), (0, .ref b), (1, .ref (ad 429)), (2, .ref (am 0)), (3, .ref qo), (4, .ref qd), (5, .int (nI (7 * i)))]) hx hb dL_law_3514 hl (by decide) rfl (fun ls hl => ?_)
  refine lv_aload_n hx hb dL_law_3516 rfl (lv_at hl 4 rfl) ?_
  refine sp_call (W.runV (As := []) (rest := []) ⟨hx, hb, hml, hown, hts⟩ (c_X10_thrown l D am cy _) (cwV 0 hts gL_law_X10_thrown rfl rfl rfl (by decide +kernel) ⟨Nat.le_of_ble_eq_true rfl, Nat.le_of_ble_eq_true rfl⟩) (sp_preV hKg hW.2.2.1 (κ := 0) (by decide) mE_0 rfl) rfl rfl hl.1 rfl (lv_room (Nat.le_of_ble_eq_true rfl)) dL_law_3517 ⟨by show cells + 1 + 0 + 0 ≤ 606307; omega, by show slots + 6 + 0 + 0 ≤ 7176832; omega⟩) ?_
  refine lv_iload hx hb dL_law_3520 (lv_at hl 1 rfl) ?_
  have hp2 := P2.of (ch_undo hR hch hc8 (by omega)).1 (ch_undo hR hch hc8 (by omega)).2.1 (ch_undo hR hch hc8 (by omega)).2.2 (by omega) (by omega) hB6
  refine lv_icmp_eq (tgt := 3527) hx hb dL_law_3522 (by decide) (fun c_1 => ?_) (fun c_1 => absurd (hp2.1.trans ek6.symm) c_1)
  refine lv_iload hx hb dL_law_3527 (lv_at hl 1 rfl) ?_
  obtain ⟨f2, rfl, hf2⟩ := outL hO
  have fin : W p l e room_1 s m args below meth c H3 locs3 (cells + 1 + 0) (slots + 6 + 0) Q (F0 m 3544 ls []) := by
    refine lv_goto (tgt := 3617) hx hb dL_law_3544 (by decide) ?_
    refine W.widen (k := cells + 60) (n := slots + 240) (by omega) (by omega) ?_
    exact ih _ _ _ _ _ _ _ _ _ _ hW (hp2.rr hO) hS (lv_sub hl [2, 3, 4, 5, 6, 7] rfl)
  refine lv_if_ne (tgt := 3544) hx hb dL_law_3529 (by decide) (fun c_2 => fin) (fun c_2 => ?_)
  have hn := kC_0 (by decide) (ek6.symm.trans c_2)
  have hok := (hp2.2.1 hn).1
  have hv := hf2 hn
  have hPq : va_P D vwCl [(qo, eL cl f2)] H3 := wCons hW.2.2.2.1 (fun k x hx9 => by (cases hx9))
  refine lv_aload_n hx hb dL_law_3532 rfl (lv_at hl 5 rfl) ?_
  refine lv_iconst (v := 0) hx hb dL_law_3533 (by decide) ?_
  refine va_lald hx hb hK hPq 0 6 rfl rfl (i := 0) vp01 dL_law_3534 ?_
  refine lv_iload hx hb dL_law_3535 (lv_at hl 0 rfl) ?_
  refine lv_i2l (v := Int32.toInt64 b7) hx hb dL_law_3537 rfl ?_
  refine W.lcmp hx hb dL_law_3538 ?_
  refine lv_if_eq (tgt := 3544) hx hb dL_law_3539 (by decide) (fun _ => fin) (fun c_4 => absurd (lg_same (hv.trans (congrArg Int32.toInt64 (hok.trans eb7.symm)))) c_4)
set_option maxHeartbeats 4000000 in
set_option maxRecDepth 100000 in
theorem lc_59 (E0 : LE p l s m c args b L xs D cy cl cd xq) (hi : 7 * i + 7 ≤ L) (hL : L ≤ 3584) (hcl : cells + 60 ≤ 606307) (hsl : slots + 240 ≤ 7176832) (hW : LW s.heap.size D cy ad am qo qd pm rj rc σ μ (eL cl f) (eD cd g) H) (hR : RR B σ pm rc μ) (hB : B ≤ 20 * i + 1) (hS : va_S (fun q => s.heap.size ≤ q) s.heap H locs) (hl : lv_has ls 9 [(0, .ref b), (1, .ref (ad 429)), (2, .ref (am 0)), (3, .ref qo), (4, .ref qd), (5, .int (nI (7 * i)))]) (ih : LIH p l e s m args below meth c D cy cl cd ad am qo qd b i B cells slots Q) : W p l e room_1 s m args below meth c H locs cells slots Q (F0 m 3547 ls []) := by
  obtain ⟨hx, hb, hml, hown, hts, hX, hbl, hst, hK, hE0, hNC⟩ := E0
  have hbA : ¬ (fun q : Nat => s.heap.size ≤ q) b := Nat.not_le.mpr hbl
  obtain ⟨n, t, pi, ro, hbr⟩ := hR.1
  obtain ⟨⟨ch, hc8, hch, -⟩, hpm, -⟩ := hR.2.1
  have hRJ := hR.2.2.2.1
  have hB6 : B + 20 < 1000000 := by omega
  have hA := hW.1
  have hKg := hK.sub (tys' := tyG cy) [0, 1, 2, 3, 4, 5] rfl
  refine lv_aload_n hx hb dL_law_3547 rfl (lv_at hl 1 rfl) ?_
  refine sp_call (W.runV (As := []) (rest := []) ⟨hx, hb, hml, hown, hts⟩ (c_X9_undoCount l D ad cy pm rj σ ) (cwV 0 hts gL_law_X9_undoCount rfl rfl rfl (by decide +kernel) ⟨Nat.le_of_ble_eq_true rfl, Nat.le_of_ble_eq_true rfl⟩) (sp_preV hKg hW.2.1 (κ := 429) (by decide) cE_sp rfl) rfl rfl hl.1 rfl (lv_room (Nat.le_of_ble_eq_true rfl)) dL_law_3548 ⟨by show cells + 0 ≤ 606307; omega, by show slots + 0 ≤ 7176832; omega⟩) ?_
  refine lv_topi (fun k6 ek6 => ?_)
  refine lv_aload_n hx hb dL_law_3551 rfl (lv_at hl 2 rfl) ?_
  refine sp_callm (va_runV (As := []) (rest := [.int k6]) ⟨hx, hb, hml, hown, hts⟩ (c_X10_undoCount l D am cy μ _ hA.2.1 n t hbr.1) (cwV 0 hts gL_law_X10_undoCount rfl rfl rfl (by decide +kernel) ⟨Nat.le_of_ble_eq_true rfl, Nat.le_of_ble_eq_true rfl⟩) (sp_preVm hKg hW.2.2.1 (κ := 0) (by decide) mE_0 rfl) rfl rfl hl.1 rfl (lv_room (Nat.le_of_ble_eq_true rfl)) dL_law_3552 ⟨by show cells + 0 ≤ 606307; omega, by show slots + 0 ≤ 7176832; omega⟩) hS (fun q _ h => lwAm hA hS q h) (fun q h => lwAm hA hS q h) (fun H3 locs3 hPm hle hfr hS => ?_)
  have hW := hW.model hPm hfr
  refine lv_icmp_eq (tgt := 3617) hx hb dL_law_3555 (by decide) (fun c_1 => ?_) (fun c_1 => ?_)
  · refine W.widen (k := cells + 60) (n := slots + 240) (by omega) (by omega) ?_
    exact ih _ _ _ _ _ _ _ _ _ _ hW ((hR.thrown (by omega) 0).mono (by omega) hB6) hS hl
  · exact absurd (ek6.trans (hR.undo)) c_1
set_option maxHeartbeats 4000000 in
set_option maxRecDepth 100000 in
theorem lc_60 (E0 : LE p l s m c args b L xs D cy cl cd xq) (hi : 7 * i + 7 ≤ L) (hL : L ≤ 3584) (hcl : cells + 60 ≤ 606307) (hsl : slots + 240 ≤ 7176832) (hW : LW s.heap.size D cy ad am qo qd pm rj rc σ μ (eL cl f) (eD cd g) H) (hR : RR B σ pm rc μ) (hB : B ≤ 20 * i + 1) (hS : va_S (fun q => s.heap.size ≤ q) s.heap H locs) (hl : lv_has ls 9 [(0, .ref b), (1, .ref (ad 429)), (2, .ref (am 0)), (3, .ref qo), (4, .ref qd), (5, .int (nI (7 * i)))]) (ih : LIH p l e s m args below meth c D cy cl cd ad am qo qd b i B cells slots Q) : W p l e room_1 s m args below meth c H locs cells slots Q (F0 m 3560 ls []) := by
  obtain ⟨hx, hb, hml, hown, hts, hX, hbl, hst, hK, hE0, hNC⟩ := E0
  have hbA : ¬ (fun q : Nat => s.heap.size ≤ q) b := Nat.not_le.mpr hbl
  obtain ⟨n, t, pi, ro, hbr⟩ := hR.1
  obtain ⟨⟨ch, hc8, hch, -⟩, hpm, -⟩ := hR.2.1
  have hRJ := hR.2.2.2.1
  have hB6 : B + 20 < 1000000 := by omega
  have hA := hW.1
  have hKg := hK.sub (tys' := tyG cy) [0, 1, 2, 3, 4, 5] rfl
  refine lv_aload_n hx hb dL_law_3560 rfl (lv_at hl 1 rfl) ?_
  refine sp_callm (va_runV (As := []) (rest := []) ⟨hx, hb, hml, hown, hts⟩ (c_X9_saveSnapshot l D ad cy pm rj σ _ hA.1) (cwV 0 hts gL_law_X9_saveSnapshot rfl rfl rfl (by decide +kernel) ⟨Nat.le_of_ble_eq_true rfl, Nat.le_of_ble_eq_true rfl⟩) (sp_preVm hKg hW.2.1 (κ := 429) (by decide) cE_sp rfl) rfl rfl hl.1 rfl (lv_room (Nat.le_of_ble_eq_true rfl)) dL_law_3561 ⟨by show cells + 0 ≤ 606307; omega, by show slots + 0 ≤ 7176832; omega⟩) hS (fun q _ h => lwAd hA hS q h) (fun q h => lwAd hA hS q h) (fun H2 locs2 hPc hle hfr hS => ?_)
  have hW := hW.cls hPc hfr
  have hp := ch_save hR hbr (by omega)
  refine lv_topi (fun k6 ek6 => ?_)
  refine lv_aload_n hx hb dL_law_3564 rfl (lv_at hl 2 rfl) ?_
  refine sp_callm (va_runV (As := []) (rest := [.int k6]) ⟨hx, hb, hml, hown, hts⟩ (c_X10_saveSnapshot l D am cy μ _ hA.2.1 n t hbr.1) (cwV 0 hts gL_law_X10_saveSnapshot rfl rfl rfl (by decide +kernel) ⟨Nat.le_of_ble_eq_true rfl, Nat.le_of_ble_eq_true rfl⟩) (sp_preVm hKg hW.2.2.1 (κ := 0) (by decide) mE_0 rfl) rfl rfl hl.1 rfl (lv_room (Nat.le_of_ble_eq_true rfl)) dL_law_3565 ⟨by show cells + 0 + 0 ≤ 606307; omega, by show slots + 0 + 0 ≤ 7176832; omega⟩) hS (fun q _ h => lwAm hA hS q h) (fun q h => lwAm hA hS q h) (fun H3 locs3 hPm hle hfr hS => ?_)
  have hW := hW.model hPm hfr
  refine lv_icmp_eq (tgt := 3617) hx hb dL_law_3568 (by decide) (fun c_1 => ?_) (fun c_1 => ?_)
  · refine W.widen (k := cells + 60) (n := slots + 240) (by omega) (by omega) ?_
    exact ih _ _ _ _ _ _ _ _ _ _ hW (hp.2.mono (by omega) hB6) hS hl
  · exact absurd (ek6.trans (hp.1)) c_1
set_option maxHeartbeats 4000000 in
set_option maxRecDepth 100000 in
theorem lc_61 (E0 : LE p l s m c args b L xs D cy cl cd xq) (hi : 7 * i + 7 ≤ L) (hL : L ≤ 3584) (hcl : cells + 60 ≤ 606307) (hsl : slots + 240 ≤ 7176832) (hW : LW s.heap.size D cy ad am qo qd pm rj rc σ μ (eL cl f) (eD cd g) H) (hR : RR B σ pm rc μ) (hB : B ≤ 20 * i + 1) (hS : va_S (fun q => s.heap.size ≤ q) s.heap H locs) (hl : lv_has ls 9 [(0, .ref b), (1, .ref (ad 429)), (2, .ref (am 0)), (3, .ref qo), (4, .ref qd), (5, .int (nI (7 * i)))]) (ih : LIH p l e s m args below meth c D cy cl cd ad am qo qd b i B cells slots Q) : W p l e room_1 s m args below meth c H locs cells slots Q (F0 m 3573 ls []) := by
  obtain ⟨hx, hb, hml, hown, hts, hX, hbl, hst, hK, hE0, hNC⟩ := E0
  have hbA : ¬ (fun q : Nat => s.heap.size ≤ q) b := Nat.not_le.mpr hbl
  obtain ⟨n, t, pi, ro, hbr⟩ := hR.1
  obtain ⟨⟨ch, hc8, hch, -⟩, hpm, -⟩ := hR.2.1
  have hRJ := hR.2.2.2.1
  have hB6 : B + 20 < 1000000 := by omega
  have hA := hW.1
  have hKg := hK.sub (tys' := tyG cy) [0, 1, 2, 3, 4, 5] rfl
  refine lv_aload_n hx hb dL_law_3573 rfl (lv_at hl 1 rfl) ?_
  refine lv_aload_n hx hb dL_law_3574 rfl (lv_at hl 3 rfl) ?_
  refine LW.call hW (vx_runSW (As := [.ref (ad 429), .ref qo]) (rest := []) ⟨hx, hb, hml, hown, hts⟩ (c_L_restoreSnapshot l D ad cy pm rj σ xq hst _ hA.1 cl cd qo f g) (vx_cwSW 2 hts gL_law_L_restoreSnapshot rfl rfl rfl (by decide +kernel) ⟨Nat.le_of_ble_eq_true rfl, Nat.le_of_ble_eq_true rfl⟩) (lwPre hW.2.1 hW.2.2.2.1 hK (lwEX hE0 hA hS) hNC (fun k hk => (hA.2.2.2.1 k hk).1) trivial) rfl rfl hl.1 rfl (lv_room (Nat.le_of_ble_eq_true rfl)) dL_law_3575 ⟨by show cells + 1 ≤ 606307; omega, by show slots + 6 ≤ 7176832; omega⟩) hS (fun H2 locs2 pm2 rj2 rc2 σ2 e2 hW hO hS => ?_)
  refine lv_topi (fun k6 ek6 => ?_)
  refine lv_istore (lv' := [(6, .int k6), (0, .ref b), (1, .ref (ad 429)), (2, .ref (am 0)), (3, .ref qo), (4, .ref qd), (5, .int (nI (7 * i)))]) hx hb dL_law_3578 hl (by decide) rfl (fun ls hl => ?_)
  refine lv_aload_n hx hb dL_law_3580 rfl (lv_at hl 3 rfl) ?_
  refine sp_callm (va_runV (As := []) (rest := []) ⟨hx, hb, hml, hown, hts⟩ (c_X10_restoreSnapshot l D am cy μ _ hA.2.1 n t hbr.1) (cwV 0 hts gL_law_X10_restoreSnapshot rfl rfl rfl (by decide +kernel) ⟨Nat.le_of_ble_eq_true rfl, Nat.le_of_ble_eq_true rfl⟩) (sp_preVm hKg hW.2.2.1 (κ := 0) (by decide) mE_0 rfl) rfl rfl hl.1 rfl (lv_room (Nat.le_of_ble_eq_true rfl)) dL_law_3581 ⟨by show cells + 1 + 0 ≤ 606307; omega, by show slots + 6 + 0 ≤ 7176832; omega⟩) hS (fun q _ h => lwAm hA hS q h) (fun q h => lwAm hA hS q h) (fun H3 locs3 hPm hle hfr hS => ?_)
  have hW := hW.model hPm hfr
  refine lv_topi (fun b7 eb7 => ?_)
  refine lv_istore (lv' := [(7, .int b7), (6, .int k6), (0, .ref b), (1, .ref (ad 429)), (2, .ref (am 0)), (3, .ref qo), (4, .ref qd), (5, .int (nI (7 * i)))]) hx hb dL_law_3584 hl (by decide) rfl (fun ls hl => ?_)
  refine lv_aload_n hx hb dL_law_3586 rfl (lv_at hl 4 rfl) ?_
  refine sp_call (W.runV (As := []) (rest := []) ⟨hx, hb, hml, hown, hts⟩ (c_X10_thrown l D am cy _) (cwV 0 hts gL_law_X10_thrown rfl rfl rfl (by decide +kernel) ⟨Nat.le_of_ble_eq_true rfl, Nat.le_of_ble_eq_true rfl⟩) (sp_preV hKg hW.2.2.1 (κ := 0) (by decide) mE_0 rfl) rfl rfl hl.1 rfl (lv_room (Nat.le_of_ble_eq_true rfl)) dL_law_3587 ⟨by show cells + 1 + 0 + 0 ≤ 606307; omega, by show slots + 6 + 0 + 0 ≤ 7176832; omega⟩) ?_
  refine lv_iload hx hb dL_law_3590 (lv_at hl 1 rfl) ?_
  have hp2 := P2.of (ch_restore hR (by omega)).1 (ch_restore hR (by omega)).2.1 (ch_restore hR (by omega)).2.2 (by omega) (by omega) hB6
  refine lv_icmp_eq (tgt := 3597) hx hb dL_law_3592 (by decide) (fun c_1 => ?_) (fun c_1 => absurd (hp2.1.trans ek6.symm) c_1)
  refine lv_iload hx hb dL_law_3597 (lv_at hl 1 rfl) ?_
  obtain ⟨f2, rfl, hf2⟩ := outL hO
  have fin : W p l e room_1 s m args below meth c H3 locs3 (cells + 1 + 0) (slots + 6 + 0) Q (F0 m 3614 ls []) := by
    refine lv_goto (tgt := 3617) hx hb dL_law_3614 (by decide) ?_
    refine W.widen (k := cells + 60) (n := slots + 240) (by omega) (by omega) ?_
    exact ih _ _ _ _ _ _ _ _ _ _ hW (hp2.rr hO) hS (lv_sub hl [2, 3, 4, 5, 6, 7] rfl)
  refine lv_if_ne (tgt := 3614) hx hb dL_law_3599 (by decide) (fun c_2 => fin) (fun c_2 => ?_)
  have hn := kC_0 (by decide) (ek6.symm.trans c_2)
  have hok := (hp2.2.1 hn).1
  have hv := hf2 hn
  have hPq : va_P D vwCl [(qo, eL cl f2)] H3 := wCons hW.2.2.2.1 (fun k x hx9 => by (cases hx9))
  refine lv_aload_n hx hb dL_law_3602 rfl (lv_at hl 5 rfl) ?_
  refine lv_iconst (v := 0) hx hb dL_law_3603 (by decide) ?_
  refine va_lald hx hb hK hPq 0 6 rfl rfl (i := 0) vp01 dL_law_3604 ?_
  refine lv_iload hx hb dL_law_3605 (lv_at hl 0 rfl) ?_
  refine lv_i2l (v := Int32.toInt64 b7) hx hb dL_law_3607 rfl ?_
  refine W.lcmp hx hb dL_law_3608 ?_
  refine lv_if_eq (tgt := 3614) hx hb dL_law_3609 (by decide) (fun _ => fin) (fun c_4 => absurd (lg_same (hv.trans (congrArg Int32.toInt64 (hok.trans eb7.symm)))) c_4)
end LCASE
