section LCASE
variable {p : Program} {l : Launch} {e : Env} {s : State} {m : MethodId} {args : Array Value} {below : List Frame} {meth : Method} {c : Code} {H : Heap} {locs : List Loc} {cells slots : Nat} {Q : State → Prop} {ls : Array Slot}
variable {b L : Nat} {xs : Nat → Int32} {D : va_G} {cy : Nat → ClassId} {cl cd : ClassId} {xq ad am : Nat → Nat} {qo qd : Nat} {pm : Nat → Nat} {rj : Option Nat} {rc : Option RC} {σ μ : Nat → Nat → Int32} {f : Nat → Int64} {g : Nat → UInt64} {i B : Nat}
set_option maxHeartbeats 4000000 in
set_option maxRecDepth 100000 in
theorem lc_40 (E0 : LE p l s m c args b L xs D cy cl cd xq) (hi : 7 * i + 7 ≤ L) (hL : L ≤ 3584) (hcl : cells + 60 ≤ 606307) (hsl : slots + 240 ≤ 7176832) (hW : LW s.heap.size D cy ad am qo qd pm rj rc σ μ (eL cl f) (eD cd g) H) (hR : RR B σ pm rc μ) (hB : B ≤ 20 * i + 1) (hS : va_S (fun q => s.heap.size ≤ q) s.heap H locs) (hl : lv_has ls 9 [(0, .ref b), (1, .ref (ad 429)), (2, .ref (am 0)), (3, .ref qo), (4, .ref qd), (5, .int (nI (7 * i)))]) (ih : LIH p l e s m args below meth c D cy cl cd ad am qo qd b i B cells slots Q) : W p l e room_1 s m args below meth c H locs cells slots Q (F0 m 2813 ls []) := by
  obtain ⟨hx, hb, hml, hown, hts, hX, hbl, hst, hK, hE0, hNC⟩ := E0
  have hbA : ¬ (fun q : Nat => s.heap.size ≤ q) b := Nat.not_le.mpr hbl
  obtain ⟨n, t, pi, ro, hbr⟩ := hR.1
  obtain ⟨⟨ch, hc8, hch, -⟩, hpm, -⟩ := hR.2.1
  have hRJ := hR.2.2.2.1
  have hB6 : B + 20 < 1000000 := by omega
  have hA := hW.1
  have hKg := hK.sub (tys' := tyG cy) [0, 1, 2, 3, 4, 5] rfl
  refine lv_aload_n hx hb dL_law_2813 rfl (lv_at hl 1 rfl) ?_
  refine sp_call (W.runV (As := []) (rest := []) ⟨hx, hb, hml, hown, hts⟩ (c_X9_tideLevel l D ad cy pm rj σ ) (cwV 0 hts gL_law_X9_tideLevel rfl rfl rfl (by decide +kernel) ⟨Nat.le_of_ble_eq_true rfl, Nat.le_of_ble_eq_true rfl⟩) (sp_preV hKg hW.2.1 (κ := 429) (by decide) cE_sp rfl) rfl rfl hl.1 rfl (lv_room (Nat.le_of_ble_eq_true rfl)) dL_law_2814 ⟨by show cells + 0 ≤ 606307; omega, by show slots + 0 ≤ 7176832; omega⟩) ?_
  refine lv_topi (fun k6 ek6 => ?_)
  refine lv_aload_n hx hb dL_law_2817 rfl (lv_at hl 2 rfl) ?_
  refine sp_callm (va_runV (As := []) (rest := [.int k6]) ⟨hx, hb, hml, hown, hts⟩ (c_X10_tideLevel l D am cy μ _ hA.2.1 n t hbr.1) (cwV 0 hts gL_law_X10_tideLevel rfl rfl rfl (by decide +kernel) ⟨Nat.le_of_ble_eq_true rfl, Nat.le_of_ble_eq_true rfl⟩) (sp_preVm hKg hW.2.2.1 (κ := 0) (by decide) mE_0 rfl) rfl rfl hl.1 rfl (lv_room (Nat.le_of_ble_eq_true rfl)) dL_law_2818 ⟨by show cells + 0 ≤ 606307; omega, by show slots + 0 ≤ 7176832; omega⟩) hS (fun q _ h => lwAm hA hS q h) (fun q h => lwAm hA hS q h) (fun H3 locs3 hPm hle hfr hS => ?_)
  have hW := hW.model hPm hfr
  refine lv_icmp_eq (tgt := 3617) hx hb dL_law_2821 (by decide) (fun c_1 => ?_) (fun c_1 => ?_)
  · refine W.widen (k := cells + 60) (n := slots + 240) (by omega) (by omega) ?_
    exact ih _ _ _ _ _ _ _ _ _ _ hW ((hR.thrown (by omega) 0).mono (by omega) hB6) hS hl
  · exact absurd (ek6.trans (hbr.2.2.2.1.2.2.1.symm)) c_1
set_option maxHeartbeats 4000000 in
set_option maxRecDepth 100000 in
theorem lc_41 (E0 : LE p l s m c args b L xs D cy cl cd xq) (hi : 7 * i + 7 ≤ L) (hL : L ≤ 3584) (hcl : cells + 60 ≤ 606307) (hsl : slots + 240 ≤ 7176832) (hW : LW s.heap.size D cy ad am qo qd pm rj rc σ μ (eL cl f) (eD cd g) H) (hR : RR B σ pm rc μ) (hB : B ≤ 20 * i + 1) (hS : va_S (fun q => s.heap.size ≤ q) s.heap H locs) (hl : lv_has ls 9 [(0, .ref b), (1, .ref (ad 429)), (2, .ref (am 0)), (3, .ref qo), (4, .ref qd), (5, .int (nI (7 * i)))]) (ih : LIH p l e s m args below meth c D cy cl cd ad am qo qd b i B cells slots Q) : W p l e room_1 s m args below meth c H locs cells slots Q (F0 m 2826 ls []) := by
  obtain ⟨hx, hb, hml, hown, hts, hX, hbl, hst, hK, hE0, hNC⟩ := E0
  have hbA : ¬ (fun q : Nat => s.heap.size ≤ q) b := Nat.not_le.mpr hbl
  obtain ⟨n, t, pi, ro, hbr⟩ := hR.1
  obtain ⟨⟨ch, hc8, hch, -⟩, hpm, -⟩ := hR.2.1
  have hRJ := hR.2.2.2.1
  have hB6 : B + 20 < 1000000 := by omega
  have hA := hW.1
  have hKg := hK.sub (tys' := tyG cy) [0, 1, 2, 3, 4, 5] rfl
  refine lv_aload_n hx hb dL_law_2826 rfl (lv_at hl 1 rfl) ?_
  refine lv_aload_n hx hb dL_law_2827 rfl (lv_at hl 0 rfl) ?_
  refine lv_iload hx hb dL_law_2828 (lv_at hl 5 rfl) ?_
  refine lv_iconst (v := 1) hx hb dL_law_2830 (by decide) ?_
  refine lv_iadd hx hb dL_law_2831 ?_
  refine W.eq (g2 := F0 m 2832 ls [.int (nI (7 * i + 1)), .ref b, .ref (ad 429)]) (congrArg (fun z9 => F0 m 2832 ls [.int z9, .ref b, .ref (ad 429)]) (show nI (7 * i) + 1 = nI (7 * i + 1) from nI_addE rfl (by decide +kernel))) ?_
  refine va_sld hx hb hX hbl hbA hS (i := nI (7 * i + 1)) (vp_in_nI (by omega) (by omega)) dL_law_2832 ?_
  refine lv_aload_n hx hb dL_law_2833 rfl (lv_at hl 3 rfl) ?_
  refine LW.call hW (vx_runSW (As := [.ref (ad 429), .int (xs (nI (7 * i + 1)).toNatClampNeg), .ref qo]) (rest := []) ⟨hx, hb, hml, hown, hts⟩ (c_L_erasedBy l D ad cy pm rj σ xq hst _ hA.1 (xs (nI (7 * i + 1)).toNatClampNeg) cl cd qo f g) (vx_cwSW 3 hts gL_law_L_erasedBy rfl rfl rfl (by decide +kernel) ⟨Nat.le_of_ble_eq_true rfl, Nat.le_of_ble_eq_true rfl⟩) (lwPre hW.2.1 hW.2.2.2.1 hK (lwEX hE0 hA hS) hNC (fun k hk => (hA.2.2.2.1 k hk).1) trivial) rfl rfl hl.1 rfl (lv_room (Nat.le_of_ble_eq_true rfl)) dL_law_2834 ⟨by show cells + 1 ≤ 606307; omega, by show slots + 6 ≤ 7176832; omega⟩) hS (fun H2 locs2 pm2 rj2 rc2 σ2 e2 hW hO hS => ?_)
  refine lv_topi (fun k6 ek6 => ?_)
  refine lv_istore (lv' := [(6, .int k6), (0, .ref b), (1, .ref (ad 429)), (2, .ref (am 0)), (3, .ref qo), (4, .ref qd), (5, .int (nI (7 * i)))]) hx hb dL_law_2837 hl (by decide) rfl (fun ls hl => ?_)
  refine lv_aload_n hx hb dL_law_2839 rfl (lv_at hl 3 rfl) ?_
  refine lv_aload_n hx hb dL_law_2840 rfl (lv_at hl 1 rfl) ?_
  refine lv_iload hx hb dL_law_2841 (lv_at hl 6 rfl) ?_
  refine lv_iconst (v := 1) hx hb dL_law_2843 (by decide) ?_
  refine lv_iadd hx hb dL_law_2844 ?_
  refine W.eq (g2 := F0 m 2845 ls [.int (nI (7 * i + 1)), .ref b, .ref (am 0)]) (congrArg (fun z9 => F0 m 2845 ls [.int z9, .ref b, .ref (am 0)]) (show nI (7 * i) + 1 = nI (7 * i + 1) from nI_addE rfl (by decide +kernel))) ?_
  refine va_sld hx hb hX hbl hbA hS (i := nI (7 * i + 1)) (vp_in_nI (by omega) (by omega)) dL_law_2845 ?_
  refine sp_callm (va_runV (As := [.int (xs (nI (7 * i + 1)).toNatClampNeg)]) (rest := []) ⟨hx, hb, hml, hown, hts⟩ (c_X10_erasedBy l D am cy μ _ hA.2.1 n t hbr.1 (xs (nI (7 * i + 1)).toNatClampNeg)) (cwV 1 hts gL_law_X10_erasedBy rfl rfl rfl (by decide +kernel) ⟨Nat.le_of_ble_eq_true rfl, Nat.le_of_ble_eq_true rfl⟩) (sp_preVm hKg hW.2.2.1 (κ := 0) (by decide) mE_0 rfl) rfl rfl hl.1 rfl (lv_room (Nat.le_of_ble_eq_true rfl)) dL_law_2846 ⟨by show cells + 1 + 0 ≤ 606307; omega, by show slots + 6 + 0 ≤ 7176832; omega⟩) hS (fun q _ h => lwAm hA hS q h) (fun q h => lwAm hA hS q h) (fun H3 locs3 hPm hle hfr hS => ?_)
  have hW := hW.model hPm hfr
  refine lv_topi (fun b7 eb7 => ?_)
  refine lv_istore (lv' := [(7, .int b7), (6, .int k6), (0, .ref b), (1, .ref (ad 429)), (2, .ref (am 0)), (3, .ref qo), (4, .ref qd), (5, .int (nI (7 * i)))]) hx hb dL_law_2849 hl (by decide) rfl (fun ls hl => ?_)
  refine lv_aload_n hx hb dL_law_2851 rfl (lv_at hl 4 rfl) ?_
  refine sp_call (W.runV (As := []) (rest := []) ⟨hx, hb, hml, hown, hts⟩ (c_X10_thrown l D am cy _) (cwV 0 hts gL_law_X10_thrown rfl rfl rfl (by decide +kernel) ⟨Nat.le_of_ble_eq_true rfl, Nat.le_of_ble_eq_true rfl⟩) (sp_preV hKg hW.2.2.1 (κ := 0) (by decide) mE_0 rfl) rfl rfl hl.1 rfl (lv_room (Nat.le_of_ble_eq_true rfl)) dL_law_2852 ⟨by show cells + 1 + 0 + 0 ≤ 606307; omega, by show slots + 6 + 0 + 0 ≤ 7176832; omega⟩) ?_
  refine lv_iload hx hb dL_law_2855 (lv_at hl 1 rfl) ?_
  have hp2 := AG.p2 (ag_era hbr (xs (nI (7 * i + 1)).toNatClampNeg)) hR hB6
  refine lv_icmp_eq (tgt := 2862) hx hb dL_law_2857 (by decide) (fun c_1 => ?_) (fun c_1 => absurd (hp2.1.trans ek6.symm) c_1)
  refine lv_iload hx hb dL_law_2862 (lv_at hl 1 rfl) ?_
  obtain ⟨f2, rfl, hf2⟩ := outL hO
  have fin : W p l e room_1 s m args below meth c H3 locs3 (cells + 1 + 0) (slots + 6 + 0) Q (F0 m 2879 ls []) := by
    refine lv_goto (tgt := 3617) hx hb dL_law_2879 (by decide) ?_
    refine W.widen (k := cells + 60) (n := slots + 240) (by omega) (by omega) ?_
    exact ih _ _ _ _ _ _ _ _ _ _ hW (hp2.rr hO) hS (lv_sub hl [2, 3, 4, 5, 6, 7] rfl)
  refine lv_if_ne (tgt := 2879) hx hb dL_law_2864 (by decide) (fun c_2 => fin) (fun c_2 => ?_)
  have hn := kC_0 (by decide) (ek6.symm.trans c_2)
  have hok := (hp2.2.1 hn).1
  have hv := hf2 hn
  have hPq : va_P D vwCl [(qo, eL cl f2)] H3 := wCons hW.2.2.2.1 (fun k x hx9 => by (cases hx9))
  refine lv_aload_n hx hb dL_law_2867 rfl (lv_at hl 5 rfl) ?_
  refine lv_iconst (v := 0) hx hb dL_law_2868 (by decide) ?_
  refine va_lald hx hb hK hPq 0 6 rfl rfl (i := 0) vp01 dL_law_2869 ?_
  refine lv_iload hx hb dL_law_2870 (lv_at hl 0 rfl) ?_
  refine lv_i2l (v := Int32.toInt64 b7) hx hb dL_law_2872 rfl ?_
  refine W.lcmp hx hb dL_law_2873 ?_
  refine lv_if_eq (tgt := 2879) hx hb dL_law_2874 (by decide) (fun _ => fin) (fun c_4 => absurd (lg_same (hv.trans (congrArg Int32.toInt64 (hok.trans eb7.symm)))) c_4)
set_option maxHeartbeats 4000000 in
set_option maxRecDepth 100000 in
theorem lc_42 (E0 : LE p l s m c args b L xs D cy cl cd xq) (hi : 7 * i + 7 ≤ L) (hL : L ≤ 3584) (hcl : cells + 60 ≤ 606307) (hsl : slots + 240 ≤ 7176832) (hW : LW s.heap.size D cy ad am qo qd pm rj rc σ μ (eL cl f) (eD cd g) H) (hR : RR B σ pm rc μ) (hB : B ≤ 20 * i + 1) (hS : va_S (fun q => s.heap.size ≤ q) s.heap H locs) (hl : lv_has ls 9 [(0, .ref b), (1, .ref (ad 429)), (2, .ref (am 0)), (3, .ref qo), (4, .ref qd), (5, .int (nI (7 * i)))]) (ih : LIH p l e s m args below meth c D cy cl cd ad am qo qd b i B cells slots Q) : W p l e room_1 s m args below meth c H locs cells slots Q (F0 m 2882 ls []) := by
  obtain ⟨hx, hb, hml, hown, hts, hX, hbl, hst, hK, hE0, hNC⟩ := E0
  have hbA : ¬ (fun q : Nat => s.heap.size ≤ q) b := Nat.not_le.mpr hbl
  obtain ⟨n, t, pi, ro, hbr⟩ := hR.1
  obtain ⟨⟨ch, hc8, hch, -⟩, hpm, -⟩ := hR.2.1
  have hRJ := hR.2.2.2.1
  have hB6 : B + 20 < 1000000 := by omega
  have hA := hW.1
  have hKg := hK.sub (tys' := tyG cy) [0, 1, 2, 3, 4, 5] rfl
  refine lv_aload_n hx hb dL_law_2882 rfl (lv_at hl 1 rfl) ?_
  refine sp_call (W.runV (As := []) (rest := []) ⟨hx, hb, hml, hown, hts⟩ (c_X9_trackCount l D ad cy pm rj σ ) (cwV 0 hts gL_law_X9_trackCount rfl rfl rfl (by decide +kernel) ⟨Nat.le_of_ble_eq_true rfl, Nat.le_of_ble_eq_true rfl⟩) (sp_preV hKg hW.2.1 (κ := 429) (by decide) cE_sp rfl) rfl rfl hl.1 rfl (lv_room (Nat.le_of_ble_eq_true rfl)) dL_law_2883 ⟨by show cells + 0 ≤ 606307; omega, by show slots + 0 ≤ 7176832; omega⟩) ?_
  refine lv_topi (fun k6 ek6 => ?_)
  refine lv_aload_n hx hb dL_law_2886 rfl (lv_at hl 2 rfl) ?_
  refine sp_callm (va_runV (As := []) (rest := [.int k6]) ⟨hx, hb, hml, hown, hts⟩ (c_X10_trackCount l D am cy μ _ hA.2.1 n t hbr.1) (cwV 0 hts gL_law_X10_trackCount rfl rfl rfl (by decide +kernel) ⟨Nat.le_of_ble_eq_true rfl, Nat.le_of_ble_eq_true rfl⟩) (sp_preVm hKg hW.2.2.1 (κ := 0) (by decide) mE_0 rfl) rfl rfl hl.1 rfl (lv_room (Nat.le_of_ble_eq_true rfl)) dL_law_2887 ⟨by show cells + 0 ≤ 606307; omega, by show slots + 0 ≤ 7176832; omega⟩) hS (fun q _ h => lwAm hA hS q h) (fun q h => lwAm hA hS q h) (fun H3 locs3 hPm hle hfr hS => ?_)
  have hW := hW.model hPm hfr
  refine lv_icmp_eq (tgt := 3617) hx hb dL_law_2890 (by decide) (fun c_1 => ?_) (fun c_1 => ?_)
  · refine W.widen (k := cells + 60) (n := slots + 240) (by omega) (by omega) ?_
    exact ih _ _ _ _ _ _ _ _ _ _ hW ((hR.thrown (by omega) 0).mono (by omega) hB6) hS hl
  · exact absurd (ek6.trans (hbr.tracks)) c_1
set_option maxHeartbeats 4000000 in
set_option maxRecDepth 100000 in
theorem lc_43 (E0 : LE p l s m c args b L xs D cy cl cd xq) (hi : 7 * i + 7 ≤ L) (hL : L ≤ 3584) (hcl : cells + 60 ≤ 606307) (hsl : slots + 240 ≤ 7176832) (hW : LW s.heap.size D cy ad am qo qd pm rj rc σ μ (eL cl f) (eD cd g) H) (hR : RR B σ pm rc μ) (hB : B ≤ 20 * i + 1) (hS : va_S (fun q => s.heap.size ≤ q) s.heap H locs) (hl : lv_has ls 9 [(0, .ref b), (1, .ref (ad 429)), (2, .ref (am 0)), (3, .ref qo), (4, .ref qd), (5, .int (nI (7 * i)))]) (ih : LIH p l e s m args below meth c D cy cl cd ad am qo qd b i B cells slots Q) : W p l e room_1 s m args below meth c H locs cells slots Q (F0 m 2895 ls []) := by
  obtain ⟨hx, hb, hml, hown, hts, hX, hbl, hst, hK, hE0, hNC⟩ := E0
  have hbA : ¬ (fun q : Nat => s.heap.size ≤ q) b := Nat.not_le.mpr hbl
  obtain ⟨n, t, pi, ro, hbr⟩ := hR.1
  obtain ⟨⟨ch, hc8, hch, -⟩, hpm, -⟩ := hR.2.1
  have hRJ := hR.2.2.2.1
  have hB6 : B + 20 < 1000000 := by omega
  have hA := hW.1
  have hKg := hK.sub (tys' := tyG cy) [0, 1, 2, 3, 4, 5] rfl
  refine lv_aload_n hx hb dL_law_2895 rfl (lv_at hl 1 rfl) ?_
  refine sp_call (W.runV (As := []) (rest := []) ⟨hx, hb, hml, hown, hts⟩ (c_X9_totalPrints l D ad cy pm rj σ ) (cwV 0 hts gL_law_X9_totalPrints rfl rfl rfl (by decide +kernel) ⟨Nat.le_of_ble_eq_true rfl, Nat.le_of_ble_eq_true rfl⟩) (sp_preV hKg hW.2.1 (κ := 429) (by decide) cE_sp rfl) rfl rfl hl.1 rfl (lv_room (Nat.le_of_ble_eq_true rfl)) dL_law_2896 ⟨by show cells + 0 ≤ 606307; omega, by show slots + 0 ≤ 7176832; omega⟩) ?_
  refine lv_topi (fun k6 ek6 => ?_)
  refine lv_aload_n hx hb dL_law_2899 rfl (lv_at hl 2 rfl) ?_
  refine sp_callm (va_runV (As := []) (rest := [.int k6]) ⟨hx, hb, hml, hown, hts⟩ (c_X10_totalPrints l D am cy μ _ hA.2.1 n t hbr.1) (cwV 0 hts gL_law_X10_totalPrints rfl rfl rfl (by decide +kernel) ⟨Nat.le_of_ble_eq_true rfl, Nat.le_of_ble_eq_true rfl⟩) (sp_preVm hKg hW.2.2.1 (κ := 0) (by decide) mE_0 rfl) rfl rfl hl.1 rfl (lv_room (Nat.le_of_ble_eq_true rfl)) dL_law_2900 ⟨by show cells + 0 ≤ 606307; omega, by show slots + 0 ≤ 7176832; omega⟩) hS (fun q _ h => lwAm hA hS q h) (fun q h => lwAm hA hS q h) (fun H3 locs3 hPm hle hfr hS => ?_)
  have hW := hW.model hPm hfr
  refine lv_icmp_eq (tgt := 3617) hx hb dL_law_2903 (by decide) (fun c_1 => ?_) (fun c_1 => ?_)
  · refine W.widen (k := cells + 60) (n := slots + 240) (by omega) (by omega) ?_
    exact ih _ _ _ _ _ _ _ _ _ _ hW ((hR.thrown (by omega) 0).mono (by omega) hB6) hS hl
  · exact absurd (ek6.trans (hbr.all)) c_1
set_option maxHeartbeats 4000000 in
set_option maxRecDepth 100000 in
theorem lc_44 (E0 : LE p l s m c args b L xs D cy cl cd xq) (hi : 7 * i + 7 ≤ L) (hL : L ≤ 3584) (hcl : cells + 60 ≤ 606307) (hsl : slots + 240 ≤ 7176832) (hW : LW s.heap.size D cy ad am qo qd pm rj rc σ μ (eL cl f) (eD cd g) H) (hR : RR B σ pm rc μ) (hB : B ≤ 20 * i + 1) (hS : va_S (fun q => s.heap.size ≤ q) s.heap H locs) (hl : lv_has ls 9 [(0, .ref b), (1, .ref (ad 429)), (2, .ref (am 0)), (3, .ref qo), (4, .ref qd), (5, .int (nI (7 * i)))]) (ih : LIH p l e s m args below meth c D cy cl cd ad am qo qd b i B cells slots Q) : W p l e room_1 s m args below meth c H locs cells slots Q (F0 m 2908 ls []) := by
  obtain ⟨hx, hb, hml, hown, hts, hX, hbl, hst, hK, hE0, hNC⟩ := E0
  have hbA : ¬ (fun q : Nat => s.heap.size ≤ q) b := Nat.not_le.mpr hbl
  obtain ⟨n, t, pi, ro, hbr⟩ := hR.1
  obtain ⟨⟨ch, hc8, hch, -⟩, hpm, -⟩ := hR.2.1
  have hRJ := hR.2.2.2.1
  have hB6 : B + 20 < 1000000 := by omega
  have hA := hW.1
  have hKg := hK.sub (tys' := tyG cy) [0, 1, 2, 3, 4, 5] rfl
  refine lv_aload_n hx hb dL_law_2908 rfl (lv_at hl 1 rfl) ?_
  refine sp_call (W.runV (As := []) (rest := []) ⟨hx, hb, hml, hown, hts⟩ (c_X9_erasedPrints l D ad cy pm rj σ ) (cwV 0 hts gL_law_X9_erasedPrints rfl rfl rfl (by decide +kernel) ⟨Nat.le_of_ble_eq_true rfl, Nat.le_of_ble_eq_true rfl⟩) (sp_preV hKg hW.2.1 (κ := 429) (by decide) cE_sp rfl) rfl rfl hl.1 rfl (lv_room (Nat.le_of_ble_eq_true rfl)) dL_law_2909 ⟨by show cells + 0 ≤ 606307; omega, by show slots + 0 ≤ 7176832; omega⟩) ?_
  refine lv_topi (fun k6 ek6 => ?_)
  refine lv_aload_n hx hb dL_law_2912 rfl (lv_at hl 2 rfl) ?_
  refine sp_callm (va_runV (As := []) (rest := [.int k6]) ⟨hx, hb, hml, hown, hts⟩ (c_X10_erasedPrints l D am cy μ _ hA.2.1 n t hbr.1) (cwV 0 hts gL_law_X10_erasedPrints rfl rfl rfl (by decide +kernel) ⟨Nat.le_of_ble_eq_true rfl, Nat.le_of_ble_eq_true rfl⟩) (sp_preVm hKg hW.2.2.1 (κ := 0) (by decide) mE_0 rfl) rfl rfl hl.1 rfl (lv_room (Nat.le_of_ble_eq_true rfl)) dL_law_2913 ⟨by show cells + 0 ≤ 606307; omega, by show slots + 0 ≤ 7176832; omega⟩) hS (fun q _ h => lwAm hA hS q h) (fun q h => lwAm hA hS q h) (fun H3 locs3 hPm hle hfr hS => ?_)
  have hW := hW.model hPm hfr
  refine lv_icmp_eq (tgt := 3617) hx hb dL_law_2916 (by decide) (fun c_1 => ?_) (fun c_1 => ?_)
  · refine W.widen (k := cells + 60) (n := slots + 240) (by omega) (by omega) ?_
    exact ih _ _ _ _ _ _ _ _ _ _ hW ((hR.thrown (by omega) 0).mono (by omega) hB6) hS hl
  · exact absurd (ek6.trans (hbr.2.2.2.1.2.2.2.1.symm)) c_1
set_option maxHeartbeats 4000000 in
set_option maxRecDepth 100000 in
theorem lc_45 (E0 : LE p l s m c args b L xs D cy cl cd xq) (hi : 7 * i + 7 ≤ L) (hL : L ≤ 3584) (hcl : cells + 60 ≤ 606307) (hsl : slots + 240 ≤ 7176832) (hW : LW s.heap.size D cy ad am qo qd pm rj rc σ μ (eL cl f) (eD cd g) H) (hR : RR B σ pm rc μ) (hB : B ≤ 20 * i + 1) (hS : va_S (fun q => s.heap.size ≤ q) s.heap H locs) (hl : lv_has ls 9 [(0, .ref b), (1, .ref (ad 429)), (2, .ref (am 0)), (3, .ref qo), (4, .ref qd), (5, .int (nI (7 * i)))]) (ih : LIH p l e s m args below meth c D cy cl cd ad am qo qd b i B cells slots Q) : W p l e room_1 s m args below meth c H locs cells slots Q (F0 m 2921 ls []) := by
  obtain ⟨hx, hb, hml, hown, hts, hX, hbl, hst, hK, hE0, hNC⟩ := E0
  have hbA : ¬ (fun q : Nat => s.heap.size ≤ q) b := Nat.not_le.mpr hbl
  obtain ⟨n, t, pi, ro, hbr⟩ := hR.1
  obtain ⟨⟨ch, hc8, hch, -⟩, hpm, -⟩ := hR.2.1
  have hRJ := hR.2.2.2.1
  have hB6 : B + 20 < 1000000 := by omega
  have hA := hW.1
  have hKg := hK.sub (tys' := tyG cy) [0, 1, 2, 3, 4, 5] rfl
  refine lv_aload_n hx hb dL_law_2921 rfl (lv_at hl 1 rfl) ?_
  refine sp_call (W.runV (As := []) (rest := []) ⟨hx, hb, hml, hown, hts⟩ (c_X9_correctedHeels l D ad cy pm rj σ ) (cwV 0 hts gL_law_X9_correctedHeels rfl rfl rfl (by decide +kernel) ⟨Nat.le_of_ble_eq_true rfl, Nat.le_of_ble_eq_true rfl⟩) (sp_preV hKg hW.2.1 (κ := 429) (by decide) cE_sp rfl) rfl rfl hl.1 rfl (lv_room (Nat.le_of_ble_eq_true rfl)) dL_law_2922 ⟨by show cells + 0 ≤ 606307; omega, by show slots + 0 ≤ 7176832; omega⟩) ?_
  refine lv_topi (fun k6 ek6 => ?_)
  refine lv_aload_n hx hb dL_law_2925 rfl (lv_at hl 2 rfl) ?_
  refine sp_callm (va_runV (As := []) (rest := [.int k6]) ⟨hx, hb, hml, hown, hts⟩ (c_X10_correctedHeels l D am cy μ _ hA.2.1 n t hbr.1) (cwV 0 hts gL_law_X10_correctedHeels rfl rfl rfl (by decide +kernel) ⟨Nat.le_of_ble_eq_true rfl, Nat.le_of_ble_eq_true rfl⟩) (sp_preVm hKg hW.2.2.1 (κ := 0) (by decide) mE_0 rfl) rfl rfl hl.1 rfl (lv_room (Nat.le_of_ble_eq_true rfl)) dL_law_2926 ⟨by show cells + 0 ≤ 606307; omega, by show slots + 0 ≤ 7176832; omega⟩) hS (fun q _ h => lwAm hA hS q h) (fun q h => lwAm hA hS q h) (fun H3 locs3 hPm hle hfr hS => ?_)
  have hW := hW.model hPm hfr
  refine lv_icmp_eq (tgt := 3617) hx hb dL_law_2929 (by decide) (fun c_1 => ?_) (fun c_1 => ?_)
  · refine W.widen (k := cells + 60) (n := slots + 240) (by omega) (by omega) ?_
    exact ih _ _ _ _ _ _ _ _ _ _ hW ((hR.thrown (by omega) 0).mono (by omega) hB6) hS hl
  · exact absurd (ek6.trans (hbr.2.2.2.1.2.2.2.2.symm)) c_1
set_option maxHeartbeats 4000000 in
set_option maxRecDepth 100000 in
theorem lc_46 (E0 : LE p l s m c args b L xs D cy cl cd xq) (hi : 7 * i + 7 ≤ L) (hL : L ≤ 3584) (hcl : cells + 60 ≤ 606307) (hsl : slots + 240 ≤ 7176832) (hW : LW s.heap.size D cy ad am qo qd pm rj rc σ μ (eL cl f) (eD cd g) H) (hR : RR B σ pm rc μ) (hB : B ≤ 20 * i + 1) (hS : va_S (fun q => s.heap.size ≤ q) s.heap H locs) (hl : lv_has ls 9 [(0, .ref b), (1, .ref (ad 429)), (2, .ref (am 0)), (3, .ref qo), (4, .ref qd), (5, .int (nI (7 * i)))]) (ih : LIH p l e s m args below meth c D cy cl cd ad am qo qd b i B cells slots Q) : W p l e room_1 s m args below meth c H locs cells slots Q (F0 m 2934 ls []) := by
  obtain ⟨hx, hb, hml, hown, hts, hX, hbl, hst, hK, hE0, hNC⟩ := E0
  have hbA : ¬ (fun q : Nat => s.heap.size ≤ q) b := Nat.not_le.mpr hbl
  obtain ⟨n, t, pi, ro, hbr⟩ := hR.1
  obtain ⟨⟨ch, hc8, hch, -⟩, hpm, -⟩ := hR.2.1
  have hRJ := hR.2.2.2.1
  have hB6 : B + 20 < 1000000 := by omega
  have hA := hW.1
  have hKg := hK.sub (tys' := tyG cy) [0, 1, 2, 3, 4, 5] rfl
  refine lv_aload_n hx hb dL_law_2934 rfl (lv_at hl 1 rfl) ?_
  refine lv_aload hx hb dL_law_2935 (lv_at hl 4 rfl) ?_
  refine LW.calld hW (vx_runSW (As := [.ref (ad 429), .ref qd]) (rest := []) ⟨hx, hb, hml, hown, hts⟩ (c_L_lateShare l D ad cy pm rj σ xq hst _ hA.1 hbr.lateC cl cd qd f g (fun h9 => (hbr.lateF h9).1)) (vx_cwSW 2 hts gL_law_L_lateShare rfl rfl rfl (by decide +kernel) ⟨Nat.le_of_ble_eq_true rfl, Nat.le_of_ble_eq_true rfl⟩) (lwPre hW.2.1 hW.2.2.2.2.1 hK (lwEX hE0 hA hS) hNC (fun k hk => (hA.2.2.2.1 k hk).2) trivial) rfl rfl hl.1 rfl (lv_room (Nat.le_of_ble_eq_true rfl)) dL_law_2937 ⟨by show cells + 1 ≤ 606307; omega, by show slots + 6 ≤ 7176832; omega⟩) hS (fun H2 locs2 pm2 rj2 rc2 σ2 e2 hW hO hS => ?_)
  refine lv_topi (fun k6 ek6 => ?_)
  refine lv_istore (lv' := [(6, .int k6), (0, .ref b), (1, .ref (ad 429)), (2, .ref (am 0)), (3, .ref qo), (4, .ref qd), (5, .int (nI (7 * i)))]) hx hb dL_law_2940 hl (by decide) rfl (fun ls hl => ?_)
  refine lv_aload_n hx hb dL_law_2942 rfl (lv_at hl 3 rfl) ?_
  refine sp_callm (va_runV (As := []) (rest := []) ⟨hx, hb, hml, hown, hts⟩ (c_X10_lateShare l D am cy μ _ hA.2.1 n t hbr.1 hbr.lateM) (cwV 0 hts gL_law_X10_lateShare rfl rfl rfl (by decide +kernel) ⟨Nat.le_of_ble_eq_true rfl, Nat.le_of_ble_eq_true rfl⟩) (sp_preVm hKg hW.2.2.1 (κ := 0) (by decide) mE_0 rfl) rfl rfl hl.1 rfl (lv_room (Nat.le_of_ble_eq_true rfl)) dL_law_2943 ⟨by show cells + 1 + 0 ≤ 606307; omega, by show slots + 6 + 0 ≤ 7176832; omega⟩) hS (fun q _ h => lwAm hA hS q h) (fun q h => lwAm hA hS q h) (fun H3 locs3 hPm hle hfr hS => ?_)
  have hW := hW.model hPm hfr
  refine lv_topf (fun b7 eb7 => ?_)
  refine lv_fstore (lv' := [(7, .float b7), (6, .int k6), (0, .ref b), (1, .ref (ad 429)), (2, .ref (am 0)), (3, .ref qo), (4, .ref qd), (5, .int (nI (7 * i)))]) hx hb dL_law_2946 hl (by decide) rfl (fun ls hl => ?_)
  refine lv_aload_n hx hb dL_law_2948 rfl (lv_at hl 4 rfl) ?_
  refine sp_call (W.runV (As := []) (rest := []) ⟨hx, hb, hml, hown, hts⟩ (c_X10_thrown l D am cy _) (cwV 0 hts gL_law_X10_thrown rfl rfl rfl (by decide +kernel) ⟨Nat.le_of_ble_eq_true rfl, Nat.le_of_ble_eq_true rfl⟩) (sp_preV hKg hW.2.2.1 (κ := 0) (by decide) mE_0 rfl) rfl rfl hl.1 rfl (lv_room (Nat.le_of_ble_eq_true rfl)) dL_law_2949 ⟨by show cells + 1 + 0 + 0 ≤ 606307; omega, by show slots + 6 + 0 + 0 ≤ 7176832; omega⟩) ?_
  refine lv_iload hx hb dL_law_2952 (lv_at hl 1 rfl) ?_
  have hp2 := AG.p2 (ag_late hbr) hR hB6
  refine lv_icmp_eq (tgt := 2959) hx hb dL_law_2954 (by decide) (fun c_1 => ?_) (fun c_1 => absurd (hp2.1.trans ek6.symm) c_1)
  refine lv_iload hx hb dL_law_2959 (lv_at hl 1 rfl) ?_
  obtain ⟨f2, rfl, hf2⟩ := outD hO
  have fin : W p l e room_1 s m args below meth c H3 locs3 (cells + 1 + 0) (slots + 6 + 0) Q (F0 m 2997 ls []) := by
    refine lv_goto (tgt := 3617) hx hb dL_law_2997 (by decide) ?_
    refine W.widen (k := cells + 60) (n := slots + 240) (by omega) (by omega) ?_
    exact ih _ _ _ _ _ _ _ _ _ _ hW (hp2.rr hO) hS (lv_sub hl [2, 3, 4, 5, 6, 7] rfl)
  refine lv_if_ne (tgt := 2997) hx hb dL_law_2961 (by decide) (fun c_2 => fin) (fun c_2 => ?_)
  have hn := kC_0 (by decide) (ek6.symm.trans c_2)
  have hok := (hp2.2.1 hn).1
  have hv := hf2 hn
  have hPq : va_P D vwCl [(qd, eD cd f2)] H3 := wCons hW.2.2.2.2.1 (fun k x hx9 => by (cases hx9))
  have hsame : f2 (0 : Int32).toNatClampNeg = FP.f2d b7 := hv.trans (congrArg FP.f2d (hok.trans eb7.symm))
  have hb9 := eb7.trans hok.symm
  have hn7 : vf_n64 (FP.f2d b7) := by rw [hb9]; exact (hbr.lateF hn).1
  refine lv_aload hx hb dL_law_2964 (lv_at hl 6 rfl) ?_
  refine lv_iconst (v := 0) hx hb dL_law_2966 (by decide) ?_
  refine va_dald hx hb hK hPq 0 7 rfl rfl (i := 0) vp01 dL_law_2967 ?_
  refine lv_fload hx hb dL_law_2968 (lv_at hl 0 rfl) ?_
  refine lv_f2d hx hb dL_law_2970 hn7 ?_
  refine lv_dcmp hx hb dL_law_2971 ?_
  exact lv_if_eq (tgt := 2997) hx hb dL_law_2972 (by decide) (fun _ => fin) (fun c_3 => absurd (by rw [hsame, hb9, (hbr.lateF hn).2]; rfl) c_3)
set_option maxHeartbeats 4000000 in
set_option maxRecDepth 100000 in
theorem lc_47 (E0 : LE p l s m c args b L xs D cy cl cd xq) (hi : 7 * i + 7 ≤ L) (hL : L ≤ 3584) (hcl : cells + 60 ≤ 606307) (hsl : slots + 240 ≤ 7176832) (hW : LW s.heap.size D cy ad am qo qd pm rj rc σ μ (eL cl f) (eD cd g) H) (hR : RR B σ pm rc μ) (hB : B ≤ 20 * i + 1) (hS : va_S (fun q => s.heap.size ≤ q) s.heap H locs) (hl : lv_has ls 9 [(0, .ref b), (1, .ref (ad 429)), (2, .ref (am 0)), (3, .ref qo), (4, .ref qd), (5, .int (nI (7 * i)))]) (ih : LIH p l e s m args below meth c D cy cl cd ad am qo qd b i B cells slots Q) : W p l e room_1 s m args below meth c H locs cells slots Q (F0 m 3000 ls []) := by
  obtain ⟨hx, hb, hml, hown, hts, hX, hbl, hst, hK, hE0, hNC⟩ := E0
  have hbA : ¬ (fun q : Nat => s.heap.size ≤ q) b := Nat.not_le.mpr hbl
  obtain ⟨n, t, pi, ro, hbr⟩ := hR.1
  obtain ⟨⟨ch, hc8, hch, -⟩, hpm, -⟩ := hR.2.1
  have hRJ := hR.2.2.2.1
  have hB6 : B + 20 < 1000000 := by omega
  have hA := hW.1
  have hKg := hK.sub (tys' := tyG cy) [0, 1, 2, 3, 4, 5] rfl
  refine lv_aload_n hx hb dL_law_3000 rfl (lv_at hl 1 rfl) ?_
  refine sp_call (W.runV (As := []) (rest := []) ⟨hx, hb, hml, hown, hts⟩ (c_X9_isConsistent l D ad cy pm rj σ hA.1) (cwV 0 hts gL_law_X9_isConsistent rfl rfl rfl (by decide +kernel) ⟨Nat.le_of_ble_eq_true rfl, Nat.le_of_ble_eq_true rfl⟩) (sp_preV hKg hW.2.1 (κ := 429) (by decide) cE_sp rfl) rfl rfl hl.1 rfl (lv_room (Nat.le_of_ble_eq_true rfl)) dL_law_3001 ⟨by show cells + 0 ≤ 606307; omega, by show slots + 0 ≤ 7176832; omega⟩) ?_
  refine lv_topi (fun k6 ek6 => ?_)
  refine lv_aload_n hx hb dL_law_3004 rfl (lv_at hl 2 rfl) ?_
  refine sp_callm (va_runV (As := []) (rest := [.int k6]) ⟨hx, hb, hml, hown, hts⟩ (c_X10_isConsistent l D am cy μ _ hA.2.1 n t hbr.1) (cwV 0 hts gL_law_X10_isConsistent rfl rfl rfl (by decide +kernel) ⟨Nat.le_of_ble_eq_true rfl, Nat.le_of_ble_eq_true rfl⟩) (sp_preVm hKg hW.2.2.1 (κ := 0) (by decide) mE_0 rfl) rfl rfl hl.1 rfl (lv_room (Nat.le_of_ble_eq_true rfl)) dL_law_3005 ⟨by show cells + 0 ≤ 606307; omega, by show slots + 0 ≤ 7176832; omega⟩) hS (fun q _ h => lwAm hA hS q h) (fun q h => lwAm hA hS q h) (fun H3 locs3 hPm hle hfr hS => ?_)
  have hW := hW.model hPm hfr
  refine lv_icmp_eq (tgt := 3617) hx hb dL_law_3008 (by decide) (fun c_1 => ?_) (fun c_1 => ?_)
  · refine W.widen (k := cells + 60) (n := slots + 240) (by omega) (by omega) ?_
    exact ih _ _ _ _ _ _ _ _ _ _ hW ((hR.thrown (by omega) 0).mono (by omega) hB6) hS hl
  · exact absurd (ek6.trans ((congrArg b2i (hbr.holds (by omega))))) c_1
end LCASE
