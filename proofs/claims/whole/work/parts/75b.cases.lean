section LCASE
variable {p : Program} {l : Launch} {e : Env} {s : State} {m : MethodId} {args : Array Value} {below : List Frame} {meth : Method} {c : Code} {H : Heap} {locs : List Loc} {cells slots : Nat} {Q : State → Prop} {ls : Array Slot}
variable {b L : Nat} {xs : Nat → Int32} {D : va_G} {cy : Nat → ClassId} {cl cd : ClassId} {xq ad am : Nat → Nat} {qo qd : Nat} {pm : Nat → Nat} {rj : Option Nat} {rc : Option RC} {σ μ : Nat → Nat → Int32} {f : Nat → Int64} {g : Nat → UInt64} {i B : Nat}
set_option maxHeartbeats 4000000 in
set_option maxRecDepth 100000 in
theorem lc_8 (E0 : LE p l s m c args b L xs D cy cl cd xq) (hi : 7 * i + 7 ≤ L) (hL : L ≤ 3584) (hcl : cells + 60 ≤ 606307) (hsl : slots + 240 ≤ 7176832) (hW : LW s.heap.size D cy ad am qo qd pm rj rc σ μ (eL cl f) (eD cd g) H) (hR : RR B σ pm rc μ) (hB : B ≤ 20 * i + 1) (hS : va_S (fun q => s.heap.size ≤ q) s.heap H locs) (hl : lv_has ls 9 [(0, .ref b), (1, .ref (ad 429)), (2, .ref (am 0)), (3, .ref qo), (4, .ref qd), (5, .int (nI (7 * i)))]) (ih : LIH p l e s m args below meth c D cy cl cd ad am qo qd b i B cells slots Q) : W p l e room_1 s m args below meth c H locs cells slots Q (F0 m 865 ls []) := by
  obtain ⟨hx, hb, hml, hown, hts, hX, hbl, hst, hK, hE0, hNC⟩ := E0
  have hbA : ¬ (fun q : Nat => s.heap.size ≤ q) b := Nat.not_le.mpr hbl
  obtain ⟨n, t, pi, ro, hbr⟩ := hR.1
  obtain ⟨⟨ch, hc8, hch, -⟩, hpm, -⟩ := hR.2.1
  have hRJ := hR.2.2.2.1
  have hB6 : B + 20 < 1000000 := by omega
  have hA := hW.1
  have hKg := hK.sub (tys' := tyG cy) [0, 1, 2, 3, 4, 5] rfl
  refine lv_aload_n hx hb dL_law_865 rfl (lv_at hl 1 rfl) ?_
  refine lv_aload_n hx hb dL_law_866 rfl (lv_at hl 0 rfl) ?_
  refine lv_iload hx hb dL_law_867 (lv_at hl 5 rfl) ?_
  refine lv_iconst (v := 1) hx hb dL_law_869 (by decide) ?_
  refine lv_iadd hx hb dL_law_870 ?_
  refine W.eq (g2 := F0 m 871 ls [.int (nI (7 * i + 1)), .ref b, .ref (ad 429)]) (congrArg (fun z9 => F0 m 871 ls [.int z9, .ref b, .ref (ad 429)]) (show nI (7 * i) + 1 = nI (7 * i + 1) from nI_addE rfl (by decide +kernel))) ?_
  refine va_sld hx hb hX hbl hbA hS (i := nI (7 * i + 1)) (vp_in_nI (by omega) (by omega)) dL_law_871 ?_
  refine lv_aload_n hx hb dL_law_872 rfl (lv_at hl 3 rfl) ?_
  refine LW.call hW (vx_runSW (As := [.ref (ad 429), .int (xs (nI (7 * i + 1)).toNatClampNeg), .ref qo]) (rest := []) ⟨hx, hb, hml, hown, hts⟩ (c_L_setTide l D ad cy pm rj σ xq hst _ hA.1 (xs (nI (7 * i + 1)).toNatClampNeg) hpm cl cd qo f g) (vx_cwSW 3 hts gL_law_L_setTide rfl rfl rfl (by decide +kernel) ⟨Nat.le_of_ble_eq_true rfl, Nat.le_of_ble_eq_true rfl⟩) (lwPre hW.2.1 hW.2.2.2.1 hK (lwEX hE0 hA hS) hNC (fun k hk => (hA.2.2.2.1 k hk).1) trivial) rfl rfl hl.1 rfl (lv_room (Nat.le_of_ble_eq_true rfl)) dL_law_873 ⟨by show cells + 3 ≤ 606307; omega, by show slots + 15 ≤ 7176832; omega⟩) hS (fun H2 locs2 pm2 rj2 rc2 σ2 e2 hW hO hS => ?_)
  refine lv_topi (fun k6 ek6 => ?_)
  refine lv_istore (lv' := [(6, .int k6), (0, .ref b), (1, .ref (ad 429)), (2, .ref (am 0)), (3, .ref qo), (4, .ref qd), (5, .int (nI (7 * i)))]) hx hb dL_law_876 hl (by decide) rfl (fun ls hl => ?_)
  refine lv_aload_n hx hb dL_law_878 rfl (lv_at hl 3 rfl) ?_
  refine lv_aload_n hx hb dL_law_879 rfl (lv_at hl 1 rfl) ?_
  refine lv_iload hx hb dL_law_880 (lv_at hl 6 rfl) ?_
  refine lv_iconst (v := 1) hx hb dL_law_882 (by decide) ?_
  refine lv_iadd hx hb dL_law_883 ?_
  refine W.eq (g2 := F0 m 884 ls [.int (nI (7 * i + 1)), .ref b, .ref (am 0)]) (congrArg (fun z9 => F0 m 884 ls [.int z9, .ref b, .ref (am 0)]) (show nI (7 * i) + 1 = nI (7 * i + 1) from nI_addE rfl (by decide +kernel))) ?_
  refine va_sld hx hb hX hbl hbA hS (i := nI (7 * i + 1)) (vp_in_nI (by omega) (by omega)) dL_law_884 ?_
  refine sp_callm (va_runV (As := [.int (xs (nI (7 * i + 1)).toNatClampNeg)]) (rest := []) ⟨hx, hb, hml, hown, hts⟩ (c_X10_setTide l D am cy μ _ hA.2.1 n t hbr.1 ch hch hc8 (xs (nI (7 * i + 1)).toNatClampNeg)) (cwV 1 hts gL_law_X10_setTide rfl rfl rfl (by decide +kernel) ⟨Nat.le_of_ble_eq_true rfl, Nat.le_of_ble_eq_true rfl⟩) (sp_preVm hKg hW.2.2.1 (κ := 0) (by decide) mE_0 rfl) rfl rfl hl.1 rfl (lv_room (Nat.le_of_ble_eq_true rfl)) dL_law_885 ⟨by show cells + 3 + 0 ≤ 606307; omega, by show slots + 15 + 0 ≤ 7176832; omega⟩) hS (fun q _ h => lwAm hA hS q h) (fun q h => lwAm hA hS q h) (fun H3 locs3 hPm hle hfr hS => ?_)
  have hW := hW.model hPm hfr
  refine lv_topi (fun b7 eb7 => ?_)
  refine lv_istore (lv' := [(7, .int b7), (6, .int k6), (0, .ref b), (1, .ref (ad 429)), (2, .ref (am 0)), (3, .ref qo), (4, .ref qd), (5, .int (nI (7 * i)))]) hx hb dL_law_888 hl (by decide) rfl (fun ls hl => ?_)
  refine lv_aload_n hx hb dL_law_890 rfl (lv_at hl 4 rfl) ?_
  refine sp_call (W.runV (As := []) (rest := []) ⟨hx, hb, hml, hown, hts⟩ (c_X10_thrown l D am cy _) (cwV 0 hts gL_law_X10_thrown rfl rfl rfl (by decide +kernel) ⟨Nat.le_of_ble_eq_true rfl, Nat.le_of_ble_eq_true rfl⟩) (sp_preV hKg hW.2.2.1 (κ := 0) (by decide) mE_0 rfl) rfl rfl hl.1 rfl (lv_room (Nat.le_of_ble_eq_true rfl)) dL_law_891 ⟨by show cells + 3 + 0 + 0 ≤ 606307; omega, by show slots + 15 + 0 + 0 ≤ 7176832; omega⟩) ?_
  refine lv_iload hx hb dL_law_894 (lv_at hl 1 rfl) ?_
  have hp2 := CHG.p2 (ch_tide hR hbr hch hc8 (by omega) (xs (nI (7 * i + 1)).toNatClampNeg)) hB6
  refine lv_icmp_eq (tgt := 901) hx hb dL_law_896 (by decide) (fun c_1 => ?_) (fun c_1 => absurd (hp2.1.trans ek6.symm) c_1)
  refine lv_iload hx hb dL_law_901 (lv_at hl 1 rfl) ?_
  obtain ⟨f2, rfl, hf2⟩ := outL hO
  have fin : W p l e room_1 s m args below meth c H3 locs3 (cells + 3 + 0) (slots + 15 + 0) Q (F0 m 918 ls []) := by
    refine lv_goto (tgt := 3617) hx hb dL_law_918 (by decide) ?_
    refine W.widen (k := cells + 60) (n := slots + 240) (by omega) (by omega) ?_
    exact ih _ _ _ _ _ _ _ _ _ _ hW (hp2.rr hO) hS (lv_sub hl [2, 3, 4, 5, 6, 7] rfl)
  refine lv_if_ne (tgt := 918) hx hb dL_law_903 (by decide) (fun c_2 => fin) (fun c_2 => ?_)
  have hn := kC_0 (by decide) (ek6.symm.trans c_2)
  have hok := (hp2.2.1 hn).1
  have hv := hf2 hn
  have hPq : va_P D vwCl [(qo, eL cl f2)] H3 := wCons hW.2.2.2.1 (fun k x hx9 => by (cases hx9))
  refine lv_aload_n hx hb dL_law_906 rfl (lv_at hl 5 rfl) ?_
  refine lv_iconst (v := 0) hx hb dL_law_907 (by decide) ?_
  refine va_lald hx hb hK hPq 0 6 rfl rfl (i := 0) vp01 dL_law_908 ?_
  refine lv_iload hx hb dL_law_909 (lv_at hl 0 rfl) ?_
  refine lv_i2l (v := Int32.toInt64 b7) hx hb dL_law_911 rfl ?_
  refine W.lcmp hx hb dL_law_912 ?_
  refine lv_if_eq (tgt := 918) hx hb dL_law_913 (by decide) (fun _ => fin) (fun c_4 => absurd (lg_same (hv.trans (congrArg Int32.toInt64 (hok.trans eb7.symm)))) c_4)
set_option maxHeartbeats 4000000 in
set_option maxRecDepth 100000 in
theorem lc_9 (E0 : LE p l s m c args b L xs D cy cl cd xq) (hi : 7 * i + 7 ≤ L) (hL : L ≤ 3584) (hcl : cells + 60 ≤ 606307) (hsl : slots + 240 ≤ 7176832) (hW : LW s.heap.size D cy ad am qo qd pm rj rc σ μ (eL cl f) (eD cd g) H) (hR : RR B σ pm rc μ) (hB : B ≤ 20 * i + 1) (hS : va_S (fun q => s.heap.size ≤ q) s.heap H locs) (hl : lv_has ls 9 [(0, .ref b), (1, .ref (ad 429)), (2, .ref (am 0)), (3, .ref qo), (4, .ref qd), (5, .int (nI (7 * i)))]) (ih : LIH p l e s m args below meth c D cy cl cd ad am qo qd b i B cells slots Q) : W p l e room_1 s m args below meth c H locs cells slots Q (F0 m 921 ls []) := by
  obtain ⟨hx, hb, hml, hown, hts, hX, hbl, hst, hK, hE0, hNC⟩ := E0
  have hbA : ¬ (fun q : Nat => s.heap.size ≤ q) b := Nat.not_le.mpr hbl
  obtain ⟨n, t, pi, ro, hbr⟩ := hR.1
  obtain ⟨⟨ch, hc8, hch, -⟩, hpm, -⟩ := hR.2.1
  have hRJ := hR.2.2.2.1
  have hB6 : B + 20 < 1000000 := by omega
  have hA := hW.1
  have hKg := hK.sub (tys' := tyG cy) [0, 1, 2, 3, 4, 5] rfl
  refine lv_aload_n hx hb dL_law_921 rfl (lv_at hl 1 rfl) ?_
  refine lv_aload_n hx hb dL_law_922 rfl (lv_at hl 0 rfl) ?_
  refine lv_iload hx hb dL_law_923 (lv_at hl 5 rfl) ?_
  refine lv_iconst (v := 1) hx hb dL_law_925 (by decide) ?_
  refine lv_iadd hx hb dL_law_926 ?_
  refine W.eq (g2 := F0 m 927 ls [.int (nI (7 * i + 1)), .ref b, .ref (ad 429)]) (congrArg (fun z9 => F0 m 927 ls [.int z9, .ref b, .ref (ad 429)]) (show nI (7 * i) + 1 = nI (7 * i + 1) from nI_addE rfl (by decide +kernel))) ?_
  refine va_sld hx hb hX hbl hbA hS (i := nI (7 * i + 1)) (vp_in_nI (by omega) (by omega)) dL_law_927 ?_
  refine lv_aload_n hx hb dL_law_928 rfl (lv_at hl 3 rfl) ?_
  refine LW.call hW (vx_runSW (As := [.ref (ad 429), .int (xs (nI (7 * i + 1)).toNatClampNeg), .ref qo]) (rest := []) ⟨hx, hb, hml, hown, hts⟩ (c_L_trackOf l D ad cy pm rj σ xq hst _ hA.1 (xs (nI (7 * i + 1)).toNatClampNeg) cl cd qo f g) (vx_cwSW 3 hts gL_law_L_trackOf rfl rfl rfl (by decide +kernel) ⟨Nat.le_of_ble_eq_true rfl, Nat.le_of_ble_eq_true rfl⟩) (lwPre hW.2.1 hW.2.2.2.1 hK (lwEX hE0 hA hS) hNC (fun k hk => (hA.2.2.2.1 k hk).1) trivial) rfl rfl hl.1 rfl (lv_room (Nat.le_of_ble_eq_true rfl)) dL_law_929 ⟨by show cells + 1 ≤ 606307; omega, by show slots + 6 ≤ 7176832; omega⟩) hS (fun H2 locs2 pm2 rj2 rc2 σ2 e2 hW hO hS => ?_)
  refine lv_topi (fun k6 ek6 => ?_)
  refine lv_istore (lv' := [(6, .int k6), (0, .ref b), (1, .ref (ad 429)), (2, .ref (am 0)), (3, .ref qo), (4, .ref qd), (5, .int (nI (7 * i)))]) hx hb dL_law_932 hl (by decide) rfl (fun ls hl => ?_)
  refine lv_aload_n hx hb dL_law_934 rfl (lv_at hl 3 rfl) ?_
  refine lv_aload_n hx hb dL_law_935 rfl (lv_at hl 1 rfl) ?_
  refine lv_iload hx hb dL_law_936 (lv_at hl 6 rfl) ?_
  refine lv_iconst (v := 1) hx hb dL_law_938 (by decide) ?_
  refine lv_iadd hx hb dL_law_939 ?_
  refine W.eq (g2 := F0 m 940 ls [.int (nI (7 * i + 1)), .ref b, .ref (am 0)]) (congrArg (fun z9 => F0 m 940 ls [.int z9, .ref b, .ref (am 0)]) (show nI (7 * i) + 1 = nI (7 * i + 1) from nI_addE rfl (by decide +kernel))) ?_
  refine va_sld hx hb hX hbl hbA hS (i := nI (7 * i + 1)) (vp_in_nI (by omega) (by omega)) dL_law_940 ?_
  refine sp_callm (va_runV (As := [.int (xs (nI (7 * i + 1)).toNatClampNeg)]) (rest := []) ⟨hx, hb, hml, hown, hts⟩ (c_X10_trackOf l D am cy μ _ hA.2.1 n t hbr.1 (xs (nI (7 * i + 1)).toNatClampNeg)) (cwV 1 hts gL_law_X10_trackOf rfl rfl rfl (by decide +kernel) ⟨Nat.le_of_ble_eq_true rfl, Nat.le_of_ble_eq_true rfl⟩) (sp_preVm hKg hW.2.2.1 (κ := 0) (by decide) mE_0 rfl) rfl rfl hl.1 rfl (lv_room (Nat.le_of_ble_eq_true rfl)) dL_law_941 ⟨by show cells + 1 + 0 ≤ 606307; omega, by show slots + 6 + 0 ≤ 7176832; omega⟩) hS (fun q _ h => lwAm hA hS q h) (fun q h => lwAm hA hS q h) (fun H3 locs3 hPm hle hfr hS => ?_)
  have hW := hW.model hPm hfr
  refine lv_topi (fun b7 eb7 => ?_)
  refine lv_istore (lv' := [(7, .int b7), (6, .int k6), (0, .ref b), (1, .ref (ad 429)), (2, .ref (am 0)), (3, .ref qo), (4, .ref qd), (5, .int (nI (7 * i)))]) hx hb dL_law_944 hl (by decide) rfl (fun ls hl => ?_)
  refine lv_aload_n hx hb dL_law_946 rfl (lv_at hl 4 rfl) ?_
  refine sp_call (W.runV (As := []) (rest := []) ⟨hx, hb, hml, hown, hts⟩ (c_X10_thrown l D am cy _) (cwV 0 hts gL_law_X10_thrown rfl rfl rfl (by decide +kernel) ⟨Nat.le_of_ble_eq_true rfl, Nat.le_of_ble_eq_true rfl⟩) (sp_preV hKg hW.2.2.1 (κ := 0) (by decide) mE_0 rfl) rfl rfl hl.1 rfl (lv_room (Nat.le_of_ble_eq_true rfl)) dL_law_947 ⟨by show cells + 1 + 0 + 0 ≤ 606307; omega, by show slots + 6 + 0 + 0 ≤ 7176832; omega⟩) ?_
  refine lv_iload hx hb dL_law_950 (lv_at hl 1 rfl) ?_
  have hp2 := AG.p2 (ag_get hbr (xs (nI (7 * i + 1)).toNatClampNeg) (w := 1) (j := 2) (fun k hk => (hbr.pe hk).2.1.symm)) hR hB6
  refine lv_icmp_eq (tgt := 957) hx hb dL_law_952 (by decide) (fun c_1 => ?_) (fun c_1 => absurd (hp2.1.trans ek6.symm) c_1)
  refine lv_iload hx hb dL_law_957 (lv_at hl 1 rfl) ?_
  obtain ⟨f2, rfl, hf2⟩ := outL hO
  have fin : W p l e room_1 s m args below meth c H3 locs3 (cells + 1 + 0) (slots + 6 + 0) Q (F0 m 974 ls []) := by
    refine lv_goto (tgt := 3617) hx hb dL_law_974 (by decide) ?_
    refine W.widen (k := cells + 60) (n := slots + 240) (by omega) (by omega) ?_
    exact ih _ _ _ _ _ _ _ _ _ _ hW (hp2.rr hO) hS (lv_sub hl [2, 3, 4, 5, 6, 7] rfl)
  refine lv_if_ne (tgt := 974) hx hb dL_law_959 (by decide) (fun c_2 => fin) (fun c_2 => ?_)
  have hn := kC_0 (by decide) (ek6.symm.trans c_2)
  have hok := (hp2.2.1 hn).1
  have hv := hf2 hn
  have hPq : va_P D vwCl [(qo, eL cl f2)] H3 := wCons hW.2.2.2.1 (fun k x hx9 => by (cases hx9))
  refine lv_aload_n hx hb dL_law_962 rfl (lv_at hl 5 rfl) ?_
  refine lv_iconst (v := 0) hx hb dL_law_963 (by decide) ?_
  refine va_lald hx hb hK hPq 0 6 rfl rfl (i := 0) vp01 dL_law_964 ?_
  refine lv_iload hx hb dL_law_965 (lv_at hl 0 rfl) ?_
  refine lv_i2l (v := Int32.toInt64 b7) hx hb dL_law_967 rfl ?_
  refine W.lcmp hx hb dL_law_968 ?_
  refine lv_if_eq (tgt := 974) hx hb dL_law_969 (by decide) (fun _ => fin) (fun c_4 => absurd (lg_same (hv.trans (congrArg Int32.toInt64 (hok.trans eb7.symm)))) c_4)
set_option maxHeartbeats 4000000 in
set_option maxRecDepth 100000 in
theorem lc_10 (E0 : LE p l s m c args b L xs D cy cl cd xq) (hi : 7 * i + 7 ≤ L) (hL : L ≤ 3584) (hcl : cells + 60 ≤ 606307) (hsl : slots + 240 ≤ 7176832) (hW : LW s.heap.size D cy ad am qo qd pm rj rc σ μ (eL cl f) (eD cd g) H) (hR : RR B σ pm rc μ) (hB : B ≤ 20 * i + 1) (hS : va_S (fun q => s.heap.size ≤ q) s.heap H locs) (hl : lv_has ls 9 [(0, .ref b), (1, .ref (ad 429)), (2, .ref (am 0)), (3, .ref qo), (4, .ref qd), (5, .int (nI (7 * i)))]) (ih : LIH p l e s m args below meth c D cy cl cd ad am qo qd b i B cells slots Q) : W p l e room_1 s m args below meth c H locs cells slots Q (F0 m 977 ls []) := by
  obtain ⟨hx, hb, hml, hown, hts, hX, hbl, hst, hK, hE0, hNC⟩ := E0
  have hbA : ¬ (fun q : Nat => s.heap.size ≤ q) b := Nat.not_le.mpr hbl
  obtain ⟨n, t, pi, ro, hbr⟩ := hR.1
  obtain ⟨⟨ch, hc8, hch, -⟩, hpm, -⟩ := hR.2.1
  have hRJ := hR.2.2.2.1
  have hB6 : B + 20 < 1000000 := by omega
  have hA := hW.1
  have hKg := hK.sub (tys' := tyG cy) [0, 1, 2, 3, 4, 5] rfl
  refine lv_aload_n hx hb dL_law_977 rfl (lv_at hl 1 rfl) ?_
  refine lv_aload_n hx hb dL_law_978 rfl (lv_at hl 0 rfl) ?_
  refine lv_iload hx hb dL_law_979 (lv_at hl 5 rfl) ?_
  refine lv_iconst (v := 1) hx hb dL_law_981 (by decide) ?_
  refine lv_iadd hx hb dL_law_982 ?_
  refine W.eq (g2 := F0 m 983 ls [.int (nI (7 * i + 1)), .ref b, .ref (ad 429)]) (congrArg (fun z9 => F0 m 983 ls [.int z9, .ref b, .ref (ad 429)]) (show nI (7 * i) + 1 = nI (7 * i + 1) from nI_addE rfl (by decide +kernel))) ?_
  refine va_sld hx hb hX hbl hbA hS (i := nI (7 * i + 1)) (vp_in_nI (by omega) (by omega)) dL_law_983 ?_
  refine lv_aload_n hx hb dL_law_984 rfl (lv_at hl 3 rfl) ?_
  refine LW.call hW (vx_runSW (As := [.ref (ad 429), .int (xs (nI (7 * i + 1)).toNatClampNeg), .ref qo]) (rest := []) ⟨hx, hb, hml, hown, hts⟩ (c_L_timeOf l D ad cy pm rj σ xq hst _ hA.1 (xs (nI (7 * i + 1)).toNatClampNeg) cl cd qo f g) (vx_cwSW 3 hts gL_law_L_timeOf rfl rfl rfl (by decide +kernel) ⟨Nat.le_of_ble_eq_true rfl, Nat.le_of_ble_eq_true rfl⟩) (lwPre hW.2.1 hW.2.2.2.1 hK (lwEX hE0 hA hS) hNC (fun k hk => (hA.2.2.2.1 k hk).1) trivial) rfl rfl hl.1 rfl (lv_room (Nat.le_of_ble_eq_true rfl)) dL_law_985 ⟨by show cells + 1 ≤ 606307; omega, by show slots + 6 ≤ 7176832; omega⟩) hS (fun H2 locs2 pm2 rj2 rc2 σ2 e2 hW hO hS => ?_)
  refine lv_topi (fun k6 ek6 => ?_)
  refine lv_istore (lv' := [(6, .int k6), (0, .ref b), (1, .ref (ad 429)), (2, .ref (am 0)), (3, .ref qo), (4, .ref qd), (5, .int (nI (7 * i)))]) hx hb dL_law_988 hl (by decide) rfl (fun ls hl => ?_)
  refine lv_aload_n hx hb dL_law_990 rfl (lv_at hl 3 rfl) ?_
  refine lv_aload_n hx hb dL_law_991 rfl (lv_at hl 1 rfl) ?_
  refine lv_iload hx hb dL_law_992 (lv_at hl 6 rfl) ?_
  refine lv_iconst (v := 1) hx hb dL_law_994 (by decide) ?_
  refine lv_iadd hx hb dL_law_995 ?_
  refine W.eq (g2 := F0 m 996 ls [.int (nI (7 * i + 1)), .ref b, .ref (am 0)]) (congrArg (fun z9 => F0 m 996 ls [.int z9, .ref b, .ref (am 0)]) (show nI (7 * i) + 1 = nI (7 * i + 1) from nI_addE rfl (by decide +kernel))) ?_
  refine va_sld hx hb hX hbl hbA hS (i := nI (7 * i + 1)) (vp_in_nI (by omega) (by omega)) dL_law_996 ?_
  refine sp_callm (va_runV (As := [.int (xs (nI (7 * i + 1)).toNatClampNeg)]) (rest := []) ⟨hx, hb, hml, hown, hts⟩ (c_X10_timeOf l D am cy μ _ hA.2.1 n t hbr.1 (xs (nI (7 * i + 1)).toNatClampNeg)) (cwV 1 hts gL_law_X10_timeOf rfl rfl rfl (by decide +kernel) ⟨Nat.le_of_ble_eq_true rfl, Nat.le_of_ble_eq_true rfl⟩) (sp_preVm hKg hW.2.2.1 (κ := 0) (by decide) mE_0 rfl) rfl rfl hl.1 rfl (lv_room (Nat.le_of_ble_eq_true rfl)) dL_law_997 ⟨by show cells + 1 + 0 ≤ 606307; omega, by show slots + 6 + 0 ≤ 7176832; omega⟩) hS (fun q _ h => lwAm hA hS q h) (fun q h => lwAm hA hS q h) (fun H3 locs3 hPm hle hfr hS => ?_)
  have hW := hW.model hPm hfr
  refine lv_topi (fun b7 eb7 => ?_)
  refine lv_istore (lv' := [(7, .int b7), (6, .int k6), (0, .ref b), (1, .ref (ad 429)), (2, .ref (am 0)), (3, .ref qo), (4, .ref qd), (5, .int (nI (7 * i)))]) hx hb dL_law_1000 hl (by decide) rfl (fun ls hl => ?_)
  refine lv_aload_n hx hb dL_law_1002 rfl (lv_at hl 4 rfl) ?_
  refine sp_call (W.runV (As := []) (rest := []) ⟨hx, hb, hml, hown, hts⟩ (c_X10_thrown l D am cy _) (cwV 0 hts gL_law_X10_thrown rfl rfl rfl (by decide +kernel) ⟨Nat.le_of_ble_eq_true rfl, Nat.le_of_ble_eq_true rfl⟩) (sp_preV hKg hW.2.2.1 (κ := 0) (by decide) mE_0 rfl) rfl rfl hl.1 rfl (lv_room (Nat.le_of_ble_eq_true rfl)) dL_law_1003 ⟨by show cells + 1 + 0 + 0 ≤ 606307; omega, by show slots + 6 + 0 + 0 ≤ 7176832; omega⟩) ?_
  refine lv_iload hx hb dL_law_1006 (lv_at hl 1 rfl) ?_
  have hp2 := AG.p2 (ag_get hbr (xs (nI (7 * i + 1)).toNatClampNeg) (w := 2) (j := 3) (fun k hk => (hbr.pe hk).2.2.1.symm)) hR hB6
  refine lv_icmp_eq (tgt := 1013) hx hb dL_law_1008 (by decide) (fun c_1 => ?_) (fun c_1 => absurd (hp2.1.trans ek6.symm) c_1)
  refine lv_iload hx hb dL_law_1013 (lv_at hl 1 rfl) ?_
  obtain ⟨f2, rfl, hf2⟩ := outL hO
  have fin : W p l e room_1 s m args below meth c H3 locs3 (cells + 1 + 0) (slots + 6 + 0) Q (F0 m 1030 ls []) := by
    refine lv_goto (tgt := 3617) hx hb dL_law_1030 (by decide) ?_
    refine W.widen (k := cells + 60) (n := slots + 240) (by omega) (by omega) ?_
    exact ih _ _ _ _ _ _ _ _ _ _ hW (hp2.rr hO) hS (lv_sub hl [2, 3, 4, 5, 6, 7] rfl)
  refine lv_if_ne (tgt := 1030) hx hb dL_law_1015 (by decide) (fun c_2 => fin) (fun c_2 => ?_)
  have hn := kC_0 (by decide) (ek6.symm.trans c_2)
  have hok := (hp2.2.1 hn).1
  have hv := hf2 hn
  have hPq : va_P D vwCl [(qo, eL cl f2)] H3 := wCons hW.2.2.2.1 (fun k x hx9 => by (cases hx9))
  refine lv_aload_n hx hb dL_law_1018 rfl (lv_at hl 5 rfl) ?_
  refine lv_iconst (v := 0) hx hb dL_law_1019 (by decide) ?_
  refine va_lald hx hb hK hPq 0 6 rfl rfl (i := 0) vp01 dL_law_1020 ?_
  refine lv_iload hx hb dL_law_1021 (lv_at hl 0 rfl) ?_
  refine lv_i2l (v := Int32.toInt64 b7) hx hb dL_law_1023 rfl ?_
  refine W.lcmp hx hb dL_law_1024 ?_
  refine lv_if_eq (tgt := 1030) hx hb dL_law_1025 (by decide) (fun _ => fin) (fun c_4 => absurd (lg_same (hv.trans (congrArg Int32.toInt64 (hok.trans eb7.symm)))) c_4)
set_option maxHeartbeats 4000000 in
set_option maxRecDepth 100000 in
theorem lc_11 (E0 : LE p l s m c args b L xs D cy cl cd xq) (hi : 7 * i + 7 ≤ L) (hL : L ≤ 3584) (hcl : cells + 60 ≤ 606307) (hsl : slots + 240 ≤ 7176832) (hW : LW s.heap.size D cy ad am qo qd pm rj rc σ μ (eL cl f) (eD cd g) H) (hR : RR B σ pm rc μ) (hB : B ≤ 20 * i + 1) (hS : va_S (fun q => s.heap.size ≤ q) s.heap H locs) (hl : lv_has ls 9 [(0, .ref b), (1, .ref (ad 429)), (2, .ref (am 0)), (3, .ref qo), (4, .ref qd), (5, .int (nI (7 * i)))]) (ih : LIH p l e s m args below meth c D cy cl cd ad am qo qd b i B cells slots Q) : W p l e room_1 s m args below meth c H locs cells slots Q (F0 m 1033 ls []) := by
  obtain ⟨hx, hb, hml, hown, hts, hX, hbl, hst, hK, hE0, hNC⟩ := E0
  have hbA : ¬ (fun q : Nat => s.heap.size ≤ q) b := Nat.not_le.mpr hbl
  obtain ⟨n, t, pi, ro, hbr⟩ := hR.1
  obtain ⟨⟨ch, hc8, hch, -⟩, hpm, -⟩ := hR.2.1
  have hRJ := hR.2.2.2.1
  have hB6 : B + 20 < 1000000 := by omega
  have hA := hW.1
  have hKg := hK.sub (tys' := tyG cy) [0, 1, 2, 3, 4, 5] rfl
  refine lv_aload_n hx hb dL_law_1033 rfl (lv_at hl 1 rfl) ?_
  refine lv_aload_n hx hb dL_law_1034 rfl (lv_at hl 0 rfl) ?_
  refine lv_iload hx hb dL_law_1035 (lv_at hl 5 rfl) ?_
  refine lv_iconst (v := 1) hx hb dL_law_1037 (by decide) ?_
  refine lv_iadd hx hb dL_law_1038 ?_
  refine W.eq (g2 := F0 m 1039 ls [.int (nI (7 * i + 1)), .ref b, .ref (ad 429)]) (congrArg (fun z9 => F0 m 1039 ls [.int z9, .ref b, .ref (ad 429)]) (show nI (7 * i) + 1 = nI (7 * i + 1) from nI_addE rfl (by decide +kernel))) ?_
  refine va_sld hx hb hX hbl hbA hS (i := nI (7 * i + 1)) (vp_in_nI (by omega) (by omega)) dL_law_1039 ?_
  refine lv_aload_n hx hb dL_law_1040 rfl (lv_at hl 3 rfl) ?_
  refine LW.call hW (vx_runSW (As := [.ref (ad 429), .int (xs (nI (7 * i + 1)).toNatClampNeg), .ref qo]) (rest := []) ⟨hx, hb, hml, hown, hts⟩ (c_L_rowOf l D ad cy pm rj σ xq hst _ hA.1 (xs (nI (7 * i + 1)).toNatClampNeg) cl cd qo f g) (vx_cwSW 3 hts gL_law_L_rowOf rfl rfl rfl (by decide +kernel) ⟨Nat.le_of_ble_eq_true rfl, Nat.le_of_ble_eq_true rfl⟩) (lwPre hW.2.1 hW.2.2.2.1 hK (lwEX hE0 hA hS) hNC (fun k hk => (hA.2.2.2.1 k hk).1) trivial) rfl rfl hl.1 rfl (lv_room (Nat.le_of_ble_eq_true rfl)) dL_law_1041 ⟨by show cells + 1 ≤ 606307; omega, by show slots + 6 ≤ 7176832; omega⟩) hS (fun H2 locs2 pm2 rj2 rc2 σ2 e2 hW hO hS => ?_)
  refine lv_topi (fun k6 ek6 => ?_)
  refine lv_istore (lv' := [(6, .int k6), (0, .ref b), (1, .ref (ad 429)), (2, .ref (am 0)), (3, .ref qo), (4, .ref qd), (5, .int (nI (7 * i)))]) hx hb dL_law_1044 hl (by decide) rfl (fun ls hl => ?_)
  refine lv_aload_n hx hb dL_law_1046 rfl (lv_at hl 3 rfl) ?_
  refine lv_aload_n hx hb dL_law_1047 rfl (lv_at hl 1 rfl) ?_
  refine lv_iload hx hb dL_law_1048 (lv_at hl 6 rfl) ?_
  refine lv_iconst (v := 1) hx hb dL_law_1050 (by decide) ?_
  refine lv_iadd hx hb dL_law_1051 ?_
  refine W.eq (g2 := F0 m 1052 ls [.int (nI (7 * i + 1)), .ref b, .ref (am 0)]) (congrArg (fun z9 => F0 m 1052 ls [.int z9, .ref b, .ref (am 0)]) (show nI (7 * i) + 1 = nI (7 * i + 1) from nI_addE rfl (by decide +kernel))) ?_
  refine va_sld hx hb hX hbl hbA hS (i := nI (7 * i + 1)) (vp_in_nI (by omega) (by omega)) dL_law_1052 ?_
  refine sp_callm (va_runV (As := [.int (xs (nI (7 * i + 1)).toNatClampNeg)]) (rest := []) ⟨hx, hb, hml, hown, hts⟩ (c_X10_rowOf l D am cy μ _ hA.2.1 n t hbr.1 (xs (nI (7 * i + 1)).toNatClampNeg)) (cwV 1 hts gL_law_X10_rowOf rfl rfl rfl (by decide +kernel) ⟨Nat.le_of_ble_eq_true rfl, Nat.le_of_ble_eq_true rfl⟩) (sp_preVm hKg hW.2.2.1 (κ := 0) (by decide) mE_0 rfl) rfl rfl hl.1 rfl (lv_room (Nat.le_of_ble_eq_true rfl)) dL_law_1053 ⟨by show cells + 1 + 0 ≤ 606307; omega, by show slots + 6 + 0 ≤ 7176832; omega⟩) hS (fun q _ h => lwAm hA hS q h) (fun q h => lwAm hA hS q h) (fun H3 locs3 hPm hle hfr hS => ?_)
  have hW := hW.model hPm hfr
  refine lv_topi (fun b7 eb7 => ?_)
  refine lv_istore (lv' := [(7, .int b7), (6, .int k6), (0, .ref b), (1, .ref (ad 429)), (2, .ref (am 0)), (3, .ref qo), (4, .ref qd), (5, .int (nI (7 * i)))]) hx hb dL_law_1056 hl (by decide) rfl (fun ls hl => ?_)
  refine lv_aload_n hx hb dL_law_1058 rfl (lv_at hl 4 rfl) ?_
  refine sp_call (W.runV (As := []) (rest := []) ⟨hx, hb, hml, hown, hts⟩ (c_X10_thrown l D am cy _) (cwV 0 hts gL_law_X10_thrown rfl rfl rfl (by decide +kernel) ⟨Nat.le_of_ble_eq_true rfl, Nat.le_of_ble_eq_true rfl⟩) (sp_preV hKg hW.2.2.1 (κ := 0) (by decide) mE_0 rfl) rfl rfl hl.1 rfl (lv_room (Nat.le_of_ble_eq_true rfl)) dL_law_1059 ⟨by show cells + 1 + 0 + 0 ≤ 606307; omega, by show slots + 6 + 0 + 0 ≤ 7176832; omega⟩) ?_
  refine lv_iload hx hb dL_law_1062 (lv_at hl 1 rfl) ?_
  have hp2 := AG.p2 (ag_get hbr (xs (nI (7 * i + 1)).toNatClampNeg) (w := 3) (j := 4) (fun k hk => (hbr.pe hk).2.2.2.1.symm)) hR hB6
  refine lv_icmp_eq (tgt := 1069) hx hb dL_law_1064 (by decide) (fun c_1 => ?_) (fun c_1 => absurd (hp2.1.trans ek6.symm) c_1)
  refine lv_iload hx hb dL_law_1069 (lv_at hl 1 rfl) ?_
  obtain ⟨f2, rfl, hf2⟩ := outL hO
  have fin : W p l e room_1 s m args below meth c H3 locs3 (cells + 1 + 0) (slots + 6 + 0) Q (F0 m 1086 ls []) := by
    refine lv_goto (tgt := 3617) hx hb dL_law_1086 (by decide) ?_
    refine W.widen (k := cells + 60) (n := slots + 240) (by omega) (by omega) ?_
    exact ih _ _ _ _ _ _ _ _ _ _ hW (hp2.rr hO) hS (lv_sub hl [2, 3, 4, 5, 6, 7] rfl)
  refine lv_if_ne (tgt := 1086) hx hb dL_law_1071 (by decide) (fun c_2 => fin) (fun c_2 => ?_)
  have hn := kC_0 (by decide) (ek6.symm.trans c_2)
  have hok := (hp2.2.1 hn).1
  have hv := hf2 hn
  have hPq : va_P D vwCl [(qo, eL cl f2)] H3 := wCons hW.2.2.2.1 (fun k x hx9 => by (cases hx9))
  refine lv_aload_n hx hb dL_law_1074 rfl (lv_at hl 5 rfl) ?_
  refine lv_iconst (v := 0) hx hb dL_law_1075 (by decide) ?_
  refine va_lald hx hb hK hPq 0 6 rfl rfl (i := 0) vp01 dL_law_1076 ?_
  refine lv_iload hx hb dL_law_1077 (lv_at hl 0 rfl) ?_
  refine lv_i2l (v := Int32.toInt64 b7) hx hb dL_law_1079 rfl ?_
  refine W.lcmp hx hb dL_law_1080 ?_
  refine lv_if_eq (tgt := 1086) hx hb dL_law_1081 (by decide) (fun _ => fin) (fun c_4 => absurd (lg_same (hv.trans (congrArg Int32.toInt64 (hok.trans eb7.symm)))) c_4)
set_option maxHeartbeats 4000000 in
set_option maxRecDepth 100000 in
theorem lc_12 (E0 : LE p l s m c args b L xs D cy cl cd xq) (hi : 7 * i + 7 ≤ L) (hL : L ≤ 3584) (hcl : cells + 60 ≤ 606307) (hsl : slots + 240 ≤ 7176832) (hW : LW s.heap.size D cy ad am qo qd pm rj rc σ μ (eL cl f) (eD cd g) H) (hR : RR B σ pm rc μ) (hB : B ≤ 20 * i + 1) (hS : va_S (fun q => s.heap.size ≤ q) s.heap H locs) (hl : lv_has ls 9 [(0, .ref b), (1, .ref (ad 429)), (2, .ref (am 0)), (3, .ref qo), (4, .ref qd), (5, .int (nI (7 * i)))]) (ih : LIH p l e s m args below meth c D cy cl cd ad am qo qd b i B cells slots Q) : W p l e room_1 s m args below meth c H locs cells slots Q (F0 m 1089 ls []) := by
  obtain ⟨hx, hb, hml, hown, hts, hX, hbl, hst, hK, hE0, hNC⟩ := E0
  have hbA : ¬ (fun q : Nat => s.heap.size ≤ q) b := Nat.not_le.mpr hbl
  obtain ⟨n, t, pi, ro, hbr⟩ := hR.1
  obtain ⟨⟨ch, hc8, hch, -⟩, hpm, -⟩ := hR.2.1
  have hRJ := hR.2.2.2.1
  have hB6 : B + 20 < 1000000 := by omega
  have hA := hW.1
  have hKg := hK.sub (tys' := tyG cy) [0, 1, 2, 3, 4, 5] rfl
  refine lv_aload_n hx hb dL_law_1089 rfl (lv_at hl 1 rfl) ?_
  refine lv_aload_n hx hb dL_law_1090 rfl (lv_at hl 0 rfl) ?_
  refine lv_iload hx hb dL_law_1091 (lv_at hl 5 rfl) ?_
  refine lv_iconst (v := 1) hx hb dL_law_1093 (by decide) ?_
  refine lv_iadd hx hb dL_law_1094 ?_
  refine W.eq (g2 := F0 m 1095 ls [.int (nI (7 * i + 1)), .ref b, .ref (ad 429)]) (congrArg (fun z9 => F0 m 1095 ls [.int z9, .ref b, .ref (ad 429)]) (show nI (7 * i) + 1 = nI (7 * i + 1) from nI_addE rfl (by decide +kernel))) ?_
  refine va_sld hx hb hX hbl hbA hS (i := nI (7 * i + 1)) (vp_in_nI (by omega) (by omega)) dL_law_1095 ?_
  refine lv_aload_n hx hb dL_law_1096 rfl (lv_at hl 3 rfl) ?_
  refine LW.call hW (vx_runSW (As := [.ref (ad 429), .int (xs (nI (7 * i + 1)).toNatClampNeg), .ref qo]) (rest := []) ⟨hx, hb, hml, hown, hts⟩ (c_L_columnOf l D ad cy pm rj σ xq hst _ hA.1 (xs (nI (7 * i + 1)).toNatClampNeg) cl cd qo f g) (vx_cwSW 3 hts gL_law_L_columnOf rfl rfl rfl (by decide +kernel) ⟨Nat.le_of_ble_eq_true rfl, Nat.le_of_ble_eq_true rfl⟩) (lwPre hW.2.1 hW.2.2.2.1 hK (lwEX hE0 hA hS) hNC (fun k hk => (hA.2.2.2.1 k hk).1) trivial) rfl rfl hl.1 rfl (lv_room (Nat.le_of_ble_eq_true rfl)) dL_law_1097 ⟨by show cells + 1 ≤ 606307; omega, by show slots + 6 ≤ 7176832; omega⟩) hS (fun H2 locs2 pm2 rj2 rc2 σ2 e2 hW hO hS => ?_)
  refine lv_topi (fun k6 ek6 => ?_)
  refine lv_istore (lv' := [(6, .int k6), (0, .ref b), (1, .ref (ad 429)), (2, .ref (am 0)), (3, .ref qo), (4, .ref qd), (5, .int (nI (7 * i)))]) hx hb dL_law_1100 hl (by decide) rfl (fun ls hl => ?_)
  refine lv_aload_n hx hb dL_law_1102 rfl (lv_at hl 3 rfl) ?_
  refine lv_aload_n hx hb dL_law_1103 rfl (lv_at hl 1 rfl) ?_
  refine lv_iload hx hb dL_law_1104 (lv_at hl 6 rfl) ?_
  refine lv_iconst (v := 1) hx hb dL_law_1106 (by decide) ?_
  refine lv_iadd hx hb dL_law_1107 ?_
  refine W.eq (g2 := F0 m 1108 ls [.int (nI (7 * i + 1)), .ref b, .ref (am 0)]) (congrArg (fun z9 => F0 m 1108 ls [.int z9, .ref b, .ref (am 0)]) (show nI (7 * i) + 1 = nI (7 * i + 1) from nI_addE rfl (by decide +kernel))) ?_
  refine va_sld hx hb hX hbl hbA hS (i := nI (7 * i + 1)) (vp_in_nI (by omega) (by omega)) dL_law_1108 ?_
  refine sp_callm (va_runV (As := [.int (xs (nI (7 * i + 1)).toNatClampNeg)]) (rest := []) ⟨hx, hb, hml, hown, hts⟩ (c_X10_columnOf l D am cy μ _ hA.2.1 n t hbr.1 (xs (nI (7 * i + 1)).toNatClampNeg)) (cwV 1 hts gL_law_X10_columnOf rfl rfl rfl (by decide +kernel) ⟨Nat.le_of_ble_eq_true rfl, Nat.le_of_ble_eq_true rfl⟩) (sp_preVm hKg hW.2.2.1 (κ := 0) (by decide) mE_0 rfl) rfl rfl hl.1 rfl (lv_room (Nat.le_of_ble_eq_true rfl)) dL_law_1109 ⟨by show cells + 1 + 0 ≤ 606307; omega, by show slots + 6 + 0 ≤ 7176832; omega⟩) hS (fun q _ h => lwAm hA hS q h) (fun q h => lwAm hA hS q h) (fun H3 locs3 hPm hle hfr hS => ?_)
  have hW := hW.model hPm hfr
  refine lv_topi (fun b7 eb7 => ?_)
  refine lv_istore (lv' := [(7, .int b7), (6, .int k6), (0, .ref b), (1, .ref (ad 429)), (2, .ref (am 0)), (3, .ref qo), (4, .ref qd), (5, .int (nI (7 * i)))]) hx hb dL_law_1112 hl (by decide) rfl (fun ls hl => ?_)
  refine lv_aload_n hx hb dL_law_1114 rfl (lv_at hl 4 rfl) ?_
  refine sp_call (W.runV (As := []) (rest := []) ⟨hx, hb, hml, hown, hts⟩ (c_X10_thrown l D am cy _) (cwV 0 hts gL_law_X10_thrown rfl rfl rfl (by decide +kernel) ⟨Nat.le_of_ble_eq_true rfl, Nat.le_of_ble_eq_true rfl⟩) (sp_preV hKg hW.2.2.1 (κ := 0) (by decide) mE_0 rfl) rfl rfl hl.1 rfl (lv_room (Nat.le_of_ble_eq_true rfl)) dL_law_1115 ⟨by show cells + 1 + 0 + 0 ≤ 606307; omega, by show slots + 6 + 0 + 0 ≤ 7176832; omega⟩) ?_
  refine lv_iload hx hb dL_law_1118 (lv_at hl 1 rfl) ?_
  have hp2 := AG.p2 (ag_get hbr (xs (nI (7 * i + 1)).toNatClampNeg) (w := 4) (j := 5) (fun k hk => (hbr.pe hk).2.2.2.2.1.symm)) hR hB6
  refine lv_icmp_eq (tgt := 1125) hx hb dL_law_1120 (by decide) (fun c_1 => ?_) (fun c_1 => absurd (hp2.1.trans ek6.symm) c_1)
  refine lv_iload hx hb dL_law_1125 (lv_at hl 1 rfl) ?_
  obtain ⟨f2, rfl, hf2⟩ := outL hO
  have fin : W p l e room_1 s m args below meth c H3 locs3 (cells + 1 + 0) (slots + 6 + 0) Q (F0 m 1142 ls []) := by
    refine lv_goto (tgt := 3617) hx hb dL_law_1142 (by decide) ?_
    refine W.widen (k := cells + 60) (n := slots + 240) (by omega) (by omega) ?_
    exact ih _ _ _ _ _ _ _ _ _ _ hW (hp2.rr hO) hS (lv_sub hl [2, 3, 4, 5, 6, 7] rfl)
  refine lv_if_ne (tgt := 1142) hx hb dL_law_1127 (by decide) (fun c_2 => fin) (fun c_2 => ?_)
  have hn := kC_0 (by decide) (ek6.symm.trans c_2)
  have hok := (hp2.2.1 hn).1
  have hv := hf2 hn
  have hPq : va_P D vwCl [(qo, eL cl f2)] H3 := wCons hW.2.2.2.1 (fun k x hx9 => by (cases hx9))
  refine lv_aload_n hx hb dL_law_1130 rfl (lv_at hl 5 rfl) ?_
  refine lv_iconst (v := 0) hx hb dL_law_1131 (by decide) ?_
  refine va_lald hx hb hK hPq 0 6 rfl rfl (i := 0) vp01 dL_law_1132 ?_
  refine lv_iload hx hb dL_law_1133 (lv_at hl 0 rfl) ?_
  refine lv_i2l (v := Int32.toInt64 b7) hx hb dL_law_1135 rfl ?_
  refine W.lcmp hx hb dL_law_1136 ?_
  refine lv_if_eq (tgt := 1142) hx hb dL_law_1137 (by decide) (fun _ => fin) (fun c_4 => absurd (lg_same (hv.trans (congrArg Int32.toInt64 (hok.trans eb7.symm)))) c_4)
set_option maxHeartbeats 4000000 in
set_option maxRecDepth 100000 in
theorem lc_13 (E0 : LE p l s m c args b L xs D cy cl cd xq) (hi : 7 * i + 7 ≤ L) (hL : L ≤ 3584) (hcl : cells + 60 ≤ 606307) (hsl : slots + 240 ≤ 7176832) (hW : LW s.heap.size D cy ad am qo qd pm rj rc σ μ (eL cl f) (eD cd g) H) (hR : RR B σ pm rc μ) (hB : B ≤ 20 * i + 1) (hS : va_S (fun q => s.heap.size ≤ q) s.heap H locs) (hl : lv_has ls 9 [(0, .ref b), (1, .ref (ad 429)), (2, .ref (am 0)), (3, .ref qo), (4, .ref qd), (5, .int (nI (7 * i)))]) (ih : LIH p l e s m args below meth c D cy cl cd ad am qo qd b i B cells slots Q) : W p l e room_1 s m args below meth c H locs cells slots Q (F0 m 1145 ls []) := by
  obtain ⟨hx, hb, hml, hown, hts, hX, hbl, hst, hK, hE0, hNC⟩ := E0
  have hbA : ¬ (fun q : Nat => s.heap.size ≤ q) b := Nat.not_le.mpr hbl
  obtain ⟨n, t, pi, ro, hbr⟩ := hR.1
  obtain ⟨⟨ch, hc8, hch, -⟩, hpm, -⟩ := hR.2.1
  have hRJ := hR.2.2.2.1
  have hB6 : B + 20 < 1000000 := by omega
  have hA := hW.1
  have hKg := hK.sub (tys' := tyG cy) [0, 1, 2, 3, 4, 5] rfl
  refine lv_aload_n hx hb dL_law_1145 rfl (lv_at hl 1 rfl) ?_
  refine lv_aload_n hx hb dL_law_1146 rfl (lv_at hl 0 rfl) ?_
  refine lv_iload hx hb dL_law_1147 (lv_at hl 5 rfl) ?_
  refine lv_iconst (v := 1) hx hb dL_law_1149 (by decide) ?_
  refine lv_iadd hx hb dL_law_1150 ?_
  refine W.eq (g2 := F0 m 1151 ls [.int (nI (7 * i + 1)), .ref b, .ref (ad 429)]) (congrArg (fun z9 => F0 m 1151 ls [.int z9, .ref b, .ref (ad 429)]) (show nI (7 * i) + 1 = nI (7 * i + 1) from nI_addE rfl (by decide +kernel))) ?_
  refine va_sld hx hb hX hbl hbA hS (i := nI (7 * i + 1)) (vp_in_nI (by omega) (by omega)) dL_law_1151 ?_
  refine lv_aload_n hx hb dL_law_1152 rfl (lv_at hl 3 rfl) ?_
  refine LW.call hW (vx_runSW (As := [.ref (ad 429), .int (xs (nI (7 * i + 1)).toNatClampNeg), .ref qo]) (rest := []) ⟨hx, hb, hml, hown, hts⟩ (c_L_isLeft l D ad cy pm rj σ xq hst _ hA.1 (xs (nI (7 * i + 1)).toNatClampNeg) cl cd qo f g) (vx_cwSW 3 hts gL_law_L_isLeft rfl rfl rfl (by decide +kernel) ⟨Nat.le_of_ble_eq_true rfl, Nat.le_of_ble_eq_true rfl⟩) (lwPre hW.2.1 hW.2.2.2.1 hK (lwEX hE0 hA hS) hNC (fun k hk => (hA.2.2.2.1 k hk).1) trivial) rfl rfl hl.1 rfl (lv_room (Nat.le_of_ble_eq_true rfl)) dL_law_1153 ⟨by show cells + 1 ≤ 606307; omega, by show slots + 6 ≤ 7176832; omega⟩) hS (fun H2 locs2 pm2 rj2 rc2 σ2 e2 hW hO hS => ?_)
  refine lv_topi (fun k6 ek6 => ?_)
  refine lv_istore (lv' := [(6, .int k6), (0, .ref b), (1, .ref (ad 429)), (2, .ref (am 0)), (3, .ref qo), (4, .ref qd), (5, .int (nI (7 * i)))]) hx hb dL_law_1156 hl (by decide) rfl (fun ls hl => ?_)
  refine lv_aload_n hx hb dL_law_1158 rfl (lv_at hl 3 rfl) ?_
  refine lv_aload_n hx hb dL_law_1159 rfl (lv_at hl 1 rfl) ?_
  refine lv_iload hx hb dL_law_1160 (lv_at hl 6 rfl) ?_
  refine lv_iconst (v := 1) hx hb dL_law_1162 (by decide) ?_
  refine lv_iadd hx hb dL_law_1163 ?_
  refine W.eq (g2 := F0 m 1164 ls [.int (nI (7 * i + 1)), .ref b, .ref (am 0)]) (congrArg (fun z9 => F0 m 1164 ls [.int z9, .ref b, .ref (am 0)]) (show nI (7 * i) + 1 = nI (7 * i + 1) from nI_addE rfl (by decide +kernel))) ?_
  refine va_sld hx hb hX hbl hbA hS (i := nI (7 * i + 1)) (vp_in_nI (by omega) (by omega)) dL_law_1164 ?_
  refine sp_callm (va_runV (As := [.int (xs (nI (7 * i + 1)).toNatClampNeg)]) (rest := []) ⟨hx, hb, hml, hown, hts⟩ (c_X10_isLeft l D am cy μ _ hA.2.1 n t hbr.1 (xs (nI (7 * i + 1)).toNatClampNeg)) (cwV 1 hts gL_law_X10_isLeft rfl rfl rfl (by decide +kernel) ⟨Nat.le_of_ble_eq_true rfl, Nat.le_of_ble_eq_true rfl⟩) (sp_preVm hKg hW.2.2.1 (κ := 0) (by decide) mE_0 rfl) rfl rfl hl.1 rfl (lv_room (Nat.le_of_ble_eq_true rfl)) dL_law_1165 ⟨by show cells + 1 + 0 ≤ 606307; omega, by show slots + 6 + 0 ≤ 7176832; omega⟩) hS (fun q _ h => lwAm hA hS q h) (fun q h => lwAm hA hS q h) (fun H3 locs3 hPm hle hfr hS => ?_)
  have hW := hW.model hPm hfr
  refine lv_topi (fun b7 eb7 => ?_)
  refine lv_istore (lv' := [(7, .int b7), (6, .int k6), (0, .ref b), (1, .ref (ad 429)), (2, .ref (am 0)), (3, .ref qo), (4, .ref qd), (5, .int (nI (7 * i)))]) hx hb dL_law_1168 hl (by decide) rfl (fun ls hl => ?_)
  refine lv_aload_n hx hb dL_law_1170 rfl (lv_at hl 4 rfl) ?_
  refine sp_call (W.runV (As := []) (rest := []) ⟨hx, hb, hml, hown, hts⟩ (c_X10_thrown l D am cy _) (cwV 0 hts gL_law_X10_thrown rfl rfl rfl (by decide +kernel) ⟨Nat.le_of_ble_eq_true rfl, Nat.le_of_ble_eq_true rfl⟩) (sp_preV hKg hW.2.2.1 (κ := 0) (by decide) mE_0 rfl) rfl rfl hl.1 rfl (lv_room (Nat.le_of_ble_eq_true rfl)) dL_law_1171 ⟨by show cells + 1 + 0 + 0 ≤ 606307; omega, by show slots + 6 + 0 + 0 ≤ 7176832; omega⟩) ?_
  refine lv_iload hx hb dL_law_1174 (lv_at hl 1 rfl) ?_
  have hp2 := AG.p2 (ag_is hbr (xs (nI (7 * i + 1)).toNatClampNeg) (w := 5) (j := 6) (fun k hk => (hbr.pe hk).2.2.2.2.2.1)) hR hB6
  refine lv_icmp_eq (tgt := 1181) hx hb dL_law_1176 (by decide) (fun c_1 => ?_) (fun c_1 => absurd (hp2.1.trans ek6.symm) c_1)
  refine lv_iload hx hb dL_law_1181 (lv_at hl 1 rfl) ?_
  obtain ⟨f2, rfl, hf2⟩ := outL hO
  have fin : W p l e room_1 s m args below meth c H3 locs3 (cells + 1 + 0) (slots + 6 + 0) Q (F0 m 1205 ls []) := by
    refine lv_goto (tgt := 3617) hx hb dL_law_1205 (by decide) ?_
    refine W.widen (k := cells + 60) (n := slots + 240) (by omega) (by omega) ?_
    exact ih _ _ _ _ _ _ _ _ _ _ hW (hp2.rr hO) hS (lv_sub hl [2, 3, 4, 5, 6, 7] rfl)
  refine lv_if_ne (tgt := 1205) hx hb dL_law_1183 (by decide) (fun c_2 => fin) (fun c_2 => ?_)
  have hn := kC_0 (by decide) (ek6.symm.trans c_2)
  have hok := (hp2.2.1 hn).1
  have hv := hf2 hn
  have hPq : va_P D vwCl [(qo, eL cl f2)] H3 := wCons hW.2.2.2.1 (fun k x hx9 => by (cases hx9))
  refine lv_aload_n hx hb dL_law_1186 rfl (lv_at hl 5 rfl) ?_
  refine lv_iconst (v := 0) hx hb dL_law_1187 (by decide) ?_
  refine va_lald hx hb hK hPq 0 6 rfl rfl (i := 0) vp01 dL_law_1188 ?_
  refine lv_iload hx hb dL_law_1189 (lv_at hl 0 rfl) ?_
  have hb7 : b7 = 0 ∨ b7 = 1 := by rw [eb7]; exact b2i_01 _
  suffices key : W p l e room_1 s m args below meth c H3 locs3 (cells + 1 + 0) (slots + 6 + 0) Q (F0 m 1199 ls [.long (Int32.toInt64 b7), .long (f2 (0 : Int32).toNatClampNeg)]) by
    refine lv_if_eq (tgt := 1198) hx hb dL_law_1191 (by decide) (fun c_3 => ?_) (fun c_3 => ?_)
    · refine lv_lconst (v := 0) hx hb dL_law_1198 rfl ?_
      exact W.eq (g2 := F0 m 1199 ls [.long (Int32.toInt64 b7), .long (f2 (0 : Int32).toNatClampNeg)]) (by rw [c_3]; rfl) key
    · refine lv_lconst (v := 1) hx hb dL_law_1194 rfl ?_
      refine lv_goto (tgt := 1199) hx hb dL_law_1195 (by decide) ?_
      exact W.eq (g2 := F0 m 1199 ls [.long (Int32.toInt64 b7), .long (f2 (0 : Int32).toNatClampNeg)]) (by rw [hb7.resolve_left c_3]; rfl) key
  refine W.lcmp hx hb dL_law_1199 ?_
  refine lv_if_eq (tgt := 1205) hx hb dL_law_1200 (by decide) (fun _ => fin) (fun c_4 => absurd (lg_same (hv.trans (congrArg Int32.toInt64 (hok.trans eb7.symm)))) c_4)
set_option maxHeartbeats 4000000 in
set_option maxRecDepth 100000 in
theorem lc_14 (E0 : LE p l s m c args b L xs D cy cl cd xq) (hi : 7 * i + 7 ≤ L) (hL : L ≤ 3584) (hcl : cells + 60 ≤ 606307) (hsl : slots + 240 ≤ 7176832) (hW : LW s.heap.size D cy ad am qo qd pm rj rc σ μ (eL cl f) (eD cd g) H) (hR : RR B σ pm rc μ) (hB : B ≤ 20 * i + 1) (hS : va_S (fun q => s.heap.size ≤ q) s.heap H locs) (hl : lv_has ls 9 [(0, .ref b), (1, .ref (ad 429)), (2, .ref (am 0)), (3, .ref qo), (4, .ref qd), (5, .int (nI (7 * i)))]) (ih : LIH p l e s m args below meth c D cy cl cd ad am qo qd b i B cells slots Q) : W p l e room_1 s m args below meth c H locs cells slots Q (F0 m 1208 ls []) := by
  obtain ⟨hx, hb, hml, hown, hts, hX, hbl, hst, hK, hE0, hNC⟩ := E0
  have hbA : ¬ (fun q : Nat => s.heap.size ≤ q) b := Nat.not_le.mpr hbl
  obtain ⟨n, t, pi, ro, hbr⟩ := hR.1
  obtain ⟨⟨ch, hc8, hch, -⟩, hpm, -⟩ := hR.2.1
  have hRJ := hR.2.2.2.1
  have hB6 : B + 20 < 1000000 := by omega
  have hA := hW.1
  have hKg := hK.sub (tys' := tyG cy) [0, 1, 2, 3, 4, 5] rfl
  refine lv_aload_n hx hb dL_law_1208 rfl (lv_at hl 1 rfl) ?_
  refine lv_aload_n hx hb dL_law_1209 rfl (lv_at hl 0 rfl) ?_
  refine lv_iload hx hb dL_law_1210 (lv_at hl 5 rfl) ?_
  refine lv_iconst (v := 1) hx hb dL_law_1212 (by decide) ?_
  refine lv_iadd hx hb dL_law_1213 ?_
  refine W.eq (g2 := F0 m 1214 ls [.int (nI (7 * i + 1)), .ref b, .ref (ad 429)]) (congrArg (fun z9 => F0 m 1214 ls [.int z9, .ref b, .ref (ad 429)]) (show nI (7 * i) + 1 = nI (7 * i + 1) from nI_addE rfl (by decide +kernel))) ?_
  refine va_sld hx hb hX hbl hbA hS (i := nI (7 * i + 1)) (vp_in_nI (by omega) (by omega)) dL_law_1214 ?_
  refine lv_aload_n hx hb dL_law_1215 rfl (lv_at hl 3 rfl) ?_
  refine LW.call hW (vx_runSW (As := [.ref (ad 429), .int (xs (nI (7 * i + 1)).toNatClampNeg), .ref qo]) (rest := []) ⟨hx, hb, hml, hown, hts⟩ (c_L_depthOf l D ad cy pm rj σ xq hst _ hA.1 (xs (nI (7 * i + 1)).toNatClampNeg) cl cd qo f g) (vx_cwSW 3 hts gL_law_L_depthOf rfl rfl rfl (by decide +kernel) ⟨Nat.le_of_ble_eq_true rfl, Nat.le_of_ble_eq_true rfl⟩) (lwPre hW.2.1 hW.2.2.2.1 hK (lwEX hE0 hA hS) hNC (fun k hk => (hA.2.2.2.1 k hk).1) trivial) rfl rfl hl.1 rfl (lv_room (Nat.le_of_ble_eq_true rfl)) dL_law_1216 ⟨by show cells + 1 ≤ 606307; omega, by show slots + 6 ≤ 7176832; omega⟩) hS (fun H2 locs2 pm2 rj2 rc2 σ2 e2 hW hO hS => ?_)
  refine lv_topi (fun k6 ek6 => ?_)
  refine lv_istore (lv' := [(6, .int k6), (0, .ref b), (1, .ref (ad 429)), (2, .ref (am 0)), (3, .ref qo), (4, .ref qd), (5, .int (nI (7 * i)))]) hx hb dL_law_1219 hl (by decide) rfl (fun ls hl => ?_)
  refine lv_aload_n hx hb dL_law_1221 rfl (lv_at hl 3 rfl) ?_
  refine lv_aload_n hx hb dL_law_1222 rfl (lv_at hl 1 rfl) ?_
  refine lv_iload hx hb dL_law_1223 (lv_at hl 6 rfl) ?_
  refine lv_iconst (v := 1) hx hb dL_law_1225 (by decide) ?_
  refine lv_iadd hx hb dL_law_1226 ?_
  refine W.eq (g2 := F0 m 1227 ls [.int (nI (7 * i + 1)), .ref b, .ref (am 0)]) (congrArg (fun z9 => F0 m 1227 ls [.int z9, .ref b, .ref (am 0)]) (show nI (7 * i) + 1 = nI (7 * i + 1) from nI_addE rfl (by decide +kernel))) ?_
  refine va_sld hx hb hX hbl hbA hS (i := nI (7 * i + 1)) (vp_in_nI (by omega) (by omega)) dL_law_1227 ?_
  refine sp_callm (va_runV (As := [.int (xs (nI (7 * i + 1)).toNatClampNeg)]) (rest := []) ⟨hx, hb, hml, hown, hts⟩ (c_X10_depthOf l D am cy μ _ hA.2.1 n t hbr.1 (xs (nI (7 * i + 1)).toNatClampNeg)) (cwV 1 hts gL_law_X10_depthOf rfl rfl rfl (by decide +kernel) ⟨Nat.le_of_ble_eq_true rfl, Nat.le_of_ble_eq_true rfl⟩) (sp_preVm hKg hW.2.2.1 (κ := 0) (by decide) mE_0 rfl) rfl rfl hl.1 rfl (lv_room (Nat.le_of_ble_eq_true rfl)) dL_law_1228 ⟨by show cells + 1 + 0 ≤ 606307; omega, by show slots + 6 + 0 ≤ 7176832; omega⟩) hS (fun q _ h => lwAm hA hS q h) (fun q h => lwAm hA hS q h) (fun H3 locs3 hPm hle hfr hS => ?_)
  have hW := hW.model hPm hfr
  refine lv_topi (fun b7 eb7 => ?_)
  refine lv_istore (lv' := [(7, .int b7), (6, .int k6), (0, .ref b), (1, .ref (ad 429)), (2, .ref (am 0)), (3, .ref qo), (4, .ref qd), (5, .int (nI (7 * i)))]) hx hb dL_law_1231 hl (by decide) rfl (fun ls hl => ?_)
  refine lv_aload_n hx hb dL_law_1233 rfl (lv_at hl 4 rfl) ?_
  refine sp_call (W.runV (As := []) (rest := []) ⟨hx, hb, hml, hown, hts⟩ (c_X10_thrown l D am cy _) (cwV 0 hts gL_law_X10_thrown rfl rfl rfl (by decide +kernel) ⟨Nat.le_of_ble_eq_true rfl, Nat.le_of_ble_eq_true rfl⟩) (sp_preV hKg hW.2.2.1 (κ := 0) (by decide) mE_0 rfl) rfl rfl hl.1 rfl (lv_room (Nat.le_of_ble_eq_true rfl)) dL_law_1234 ⟨by show cells + 1 + 0 + 0 ≤ 606307; omega, by show slots + 6 + 0 + 0 ≤ 7176832; omega⟩) ?_
  refine lv_iload hx hb dL_law_1237 (lv_at hl 1 rfl) ?_
  have hp2 := AG.p2 (ag_get hbr (xs (nI (7 * i + 1)).toNatClampNeg) (w := 6) (j := 7) (fun k hk => (hbr.pe hk).2.2.2.2.2.2.1.symm)) hR hB6
  refine lv_icmp_eq (tgt := 1244) hx hb dL_law_1239 (by decide) (fun c_1 => ?_) (fun c_1 => absurd (hp2.1.trans ek6.symm) c_1)
  refine lv_iload hx hb dL_law_1244 (lv_at hl 1 rfl) ?_
  obtain ⟨f2, rfl, hf2⟩ := outL hO
  have fin : W p l e room_1 s m args below meth c H3 locs3 (cells + 1 + 0) (slots + 6 + 0) Q (F0 m 1261 ls []) := by
    refine lv_goto (tgt := 3617) hx hb dL_law_1261 (by decide) ?_
    refine W.widen (k := cells + 60) (n := slots + 240) (by omega) (by omega) ?_
    exact ih _ _ _ _ _ _ _ _ _ _ hW (hp2.rr hO) hS (lv_sub hl [2, 3, 4, 5, 6, 7] rfl)
  refine lv_if_ne (tgt := 1261) hx hb dL_law_1246 (by decide) (fun c_2 => fin) (fun c_2 => ?_)
  have hn := kC_0 (by decide) (ek6.symm.trans c_2)
  have hok := (hp2.2.1 hn).1
  have hv := hf2 hn
  have hPq : va_P D vwCl [(qo, eL cl f2)] H3 := wCons hW.2.2.2.1 (fun k x hx9 => by (cases hx9))
  refine lv_aload_n hx hb dL_law_1249 rfl (lv_at hl 5 rfl) ?_
  refine lv_iconst (v := 0) hx hb dL_law_1250 (by decide) ?_
  refine va_lald hx hb hK hPq 0 6 rfl rfl (i := 0) vp01 dL_law_1251 ?_
  refine lv_iload hx hb dL_law_1252 (lv_at hl 0 rfl) ?_
  refine lv_i2l (v := Int32.toInt64 b7) hx hb dL_law_1254 rfl ?_
  refine W.lcmp hx hb dL_law_1255 ?_
  refine lv_if_eq (tgt := 1261) hx hb dL_law_1256 (by decide) (fun _ => fin) (fun c_4 => absurd (lg_same (hv.trans (congrArg Int32.toInt64 (hok.trans eb7.symm)))) c_4)
set_option maxHeartbeats 4000000 in
set_option maxRecDepth 100000 in
theorem lc_15 (E0 : LE p l s m c args b L xs D cy cl cd xq) (hi : 7 * i + 7 ≤ L) (hL : L ≤ 3584) (hcl : cells + 60 ≤ 606307) (hsl : slots + 240 ≤ 7176832) (hW : LW s.heap.size D cy ad am qo qd pm rj rc σ μ (eL cl f) (eD cd g) H) (hR : RR B σ pm rc μ) (hB : B ≤ 20 * i + 1) (hS : va_S (fun q => s.heap.size ≤ q) s.heap H locs) (hl : lv_has ls 9 [(0, .ref b), (1, .ref (ad 429)), (2, .ref (am 0)), (3, .ref qo), (4, .ref qd), (5, .int (nI (7 * i)))]) (ih : LIH p l e s m args below meth c D cy cl cd ad am qo qd b i B cells slots Q) : W p l e room_1 s m args below meth c H locs cells slots Q (F0 m 1264 ls []) := by
  obtain ⟨hx, hb, hml, hown, hts, hX, hbl, hst, hK, hE0, hNC⟩ := E0
  have hbA : ¬ (fun q : Nat => s.heap.size ≤ q) b := Nat.not_le.mpr hbl
  obtain ⟨n, t, pi, ro, hbr⟩ := hR.1
  obtain ⟨⟨ch, hc8, hch, -⟩, hpm, -⟩ := hR.2.1
  have hRJ := hR.2.2.2.1
  have hB6 : B + 20 < 1000000 := by omega
  have hA := hW.1
  have hKg := hK.sub (tys' := tyG cy) [0, 1, 2, 3, 4, 5] rfl
  refine lv_aload_n hx hb dL_law_1264 rfl (lv_at hl 1 rfl) ?_
  refine lv_aload_n hx hb dL_law_1265 rfl (lv_at hl 0 rfl) ?_
  refine lv_iload hx hb dL_law_1266 (lv_at hl 5 rfl) ?_
  refine lv_iconst (v := 1) hx hb dL_law_1268 (by decide) ?_
  refine lv_iadd hx hb dL_law_1269 ?_
  refine W.eq (g2 := F0 m 1270 ls [.int (nI (7 * i + 1)), .ref b, .ref (ad 429)]) (congrArg (fun z9 => F0 m 1270 ls [.int z9, .ref b, .ref (ad 429)]) (show nI (7 * i) + 1 = nI (7 * i + 1) from nI_addE rfl (by decide +kernel))) ?_
  refine va_sld hx hb hX hbl hbA hS (i := nI (7 * i + 1)) (vp_in_nI (by omega) (by omega)) dL_law_1270 ?_
  refine lv_aload_n hx hb dL_law_1271 rfl (lv_at hl 3 rfl) ?_
  refine LW.call hW (vx_runSW (As := [.ref (ad 429), .int (xs (nI (7 * i + 1)).toNatClampNeg), .ref qo]) (rest := []) ⟨hx, hb, hml, hown, hts⟩ (c_L_doubtsOf l D ad cy pm rj σ xq hst _ hA.1 (xs (nI (7 * i + 1)).toNatClampNeg) cl cd qo f g) (vx_cwSW 3 hts gL_law_L_doubtsOf rfl rfl rfl (by decide +kernel) ⟨Nat.le_of_ble_eq_true rfl, Nat.le_of_ble_eq_true rfl⟩) (lwPre hW.2.1 hW.2.2.2.1 hK (lwEX hE0 hA hS) hNC (fun k hk => (hA.2.2.2.1 k hk).1) trivial) rfl rfl hl.1 rfl (lv_room (Nat.le_of_ble_eq_true rfl)) dL_law_1272 ⟨by show cells + 1 ≤ 606307; omega, by show slots + 6 ≤ 7176832; omega⟩) hS (fun H2 locs2 pm2 rj2 rc2 σ2 e2 hW hO hS => ?_)
  refine lv_topi (fun k6 ek6 => ?_)
  refine lv_istore (lv' := [(6, .int k6), (0, .ref b), (1, .ref (ad 429)), (2, .ref (am 0)), (3, .ref qo), (4, .ref qd), (5, .int (nI (7 * i)))]) hx hb dL_law_1275 hl (by decide) rfl (fun ls hl => ?_)
  refine lv_aload_n hx hb dL_law_1277 rfl (lv_at hl 3 rfl) ?_
  refine lv_aload_n hx hb dL_law_1278 rfl (lv_at hl 1 rfl) ?_
  refine lv_iload hx hb dL_law_1279 (lv_at hl 6 rfl) ?_
  refine lv_iconst (v := 1) hx hb dL_law_1281 (by decide) ?_
  refine lv_iadd hx hb dL_law_1282 ?_
  refine W.eq (g2 := F0 m 1283 ls [.int (nI (7 * i + 1)), .ref b, .ref (am 0)]) (congrArg (fun z9 => F0 m 1283 ls [.int z9, .ref b, .ref (am 0)]) (show nI (7 * i) + 1 = nI (7 * i + 1) from nI_addE rfl (by decide +kernel))) ?_
  refine va_sld hx hb hX hbl hbA hS (i := nI (7 * i + 1)) (vp_in_nI (by omega) (by omega)) dL_law_1283 ?_
  refine sp_callm (va_runV (As := [.int (xs (nI (7 * i + 1)).toNatClampNeg)]) (rest := []) ⟨hx, hb, hml, hown, hts⟩ (c_X10_doubtsOf l D am cy μ _ hA.2.1 n t hbr.1 (xs (nI (7 * i + 1)).toNatClampNeg)) (cwV 1 hts gL_law_X10_doubtsOf rfl rfl rfl (by decide +kernel) ⟨Nat.le_of_ble_eq_true rfl, Nat.le_of_ble_eq_true rfl⟩) (sp_preVm hKg hW.2.2.1 (κ := 0) (by decide) mE_0 rfl) rfl rfl hl.1 rfl (lv_room (Nat.le_of_ble_eq_true rfl)) dL_law_1284 ⟨by show cells + 1 + 0 ≤ 606307; omega, by show slots + 6 + 0 ≤ 7176832; omega⟩) hS (fun q _ h => lwAm hA hS q h) (fun q h => lwAm hA hS q h) (fun H3 locs3 hPm hle hfr hS => ?_)
  have hW := hW.model hPm hfr
  refine lv_topi (fun b7 eb7 => ?_)
  refine lv_istore (lv' := [(7, .int b7), (6, .int k6), (0, .ref b), (1, .ref (ad 429)), (2, .ref (am 0)), (3, .ref qo), (4, .ref qd), (5, .int (nI (7 * i)))]) hx hb dL_law_1287 hl (by decide) rfl (fun ls hl => ?_)
  refine lv_aload_n hx hb dL_law_1289 rfl (lv_at hl 4 rfl) ?_
  refine sp_call (W.runV (As := []) (rest := []) ⟨hx, hb, hml, hown, hts⟩ (c_X10_thrown l D am cy _) (cwV 0 hts gL_law_X10_thrown rfl rfl rfl (by decide +kernel) ⟨Nat.le_of_ble_eq_true rfl, Nat.le_of_ble_eq_true rfl⟩) (sp_preV hKg hW.2.2.1 (κ := 0) (by decide) mE_0 rfl) rfl rfl hl.1 rfl (lv_room (Nat.le_of_ble_eq_true rfl)) dL_law_1290 ⟨by show cells + 1 + 0 + 0 ≤ 606307; omega, by show slots + 6 + 0 + 0 ≤ 7176832; omega⟩) ?_
  refine lv_iload hx hb dL_law_1293 (lv_at hl 1 rfl) ?_
  have hp2 := AG.p2 (ag_get hbr (xs (nI (7 * i + 1)).toNatClampNeg) (w := 7) (j := 8) (fun k hk => (hbr.pe hk).2.2.2.2.2.2.2.1.symm)) hR hB6
  refine lv_icmp_eq (tgt := 1300) hx hb dL_law_1295 (by decide) (fun c_1 => ?_) (fun c_1 => absurd (hp2.1.trans ek6.symm) c_1)
  refine lv_iload hx hb dL_law_1300 (lv_at hl 1 rfl) ?_
  obtain ⟨f2, rfl, hf2⟩ := outL hO
  have fin : W p l e room_1 s m args below meth c H3 locs3 (cells + 1 + 0) (slots + 6 + 0) Q (F0 m 1317 ls []) := by
    refine lv_goto (tgt := 3617) hx hb dL_law_1317 (by decide) ?_
    refine W.widen (k := cells + 60) (n := slots + 240) (by omega) (by omega) ?_
    exact ih _ _ _ _ _ _ _ _ _ _ hW (hp2.rr hO) hS (lv_sub hl [2, 3, 4, 5, 6, 7] rfl)
  refine lv_if_ne (tgt := 1317) hx hb dL_law_1302 (by decide) (fun c_2 => fin) (fun c_2 => ?_)
  have hn := kC_0 (by decide) (ek6.symm.trans c_2)
  have hok := (hp2.2.1 hn).1
  have hv := hf2 hn
  have hPq : va_P D vwCl [(qo, eL cl f2)] H3 := wCons hW.2.2.2.1 (fun k x hx9 => by (cases hx9))
  refine lv_aload_n hx hb dL_law_1305 rfl (lv_at hl 5 rfl) ?_
  refine lv_iconst (v := 0) hx hb dL_law_1306 (by decide) ?_
  refine va_lald hx hb hK hPq 0 6 rfl rfl (i := 0) vp01 dL_law_1307 ?_
  refine lv_iload hx hb dL_law_1308 (lv_at hl 0 rfl) ?_
  refine lv_i2l (v := Int32.toInt64 b7) hx hb dL_law_1310 rfl ?_
  refine W.lcmp hx hb dL_law_1311 ?_
  refine lv_if_eq (tgt := 1317) hx hb dL_law_1312 (by decide) (fun _ => fin) (fun c_4 => absurd (lg_same (hv.trans (congrArg Int32.toInt64 (hok.trans eb7.symm)))) c_4)
end LCASE
