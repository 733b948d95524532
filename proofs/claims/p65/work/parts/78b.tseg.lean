section LST
variable {p : Program} {l : Launch} {e : Env} {s : State} {m : MethodId} {args : Array Value} {below : List Frame} {meth : Method} {c : Code} {Q : State → Prop} {b L : Nat} {xs : Nat → Int32} {D : va_G} {cy : Nat → ClassId} {xq ad : Nat → Nat} {pm : Nat → Nat} {rj : Option Nat} {σ : Nat → Nat → Int32} {f : Nat → Int32} {B n t : Nat} {pi ro : Nat → Nat} {H : Heap} {locs : List Loc} {cells slots : Nat} {ls : Array Slot}
set_option maxHeartbeats 4000000 in
set_option maxRecDepth 100000 in
theorem tHead (E0 : LE p l s m c args b L xs D cy xq) (hA : LA9 s.heap.size ad) (hbr : BR σ f B n t pi ro) (hB : B < 1000000) {i v5 : Nat} {v2 v6 : Int32} (hi9 : i < t) (hc : cells + 4 ≤ 752875) (hs : slots + 30 ≤ 6835470) (hP : va_P D vwCl (cW ad cy pm rj σ) H) (hS : va_S (fun q => s.heap.size ≤ q) s.heap H locs) (hl : lv_has ls 21 [(0, .ref b), (1, .ref (ad (429))), (2, .int v2), (3, .int (nI t)), (4, .int (nI n)), (5, .int (nI v5)), (6, .int v6), (7, .int (f 4)), (8, .int (nI i))]) (kk : ∀ (H1 : Heap) (locs1 : List Loc) (ls1 : Array Slot), va_P D vwCl (cW ad cy pm rj σ) H1 → va_S (fun q => s.heap.size ≤ q) s.heap H1 locs1 → lv_has ls1 21 [(0, .ref b), (1, .ref (ad (429))), (2, .int v2), (3, .int (nI t)), (4, .int (nI n)), (5, .int (nI (v5 + 0))), (6, .int (v6 + laS f n (gT f (plT f n t i)) 0)), (7, .int (f 4)), (8, .int (nI i)), (9, .int (gT f (plT f n t i))), (10, .int (nI (cN f n (gT f (plT f n t i))))), (11, .int (lenS f n (gT f (plT f n t i)) 0)), (12, .int (wrS f n t (gT f (plT f n t i)) 0)), (13, .int (fiS f n (gT f (plT f n t i)) 0)), (14, .int (laT f n (gT f (plT f n t i)) 0)), (15, .ref (xq 30)), (16, .int (nI 0))] → W p l e room_1 s m args below meth c H1 locs1 (cells + 4) (slots + 30) Q (F0 m 87 ls1 [])) : W p l e room_1 s m args below meth c H locs (cells) (slots) Q (F0 m 52 ls []) := by
  have hE := E0
  obtain ⟨hx, hb, hml, hown, hts, htb, hX, hbl, hst, hK, hE0, hL⟩ := hE
  have hi := hA.1
  have hr := (plT_ok (f := f) hbr.n30 hbr.t6 hi9).2.1
  refine lv_aload_n hx hb dL_law_52 rfl (lv_at hl 1 rfl) ?_
  refine lv_iload hx hb dL_law_53 (lv_at hl 8 rfl) ?_
  refine sp_callm (va_runV (As := [.int (nI i)]) (rest := []) ⟨hx, hb, hml, hown, hts⟩ (k_trackByErrors l D ad cy pm rj σ xq hst _ hA.1 hbr hi9) (cwV 1 hts gL_law_X9_trackByErrors rfl rfl rfl (by decide +kernel) ⟨Nat.le_of_ble_eq_true rfl, Nat.le_of_ble_eq_true rfl⟩) (sp_preVmx hK hP (lwEX hE0 hA hS) (κ := 429) (by decide) cE_sp rfl) rfl rfl hl.1 rfl (lv_room (Nat.le_of_ble_eq_true rfl)) dL_law_55 ⟨by show _ ≤ 752875; omega, by show _ ≤ 6835470; omega⟩) hS (fun q _ h => lwAd hA hS q h) (fun q h => lwAd hA hS q h) (fun H locs hP hle hfr hS => ?_)
  refine W.eq (g2 := F0 m 58 ls [.int (gT f (plT f n t i))]) rfl ?_
  refine lv_istore (lv' := [(9, .int (gT f (plT f n t i))), (0, .ref b), (1, .ref (ad (429))), (2, .int v2), (3, .int (nI t)), (4, .int (nI n)), (5, .int (nI v5)), (6, .int v6), (7, .int (f 4)), (8, .int (nI i))]) hx hb dL_law_58 hl (by decide) rfl (fun ls hl => ?_)
  refine lv_aload_n hx hb dL_law_60 rfl (lv_at hl 2 rfl) ?_
  refine lv_iload hx hb dL_law_61 (lv_at hl 0 rfl) ?_
  refine sp_callm (va_runV (As := [.int (gT f (plT f n t i))]) (rest := []) ⟨hx, hb, hml, hown, hts⟩ (k_printCount l D ad cy pm rj σ xq hst _ hA.1 hbr hr) (cwV 1 hts gL_law_X9_printCount rfl rfl rfl (by decide +kernel) ⟨Nat.le_of_ble_eq_true rfl, Nat.le_of_ble_eq_true rfl⟩) (sp_preVmx hK hP (lwEX hE0 hA hS) (κ := 429) (by decide) cE_sp rfl) rfl rfl hl.1 rfl (lv_room (Nat.le_of_ble_eq_true rfl)) dL_law_63 ⟨by show _ ≤ 752875; omega, by show _ ≤ 6835470; omega⟩) hS (fun q _ h => lwAd hA hS q h) (fun q h => lwAd hA hS q h) (fun H locs hP hle hfr hS => ?_)
  refine W.eq (g2 := F0 m 66 ls [.int (nI (cN f n (gT f (plT f n t i))))]) rfl ?_
  refine lv_istore (lv' := [(10, .int (nI (cN f n (gT f (plT f n t i))))), (9, .int (gT f (plT f n t i))), (0, .ref b), (1, .ref (ad (429))), (2, .int v2), (3, .int (nI t)), (4, .int (nI n)), (5, .int (nI v5)), (6, .int v6), (7, .int (f 4)), (8, .int (nI i))]) hx hb dL_law_66 hl (by decide) rfl (fun ls hl => ?_)
  refine lv_iconst (v := 0) hx hb dL_law_68 (by decide) ?_
  refine lv_istore (lv' := [(11, .int (0)), (10, .int (nI (cN f n (gT f (plT f n t i))))), (9, .int (gT f (plT f n t i))), (0, .ref b), (1, .ref (ad (429))), (2, .int v2), (3, .int (nI t)), (4, .int (nI n)), (5, .int (nI v5)), (6, .int v6), (7, .int (f 4)), (8, .int (nI i))]) hx hb dL_law_69 hl (by decide) rfl (fun ls hl => ?_)
  refine lv_iconst (v := 0) hx hb dL_law_71 (by decide) ?_
  refine lv_istore (lv' := [(12, .int (0)), (11, .int (0)), (10, .int (nI (cN f n (gT f (plT f n t i))))), (9, .int (gT f (plT f n t i))), (0, .ref b), (1, .ref (ad (429))), (2, .int v2), (3, .int (nI t)), (4, .int (nI n)), (5, .int (nI v5)), (6, .int v6), (7, .int (f 4)), (8, .int (nI i))]) hx hb dL_law_72 hl (by decide) rfl (fun ls hl => ?_)
  refine lv_iconst (v := 0) hx hb dL_law_74 (by decide) ?_
  refine lv_istore (lv' := [(13, .int (0)), (12, .int (0)), (11, .int (0)), (10, .int (nI (cN f n (gT f (plT f n t i))))), (9, .int (gT f (plT f n t i))), (0, .ref b), (1, .ref (ad (429))), (2, .int v2), (3, .int (nI t)), (4, .int (nI n)), (5, .int (nI v5)), (6, .int v6), (7, .int (f 4)), (8, .int (nI i))]) hx hb dL_law_75 hl (by decide) rfl (fun ls hl => ?_)
  refine lv_iconst (v := 0) hx hb dL_law_77 (by decide) ?_
  refine lv_istore (lv' := [(14, .int (0)), (13, .int (0)), (12, .int (0)), (11, .int (0)), (10, .int (nI (cN f n (gT f (plT f n t i))))), (9, .int (gT f (plT f n t i))), (0, .ref b), (1, .ref (ad (429))), (2, .int v2), (3, .int (nI t)), (4, .int (nI n)), (5, .int (nI v5)), (6, .int v6), (7, .int (f 4)), (8, .int (nI i))]) hx hb dL_law_78 hl (by decide) rfl (fun ls hl => ?_)
  refine va_ldcS hx hb hown (hE0.lx 0 rfl) dL_law_80 ?_
  refine lv_astore (lv' := [(15, .ref (xq 30)), (14, .int (0)), (13, .int (0)), (12, .int (0)), (11, .int (0)), (10, .int (nI (cN f n (gT f (plT f n t i))))), (9, .int (gT f (plT f n t i))), (0, .ref b), (1, .ref (ad (429))), (2, .int v2), (3, .int (nI t)), (4, .int (nI n)), (5, .int (nI v5)), (6, .int v6), (7, .int (f 4)), (8, .int (nI i))]) hx hb dL_law_82 hl (by decide) rfl (fun ls hl => ?_)
  refine lv_iconst (v := 0) hx hb dL_law_84 (by decide) ?_
  refine lv_istore (lv' := [(16, .int (0)), (15, .ref (xq 30)), (14, .int (0)), (13, .int (0)), (12, .int (0)), (11, .int (0)), (10, .int (nI (cN f n (gT f (plT f n t i))))), (9, .int (gT f (plT f n t i))), (0, .ref b), (1, .ref (ad (429))), (2, .int v2), (3, .int (nI t)), (4, .int (nI n)), (5, .int (nI v5)), (6, .int v6), (7, .int (f 4)), (8, .int (nI i))]) hx hb dL_law_85 hl (by decide) rfl (fun ls hl => ?_)
  have e6 : v6 + laS f n (gT f (plT f n t i)) 0 = v6 := Int32.add_zero _
  have hl : lv_has ls 21 [(0, .ref b), (1, .ref (ad (429))), (2, .int v2), (3, .int (nI t)), (4, .int (nI n)), (5, .int (nI (v5 + 0))), (6, .int (v6 + laS f n (gT f (plT f n t i)) 0)), (7, .int (f 4)), (8, .int (nI i)), (9, .int (gT f (plT f n t i))), (10, .int (nI (cN f n (gT f (plT f n t i))))), (11, .int (lenS f n (gT f (plT f n t i)) 0)), (12, .int (wrS f n t (gT f (plT f n t i)) 0)), (13, .int (fiS f n (gT f (plT f n t i)) 0)), (14, .int (laT f n (gT f (plT f n t i)) 0)), (15, .ref (xq 30)), (16, .int (nI 0))] := by rw [e6]; exact lv_sub hl [8, 9, 10, 11, 12, 13, 14, 15, 16, 7, 6, 5, 4, 3, 2, 1, 0] rfl
  refine W.widen (k := cells + 4) (n := slots + 30) (by omega) (by omega) ?_
  exact kk _ _ _ hP hS (lv_sub hl [0, 1, 2, 3, 4, 5, 6, 7, 8, 9, 10, 11, 12, 13, 14, 15, 16] rfl)
set_option maxHeartbeats 4000000 in
set_option maxRecDepth 100000 in
theorem tC0 {tx : Nat} (E0 : LE p l s m c args b L xs D cy xq) (hA : LA9 s.heap.size ad) (hbr : BR σ f B n t pi ro) (hB : B < 1000000) {r : Nat} {v2 v5 v6 v8 : Int32} (hr : r < t) (h0 : cN f n (gT f r) = 0) (hc : cells + 110 ≤ 752875) (hs : slots + 700 ≤ 6835470) (hP : va_P D vwCl (cW ad cy pm rj σ) H) (hS : va_S (fun q => s.heap.size ≤ q) s.heap H locs) (hTX : TXs tx (lnT f n t (gT f r) (cN f n (gT f r))).length (fun j => (lnT f n t (gT f r) (cN f n (gT f r))).getD j 0) (sp_A ad 459 H.size) s H) (hl : lv_has ls 21 [(0, .ref b), (1, .ref (ad (429))), (2, .int v2), (3, .int (nI t)), (4, .int (nI n)), (5, .int v5), (6, .int v6), (7, .int (f 4)), (8, .int v8), (9, .int (gT f r)), (10, .int (nI (cN f n (gT f r)))), (11, .int (lenS f n (gT f r) (cN f n (gT f r)))), (12, .int (wrS f n t (gT f r) (cN f n (gT f r)))), (13, .int (fiS f n (gT f r) (cN f n (gT f r)))), (14, .int (laT f n (gT f r) (cN f n (gT f r)))), (15, .ref tx)]) (kk : ∀ (H1 : Heap) (locs1 : List Loc) (ls1 : Array Slot), va_P D vwCl (cW ad cy pm rj (f_wrTn σ (ro r))) H1 → va_S (fun q => s.heap.size ≤ q) s.heap H1 locs1 → lv_has ls1 21 [(0, .ref b), (1, .ref (ad (429))), (2, .int v2), (3, .int (nI t)), (4, .int (nI n)), (5, .int v5), (6, .int v6), (7, .int (f 4)), (8, .int v8), (9, .int (gT f r)), (10, .int (nI (cN f n (gT f r)))), (12, .int (m_errs f n t (gT f r)))] → W p l e room_1 s m args below meth c H1 locs1 (cells + 110) (slots + 700) Q (F0 m 661 ls1 [])) : W p l e room_1 s m args below meth c H locs (cells) (slots) Q (F0 m 536 ls []) := by
  have hE := E0
  obtain ⟨hx, hb, hml, hown, hts, htb, hX, hbl, hst, hK, hE0, hL⟩ := hE
  have hi := hA.1
  have hcl := cntN_le (tA f (gT f r)) n
  have h30 := hbr.n30
  have hcE : cN f n (gT f r) = cntN (tA f (gT f r)) n := rfl
  have hl : lv_has ls 21 [(0, .ref b), (1, .ref (ad (429))), (2, .int v2), (3, .int (nI t)), (4, .int (nI n)), (5, .int v5), (6, .int v6), (7, .int (f 4)), (8, .int v8), (9, .int (gT f r)), (10, .int (nI (cN f n (gT f r)))), (11, .int (m_len f n (gT f r))), (12, .int (wrS f n t (gT f r) (cN f n (gT f r)))), (13, .int (fiS f n (gT f r) (cN f n (gT f r)))), (14, .int (laT f n (gT f r) (cN f n (gT f r)))), (15, .ref tx)] := by rw [← lenS_all hbr.vx hbr.n30]; exact hl
  have hl : lv_has ls 21 [(0, .ref b), (1, .ref (ad (429))), (2, .int v2), (3, .int (nI t)), (4, .int (nI n)), (5, .int v5), (6, .int v6), (7, .int (f 4)), (8, .int v8), (9, .int (gT f r)), (10, .int (nI (cN f n (gT f r)))), (11, .int (m_len f n (gT f r))), (12, .int (m_errs f n t (gT f r))), (13, .int (fiS f n (gT f r) (cN f n (gT f r)))), (14, .int (laT f n (gT f r) (cN f n (gT f r)))), (15, .ref tx)] := by rw [← wrS_all hbr.vx hbr.n30]; exact hl
  refine lv_aload_n hx hb dL_law_536 rfl (lv_at hl 1 rfl) ?_
  refine lv_iload hx hb dL_law_537 (lv_at hl 9 rfl) ?_
  refine lv_iload hx hb dL_law_539 (lv_at hl 10 rfl) ?_
  refine sp_callm (vx_runSW (As := [.ref (ad (429)), .int (gT f r), .int (nI (cN f n (gT f r)))]) (rest := []) ⟨hx, hb, hml, hown, hts⟩ (k_L_printAt l D ad cy pm rj σ xq hst _ hA.1 hbr hr) (vx_cwSW 3 hts gL_law_L_printAt rfl rfl rfl (by decide +kernel) ⟨Nat.le_of_ble_eq_true rfl, Nat.le_of_ble_eq_true rfl⟩) (sp_preSmx hK hP (lwEX hE0 hA hS)) rfl rfl hl.1 rfl (lv_room (Nat.le_of_ble_eq_true rfl)) dL_law_541 ⟨by show _ ≤ 752875; omega, by show _ ≤ 6835470; omega⟩) hS (fun q _ h => lwAd hA hS q h) (fun q h => lwAd hA hS q h) (fun H locs hP hle hfr hS => ?_)
  have hTX := hTX.call hle hfr
  refine W.eq (g2 := F0 m 544 ls [.int (-30000 : Int32)]) rfl ?_
  refine lv_sipush (v := (-30000)) hx hb dL_law_544 (by decide) ?_
  refine lv_icmp_ne (tgt := 659) hx hb dL_law_547 (by decide) (fun c_1 => absurd rfl c_1) (fun c_1 => ?_)
  refine lv_aload_n hx hb dL_law_550 rfl (lv_at hl 1 rfl) ?_
  refine lv_iload hx hb dL_law_551 (lv_at hl 9 rfl) ?_
  refine sp_callm (va_runV (As := [.int (gT f r)]) (rest := []) ⟨hx, hb, hml, hown, hts⟩ (k_trackLength l D ad cy pm rj σ xq hst _ hA.1 hbr hr) (cwV 1 hts gL_law_X9_trackLength rfl rfl rfl (by decide +kernel) ⟨Nat.le_of_ble_eq_true rfl, Nat.le_of_ble_eq_true rfl⟩) (sp_preVmx hK hP (lwEX hE0 hA hS) (κ := 429) (by decide) cE_sp rfl) rfl rfl hl.1 rfl (lv_room (Nat.le_of_ble_eq_true rfl)) dL_law_553 ⟨by show _ ≤ 752875; omega, by show _ ≤ 6835470; omega⟩) hS (fun q _ h => lwAd hA hS q h) (fun q h => lwAd hA hS q h) (fun H locs hP hle hfr hS => ?_)
  have hTX := hTX.call hle hfr
  refine W.eq (g2 := F0 m 556 ls [.int (m_len f n (gT f r))]) rfl ?_
  refine lv_iload hx hb dL_law_556 (lv_at hl 11 rfl) ?_
  refine lv_icmp_ne (tgt := 659) hx hb dL_law_558 (by decide) (fun c_2 => absurd rfl c_2) (fun c_2 => ?_)
  refine lv_aload_n hx hb dL_law_561 rfl (lv_at hl 1 rfl) ?_
  refine lv_iload hx hb dL_law_562 (lv_at hl 9 rfl) ?_
  refine sp_callm (va_runV (As := [.int (gT f r)]) (rest := []) ⟨hx, hb, hml, hown, hts⟩ (k_trackLengthAgain l D ad cy pm rj σ xq hst _ hA.1 hbr hr) (cwV 1 hts gL_law_X9_trackLengthAgain rfl rfl rfl (by decide +kernel) ⟨Nat.le_of_ble_eq_true rfl, Nat.le_of_ble_eq_true rfl⟩) (sp_preVmx hK hP (lwEX hE0 hA hS) (κ := 429) (by decide) cE_sp rfl) rfl rfl hl.1 rfl (lv_room (Nat.le_of_ble_eq_true rfl)) dL_law_564 ⟨by show _ ≤ 752875; omega, by show _ ≤ 6835470; omega⟩) hS (fun q _ h => lwAd hA hS q h) (fun q h => lwAd hA hS q h) (fun H locs hP hle hfr hS => ?_)
  have hTX := hTX.call hle hfr
  refine W.eq (g2 := F0 m 567 ls [.int (m_len f n (gT f r))]) rfl ?_
  refine lv_iload hx hb dL_law_567 (lv_at hl 11 rfl) ?_
  refine lv_icmp_ne (tgt := 659) hx hb dL_law_569 (by decide) (fun c_3 => absurd rfl c_3) (fun c_3 => ?_)
  refine lv_aload_n hx hb dL_law_572 rfl (lv_at hl 1 rfl) ?_
  refine lv_iload hx hb dL_law_573 (lv_at hl 9 rfl) ?_
  refine sp_callm (va_runV (As := [.int (gT f r)]) (rest := []) ⟨hx, hb, hml, hown, hts⟩ (k_errorCount l D ad cy pm rj σ xq hst _ hA.1 hbr hr) (cwV 1 hts gL_law_X9_errorCount rfl rfl rfl (by decide +kernel) ⟨Nat.le_of_ble_eq_true rfl, Nat.le_of_ble_eq_true rfl⟩) (sp_preVmx hK hP (lwEX hE0 hA hS) (κ := 429) (by decide) cE_sp rfl) rfl rfl hl.1 rfl (lv_room (Nat.le_of_ble_eq_true rfl)) dL_law_575 ⟨by show _ ≤ 752875; omega, by show _ ≤ 6835470; omega⟩) hS (fun q _ h => lwAd hA hS q h) (fun q h => lwAd hA hS q h) (fun H locs hP hle hfr hS => ?_)
  have hTX := hTX.call hle hfr
  refine W.eq (g2 := F0 m 578 ls [.int (m_errs f n t (gT f r))]) rfl ?_
  refine lv_iload hx hb dL_law_578 (lv_at hl 12 rfl) ?_
  refine lv_icmp_ne (tgt := 659) hx hb dL_law_580 (by decide) (fun c_4 => absurd rfl c_4) (fun c_4 => ?_)
  refine lv_aload_n hx hb dL_law_583 rfl (lv_at hl 1 rfl) ?_
  refine lv_iload hx hb dL_law_584 (lv_at hl 9 rfl) ?_
  refine sp_callm (va_runV (As := [.int (gT f r)]) (rest := []) ⟨hx, hb, hml, hown, hts⟩ (k_errorCountAgain l D ad cy pm rj σ xq hst _ hA.1 hbr hr) (cwV 1 hts gL_law_X9_errorCountAgain rfl rfl rfl (by decide +kernel) ⟨Nat.le_of_ble_eq_true rfl, Nat.le_of_ble_eq_true rfl⟩) (sp_preVmx hK hP (lwEX hE0 hA hS) (κ := 429) (by decide) cE_sp rfl) rfl rfl hl.1 rfl (lv_room (Nat.le_of_ble_eq_true rfl)) dL_law_586 ⟨by show _ ≤ 752875; omega, by show _ ≤ 6835470; omega⟩) hS (fun q _ h => lwAd hA hS q h) (fun q h => lwAd hA hS q h) (fun H locs hP hle hfr hS => ?_)
  have hTX := hTX.call hle hfr
  refine W.eq (g2 := F0 m 589 ls [.int (m_errs f n t (gT f r))]) rfl ?_
  refine lv_iload hx hb dL_law_589 (lv_at hl 12 rfl) ?_
  refine lv_icmp_ne (tgt := 659) hx hb dL_law_591 (by decide) (fun c_5 => absurd rfl c_5) (fun c_5 => ?_)
  refine lv_aload_n hx hb dL_law_594 rfl (lv_at hl 1 rfl) ?_
  refine lv_iload hx hb dL_law_595 (lv_at hl 9 rfl) ?_
  refine sp_callm (vx_runSW (As := [.ref (ad (429)), .int (gT f r)]) (rest := []) ⟨hx, hb, hml, hown, hts⟩ (k_L_duration l D ad cy pm rj σ xq hst _ hA.1 hbr hr) (vx_cwSW 2 hts gL_law_L_duration rfl rfl rfl (by decide +kernel) ⟨Nat.le_of_ble_eq_true rfl, Nat.le_of_ble_eq_true rfl⟩) (sp_preSmx hK hP (lwEX hE0 hA hS)) rfl rfl hl.1 rfl (lv_room (Nat.le_of_ble_eq_true rfl)) dL_law_597 ⟨by show _ ≤ 752875; omega, by show _ ≤ 6835470; omega⟩) hS (fun q _ h => lwAd hA hS q h) (fun q h => lwAd hA hS q h) (fun H locs hP hle hfr hS => ?_)
  have hTX := hTX.call hle hfr
  refine W.eq (g2 := F0 m 600 ls [.int (eD9 f n (gT f r))]) rfl ?_
  refine lv_iload hx hb dL_law_600 (lv_at hl 10 rfl) ?_
  refine lv_if_ne (tgt := 611) hx hb dL_law_602 (by decide) (fun c_6 => absurd (by rw [h0]; rfl) c_6) (fun c_6 => ?_)
  refine lv_sipush (v := (-30000)) hx hb dL_law_605 (by decide) ?_
  refine lv_goto (tgt := 616) hx hb dL_law_608 (by decide) ?_
  refine W.eq (g2 := F0 m 616 ls [.int (eD9 f n (gT f r)), .int (eD9 f n (gT f r))]) (by rw [show eD9 f n (gT f r) = -30000 from if_pos h0]) ?_
  refine lv_icmp_ne (tgt := 659) hx hb dL_law_616 (by decide) (fun c_7 => absurd rfl c_7) (fun c_7 => ?_)
  refine lv_iload hx hb dL_law_619 (lv_at hl 10 rfl) ?_
  refine lv_iconst (v := 1) hx hb dL_law_621 (by decide) ?_
  refine lv_icmp_le (tgt := 644) hx hb dL_law_622 (by decide) (fun c_8 => ?_) (fun c_8 => absurd (show nI (cN f n (gT f r)) ≤ 1 from nI_le (b := 1) (by omega) (by decide)) c_8)
  refine lv_aload_n hx hb dL_law_644 rfl (lv_at hl 1 rfl) ?_
  refine lv_aload_n hx hb dL_law_645 rfl (lv_at hl 1 rfl) ?_
  refine lv_iload hx hb dL_law_646 (lv_at hl 9 rfl) ?_
  refine sp_callm (va_runV (As := [.int (gT f r)]) (rest := [.ref (ad (429))]) ⟨hx, hb, hml, hown, hts⟩ (k_writeTrack l D ad cy pm rj σ xq hst _ hA.1 hbr hB hr) (cwV 1 hts gL_law_X9_writeTrack rfl rfl rfl (by decide +kernel) ⟨Nat.le_of_ble_eq_true rfl, Nat.le_of_ble_eq_true rfl⟩) (sp_preVmx hK hP (lwEX hE0 hA hS) (κ := 429) (by decide) cE_sp rfl) rfl rfl hl.1 rfl (lv_room (Nat.le_of_ble_eq_true rfl)) dL_law_648 ⟨by show _ ≤ 752875; omega, by show _ ≤ 6835470; omega⟩) hS (fun q _ h => lwAd hA hS q h) (fun q h => lwAd hA hS q h) (fun H locs hP hle hfr hS => ?_)
  have hTX := hTX.call hle hfr
  refine W.eq (g2 := F0 m 651 ls [.int (nI (lnT f n t (gT f r) (cN f n (gT f r))).length), .ref (ad (429))]) rfl ?_
  refine lv_aload hx hb dL_law_651 (lv_at hl 15 rfl) ?_
  have hw := OL.trkN hbr hB hr
  refine sp_callm (va_runS (As := [.ref (ad (429)), .int (nI (lnT f n t (gT f r) (cN f n (gT f r))).length), .ref tx]) (rest := []) ⟨hx, hb, hml, hown, hts⟩ (k_L_isLine l D ad cy pm rj (f_wrTn σ (ro r)) xq hst _ hA.1 tx (lnT f n t (gT f r) (cN f n (gT f r))) hw.2.1 hw.1 hw.2.2.1) (va_cwS 3 hts gL_law_L_isLine rfl rfl rfl (by decide +kernel) ⟨Nat.le_of_ble_eq_true rfl, Nat.le_of_ble_eq_true rfl⟩) (lPre hK hP (lwEX hE0 hA hS) hTX) rfl rfl hl.1 rfl (lv_room (Nat.le_of_ble_eq_true rfl)) dL_law_653 ⟨by show _ ≤ 752875; omega, by show _ ≤ 6835470; omega⟩) hS (fun q _ h => lwAd hA hS q h) (fun q h => lwAd hA hS q h) (fun H locs hP hle hfr hS => ?_)
  have hTX := hTX.call hle hfr
  refine W.eq (g2 := F0 m 656 ls [.int 1]) rfl ?_
  refine lv_if_ne (tgt := 661) hx hb dL_law_656 (by decide) (fun c_9 => ?_) (fun c_9 => absurd c_9 (by decide))
  refine W.widen (k := cells + 110) (n := slots + 700) (by omega) (by omega) ?_
  exact kk _ _ _ hP hS (lv_sub hl [0, 1, 2, 3, 4, 5, 6, 7, 8, 9, 10, 12] rfl)
set_option maxHeartbeats 4000000 in
set_option maxRecDepth 100000 in
theorem tC1 {tx : Nat} (E0 : LE p l s m c args b L xs D cy xq) (hA : LA9 s.heap.size ad) (hbr : BR σ f B n t pi ro) (hB : B < 1000000) {r : Nat} {v2 v5 v6 v8 : Int32} (hr : r < t) (h0 : cN f n (gT f r) = 1) (hc : cells + 110 ≤ 752875) (hs : slots + 700 ≤ 6835470) (hP : va_P D vwCl (cW ad cy pm rj σ) H) (hS : va_S (fun q => s.heap.size ≤ q) s.heap H locs) (hTX : TXs tx (lnT f n t (gT f r) (cN f n (gT f r))).length (fun j => (lnT f n t (gT f r) (cN f n (gT f r))).getD j 0) (sp_A ad 459 H.size) s H) (hl : lv_has ls 21 [(0, .ref b), (1, .ref (ad (429))), (2, .int v2), (3, .int (nI t)), (4, .int (nI n)), (5, .int v5), (6, .int v6), (7, .int (f 4)), (8, .int v8), (9, .int (gT f r)), (10, .int (nI (cN f n (gT f r)))), (11, .int (lenS f n (gT f r) (cN f n (gT f r)))), (12, .int (wrS f n t (gT f r) (cN f n (gT f r)))), (13, .int (fiS f n (gT f r) (cN f n (gT f r)))), (14, .int (laT f n (gT f r) (cN f n (gT f r)))), (15, .ref tx)]) (kk : ∀ (H1 : Heap) (locs1 : List Loc) (ls1 : Array Slot), va_P D vwCl (cW ad cy pm rj (f_wrTn σ (ro r))) H1 → va_S (fun q => s.heap.size ≤ q) s.heap H1 locs1 → lv_has ls1 21 [(0, .ref b), (1, .ref (ad (429))), (2, .int v2), (3, .int (nI t)), (4, .int (nI n)), (5, .int v5), (6, .int v6), (7, .int (f 4)), (8, .int v8), (9, .int (gT f r)), (10, .int (nI (cN f n (gT f r)))), (12, .int (m_errs f n t (gT f r)))] → W p l e room_1 s m args below meth c H1 locs1 (cells + 110) (slots + 700) Q (F0 m 661 ls1 [])) : W p l e room_1 s m args below meth c H locs (cells) (slots) Q (F0 m 536 ls []) := by
  have hE := E0
  obtain ⟨hx, hb, hml, hown, hts, htb, hX, hbl, hst, hK, hE0, hL⟩ := hE
  have hi := hA.1
  have hcl := cntN_le (tA f (gT f r)) n
  have h30 := hbr.n30
  have hcE : cN f n (gT f r) = cntN (tA f (gT f r)) n := rfl
  have hl : lv_has ls 21 [(0, .ref b), (1, .ref (ad (429))), (2, .int v2), (3, .int (nI t)), (4, .int (nI n)), (5, .int v5), (6, .int v6), (7, .int (f 4)), (8, .int v8), (9, .int (gT f r)), (10, .int (nI (cN f n (gT f r)))), (11, .int (m_len f n (gT f r))), (12, .int (wrS f n t (gT f r) (cN f n (gT f r)))), (13, .int (fiS f n (gT f r) (cN f n (gT f r)))), (14, .int (laT f n (gT f r) (cN f n (gT f r)))), (15, .ref tx)] := by rw [← lenS_all hbr.vx hbr.n30]; exact hl
  have hl : lv_has ls 21 [(0, .ref b), (1, .ref (ad (429))), (2, .int v2), (3, .int (nI t)), (4, .int (nI n)), (5, .int v5), (6, .int v6), (7, .int (f 4)), (8, .int v8), (9, .int (gT f r)), (10, .int (nI (cN f n (gT f r)))), (11, .int (m_len f n (gT f r))), (12, .int (m_errs f n t (gT f r))), (13, .int (fiS f n (gT f r) (cN f n (gT f r)))), (14, .int (laT f n (gT f r) (cN f n (gT f r)))), (15, .ref tx)] := by rw [← wrS_all hbr.vx hbr.n30]; exact hl
  refine lv_aload_n hx hb dL_law_536 rfl (lv_at hl 1 rfl) ?_
  refine lv_iload hx hb dL_law_537 (lv_at hl 9 rfl) ?_
  refine lv_iload hx hb dL_law_539 (lv_at hl 10 rfl) ?_
  refine sp_callm (vx_runSW (As := [.ref (ad (429)), .int (gT f r), .int (nI (cN f n (gT f r)))]) (rest := []) ⟨hx, hb, hml, hown, hts⟩ (k_L_printAt l D ad cy pm rj σ xq hst _ hA.1 hbr hr) (vx_cwSW 3 hts gL_law_L_printAt rfl rfl rfl (by decide +kernel) ⟨Nat.le_of_ble_eq_true rfl, Nat.le_of_ble_eq_true rfl⟩) (sp_preSmx hK hP (lwEX hE0 hA hS)) rfl rfl hl.1 rfl (lv_room (Nat.le_of_ble_eq_true rfl)) dL_law_541 ⟨by show _ ≤ 752875; omega, by show _ ≤ 6835470; omega⟩) hS (fun q _ h => lwAd hA hS q h) (fun q h => lwAd hA hS q h) (fun H locs hP hle hfr hS => ?_)
  have hTX := hTX.call hle hfr
  refine W.eq (g2 := F0 m 544 ls [.int (-30000 : Int32)]) rfl ?_
  refine lv_sipush (v := (-30000)) hx hb dL_law_544 (by decide) ?_
  refine lv_icmp_ne (tgt := 659) hx hb dL_law_547 (by decide) (fun c_1 => absurd rfl c_1) (fun c_1 => ?_)
  refine lv_aload_n hx hb dL_law_550 rfl (lv_at hl 1 rfl) ?_
  refine lv_iload hx hb dL_law_551 (lv_at hl 9 rfl) ?_
  refine sp_callm (va_runV (As := [.int (gT f r)]) (rest := []) ⟨hx, hb, hml, hown, hts⟩ (k_trackLength l D ad cy pm rj σ xq hst _ hA.1 hbr hr) (cwV 1 hts gL_law_X9_trackLength rfl rfl rfl (by decide +kernel) ⟨Nat.le_of_ble_eq_true rfl, Nat.le_of_ble_eq_true rfl⟩) (sp_preVmx hK hP (lwEX hE0 hA hS) (κ := 429) (by decide) cE_sp rfl) rfl rfl hl.1 rfl (lv_room (Nat.le_of_ble_eq_true rfl)) dL_law_553 ⟨by show _ ≤ 752875; omega, by show _ ≤ 6835470; omega⟩) hS (fun q _ h => lwAd hA hS q h) (fun q h => lwAd hA hS q h) (fun H locs hP hle hfr hS => ?_)
  have hTX := hTX.call hle hfr
  refine W.eq (g2 := F0 m 556 ls [.int (m_len f n (gT f r))]) rfl ?_
  refine lv_iload hx hb dL_law_556 (lv_at hl 11 rfl) ?_
  refine lv_icmp_ne (tgt := 659) hx hb dL_law_558 (by decide) (fun c_2 => absurd rfl c_2) (fun c_2 => ?_)
  refine lv_aload_n hx hb dL_law_561 rfl (lv_at hl 1 rfl) ?_
  refine lv_iload hx hb dL_law_562 (lv_at hl 9 rfl) ?_
  refine sp_callm (va_runV (As := [.int (gT f r)]) (rest := []) ⟨hx, hb, hml, hown, hts⟩ (k_trackLengthAgain l D ad cy pm rj σ xq hst _ hA.1 hbr hr) (cwV 1 hts gL_law_X9_trackLengthAgain rfl rfl rfl (by decide +kernel) ⟨Nat.le_of_ble_eq_true rfl, Nat.le_of_ble_eq_true rfl⟩) (sp_preVmx hK hP (lwEX hE0 hA hS) (κ := 429) (by decide) cE_sp rfl) rfl rfl hl.1 rfl (lv_room (Nat.le_of_ble_eq_true rfl)) dL_law_564 ⟨by show _ ≤ 752875; omega, by show _ ≤ 6835470; omega⟩) hS (fun q _ h => lwAd hA hS q h) (fun q h => lwAd hA hS q h) (fun H locs hP hle hfr hS => ?_)
  have hTX := hTX.call hle hfr
  refine W.eq (g2 := F0 m 567 ls [.int (m_len f n (gT f r))]) rfl ?_
  refine lv_iload hx hb dL_law_567 (lv_at hl 11 rfl) ?_
  refine lv_icmp_ne (tgt := 659) hx hb dL_law_569 (by decide) (fun c_3 => absurd rfl c_3) (fun c_3 => ?_)
  refine lv_aload_n hx hb dL_law_572 rfl (lv_at hl 1 rfl) ?_
  refine lv_iload hx hb dL_law_573 (lv_at hl 9 rfl) ?_
  refine sp_callm (va_runV (As := [.int (gT f r)]) (rest := []) ⟨hx, hb, hml, hown, hts⟩ (k_errorCount l D ad cy pm rj σ xq hst _ hA.1 hbr hr) (cwV 1 hts gL_law_X9_errorCount rfl rfl rfl (by decide +kernel) ⟨Nat.le_of_ble_eq_true rfl, Nat.le_of_ble_eq_true rfl⟩) (sp_preVmx hK hP (lwEX hE0 hA hS) (κ := 429) (by decide) cE_sp rfl) rfl rfl hl.1 rfl (lv_room (Nat.le_of_ble_eq_true rfl)) dL_law_575 ⟨by show _ ≤ 752875; omega, by show _ ≤ 6835470; omega⟩) hS (fun q _ h => lwAd hA hS q h) (fun q h => lwAd hA hS q h) (fun H locs hP hle hfr hS => ?_)
  have hTX := hTX.call hle hfr
  refine W.eq (g2 := F0 m 578 ls [.int (m_errs f n t (gT f r))]) rfl ?_
  refine lv_iload hx hb dL_law_578 (lv_at hl 12 rfl) ?_
  refine lv_icmp_ne (tgt := 659) hx hb dL_law_580 (by decide) (fun c_4 => absurd rfl c_4) (fun c_4 => ?_)
  refine lv_aload_n hx hb dL_law_583 rfl (lv_at hl 1 rfl) ?_
  refine lv_iload hx hb dL_law_584 (lv_at hl 9 rfl) ?_
  refine sp_callm (va_runV (As := [.int (gT f r)]) (rest := []) ⟨hx, hb, hml, hown, hts⟩ (k_errorCountAgain l D ad cy pm rj σ xq hst _ hA.1 hbr hr) (cwV 1 hts gL_law_X9_errorCountAgain rfl rfl rfl (by decide +kernel) ⟨Nat.le_of_ble_eq_true rfl, Nat.le_of_ble_eq_true rfl⟩) (sp_preVmx hK hP (lwEX hE0 hA hS) (κ := 429) (by decide) cE_sp rfl) rfl rfl hl.1 rfl (lv_room (Nat.le_of_ble_eq_true rfl)) dL_law_586 ⟨by show _ ≤ 752875; omega, by show _ ≤ 6835470; omega⟩) hS (fun q _ h => lwAd hA hS q h) (fun q h => lwAd hA hS q h) (fun H locs hP hle hfr hS => ?_)
  have hTX := hTX.call hle hfr
  refine W.eq (g2 := F0 m 589 ls [.int (m_errs f n t (gT f r))]) rfl ?_
  refine lv_iload hx hb dL_law_589 (lv_at hl 12 rfl) ?_
  refine lv_icmp_ne (tgt := 659) hx hb dL_law_591 (by decide) (fun c_5 => absurd rfl c_5) (fun c_5 => ?_)
  refine lv_aload_n hx hb dL_law_594 rfl (lv_at hl 1 rfl) ?_
  refine lv_iload hx hb dL_law_595 (lv_at hl 9 rfl) ?_
  refine sp_callm (vx_runSW (As := [.ref (ad (429)), .int (gT f r)]) (rest := []) ⟨hx, hb, hml, hown, hts⟩ (k_L_duration l D ad cy pm rj σ xq hst _ hA.1 hbr hr) (vx_cwSW 2 hts gL_law_L_duration rfl rfl rfl (by decide +kernel) ⟨Nat.le_of_ble_eq_true rfl, Nat.le_of_ble_eq_true rfl⟩) (sp_preSmx hK hP (lwEX hE0 hA hS)) rfl rfl hl.1 rfl (lv_room (Nat.le_of_ble_eq_true rfl)) dL_law_597 ⟨by show _ ≤ 752875; omega, by show _ ≤ 6835470; omega⟩) hS (fun q _ h => lwAd hA hS q h) (fun q h => lwAd hA hS q h) (fun H locs hP hle hfr hS => ?_)
  have hTX := hTX.call hle hfr
  refine W.eq (g2 := F0 m 600 ls [.int (eD9 f n (gT f r))]) rfl ?_
  refine lv_iload hx hb dL_law_600 (lv_at hl 10 rfl) ?_
  refine lv_if_ne (tgt := 611) hx hb dL_law_602 (by decide) (fun c_6 => ?_) (fun c_6 => absurd ((nI_eq (a := cN f n (gT f r)) (b := 0) (by omega) (by decide)).mp c_6) (by omega))
  refine lv_iload hx hb dL_law_611 (lv_at hl 14 rfl) ?_
  refine lv_iload hx hb dL_law_613 (lv_at hl 13 rfl) ?_
  refine lv_isub hx hb dL_law_615 ?_
  refine W.eq (g2 := F0 m 616 ls [.int (eD9 f n (gT f r)), .int (eD9 f n (gT f r))]) (by unfold eD9 laT fiS; rw [if_neg (show ¬ cN f n (gT f r) = 0 by omega), if_neg (show ¬ cN f n (gT f r) = 0 by omega), if_neg (show ¬ cN f n (gT f r) = 0 by omega)]) ?_
  refine lv_icmp_ne (tgt := 659) hx hb dL_law_616 (by decide) (fun c_7 => absurd rfl c_7) (fun c_7 => ?_)
  refine lv_iload hx hb dL_law_619 (lv_at hl 10 rfl) ?_
  refine lv_iconst (v := 1) hx hb dL_law_621 (by decide) ?_
  refine lv_icmp_le (tgt := 644) hx hb dL_law_622 (by decide) (fun c_8 => ?_) (fun c_8 => absurd (show nI (cN f n (gT f r)) ≤ 1 from nI_le (b := 1) (by omega) (by decide)) c_8)
  refine lv_aload_n hx hb dL_law_644 rfl (lv_at hl 1 rfl) ?_
  refine lv_aload_n hx hb dL_law_645 rfl (lv_at hl 1 rfl) ?_
  refine lv_iload hx hb dL_law_646 (lv_at hl 9 rfl) ?_
  refine sp_callm (va_runV (As := [.int (gT f r)]) (rest := [.ref (ad (429))]) ⟨hx, hb, hml, hown, hts⟩ (k_writeTrack l D ad cy pm rj σ xq hst _ hA.1 hbr hB hr) (cwV 1 hts gL_law_X9_writeTrack rfl rfl rfl (by decide +kernel) ⟨Nat.le_of_ble_eq_true rfl, Nat.le_of_ble_eq_true rfl⟩) (sp_preVmx hK hP (lwEX hE0 hA hS) (κ := 429) (by decide) cE_sp rfl) rfl rfl hl.1 rfl (lv_room (Nat.le_of_ble_eq_true rfl)) dL_law_648 ⟨by show _ ≤ 752875; omega, by show _ ≤ 6835470; omega⟩) hS (fun q _ h => lwAd hA hS q h) (fun q h => lwAd hA hS q h) (fun H locs hP hle hfr hS => ?_)
  have hTX := hTX.call hle hfr
  refine W.eq (g2 := F0 m 651 ls [.int (nI (lnT f n t (gT f r) (cN f n (gT f r))).length), .ref (ad (429))]) rfl ?_
  refine lv_aload hx hb dL_law_651 (lv_at hl 15 rfl) ?_
  have hw := OL.trkN hbr hB hr
  refine sp_callm (va_runS (As := [.ref (ad (429)), .int (nI (lnT f n t (gT f r) (cN f n (gT f r))).length), .ref tx]) (rest := []) ⟨hx, hb, hml, hown, hts⟩ (k_L_isLine l D ad cy pm rj (f_wrTn σ (ro r)) xq hst _ hA.1 tx (lnT f n t (gT f r) (cN f n (gT f r))) hw.2.1 hw.1 hw.2.2.1) (va_cwS 3 hts gL_law_L_isLine rfl rfl rfl (by decide +kernel) ⟨Nat.le_of_ble_eq_true rfl, Nat.le_of_ble_eq_true rfl⟩) (lPre hK hP (lwEX hE0 hA hS) hTX) rfl rfl hl.1 rfl (lv_room (Nat.le_of_ble_eq_true rfl)) dL_law_653 ⟨by show _ ≤ 752875; omega, by show _ ≤ 6835470; omega⟩) hS (fun q _ h => lwAd hA hS q h) (fun q h => lwAd hA hS q h) (fun H locs hP hle hfr hS => ?_)
  have hTX := hTX.call hle hfr
  refine W.eq (g2 := F0 m 656 ls [.int 1]) rfl ?_
  refine lv_if_ne (tgt := 661) hx hb dL_law_656 (by decide) (fun c_9 => ?_) (fun c_9 => absurd c_9 (by decide))
  refine W.widen (k := cells + 110) (n := slots + 700) (by omega) (by omega) ?_
  exact kk _ _ _ hP hS (lv_sub hl [0, 1, 2, 3, 4, 5, 6, 7, 8, 9, 10, 12] rfl)
set_option maxHeartbeats 4000000 in
set_option maxRecDepth 100000 in
theorem tC2 {tx : Nat} (E0 : LE p l s m c args b L xs D cy xq) (hA : LA9 s.heap.size ad) (hbr : BR σ f B n t pi ro) (hB : B < 1000000) {r : Nat} {v2 v5 v6 v8 : Int32} (hr : r < t) (h2 : 2 ≤ cN f n (gT f r)) (hc : cells + 110 ≤ 752875) (hs : slots + 700 ≤ 6835470) (hP : va_P D vwCl (cW ad cy pm rj σ) H) (hS : va_S (fun q => s.heap.size ≤ q) s.heap H locs) (hTX : TXs tx (lnT f n t (gT f r) (cN f n (gT f r))).length (fun j => (lnT f n t (gT f r) (cN f n (gT f r))).getD j 0) (sp_A ad 459 H.size) s H) (hl : lv_has ls 21 [(0, .ref b), (1, .ref (ad (429))), (2, .int v2), (3, .int (nI t)), (4, .int (nI n)), (5, .int v5), (6, .int v6), (7, .int (f 4)), (8, .int v8), (9, .int (gT f r)), (10, .int (nI (cN f n (gT f r)))), (11, .int (lenS f n (gT f r) (cN f n (gT f r)))), (12, .int (wrS f n t (gT f r) (cN f n (gT f r)))), (13, .int (fiS f n (gT f r) (cN f n (gT f r)))), (14, .int (laT f n (gT f r) (cN f n (gT f r)))), (15, .ref tx)]) (kk : ∀ (H1 : Heap) (locs1 : List Loc) (ls1 : Array Slot), va_P D vwCl (cW ad cy pm rj (f_wrTn σ (ro r))) H1 → va_S (fun q => s.heap.size ≤ q) s.heap H1 locs1 → lv_has ls1 21 [(0, .ref b), (1, .ref (ad (429))), (2, .int v2), (3, .int (nI t)), (4, .int (nI n)), (5, .int v5), (6, .int v6), (7, .int (f 4)), (8, .int v8), (9, .int (gT f r)), (10, .int (nI (cN f n (gT f r)))), (12, .int (m_errs f n t (gT f r)))] → W p l e room_1 s m args below meth c H1 locs1 (cells + 110) (slots + 700) Q (F0 m 661 ls1 [])) : W p l e room_1 s m args below meth c H locs (cells) (slots) Q (F0 m 536 ls []) := by
  have hE := E0
  obtain ⟨hx, hb, hml, hown, hts, htb, hX, hbl, hst, hK, hE0, hL⟩ := hE
  have hi := hA.1
  have hcl := cntN_le (tA f (gT f r)) n
  have h30 := hbr.n30
  have hcE : cN f n (gT f r) = cntN (tA f (gT f r)) n := rfl
  have hl : lv_has ls 21 [(0, .ref b), (1, .ref (ad (429))), (2, .int v2), (3, .int (nI t)), (4, .int (nI n)), (5, .int v5), (6, .int v6), (7, .int (f 4)), (8, .int v8), (9, .int (gT f r)), (10, .int (nI (cN f n (gT f r)))), (11, .int (m_len f n (gT f r))), (12, .int (wrS f n t (gT f r) (cN f n (gT f r)))), (13, .int (fiS f n (gT f r) (cN f n (gT f r)))), (14, .int (laT f n (gT f r) (cN f n (gT f r)))), (15, .ref tx)] := by rw [← lenS_all hbr.vx hbr.n30]; exact hl
  have hl : lv_has ls 21 [(0, .ref b), (1, .ref (ad (429))), (2, .int v2), (3, .int (nI t)), (4, .int (nI n)), (5, .int v5), (6, .int v6), (7, .int (f 4)), (8, .int v8), (9, .int (gT f r)), (10, .int (nI (cN f n (gT f r)))), (11, .int (m_len f n (gT f r))), (12, .int (m_errs f n t (gT f r))), (13, .int (fiS f n (gT f r) (cN f n (gT f r)))), (14, .int (laT f n (gT f r) (cN f n (gT f r)))), (15, .ref tx)] := by rw [← wrS_all hbr.vx hbr.n30]; exact hl
  refine lv_aload_n hx hb dL_law_536 rfl (lv_at hl 1 rfl) ?_
  refine lv_iload hx hb dL_law_537 (lv_at hl 9 rfl) ?_
  refine lv_iload hx hb dL_law_539 (lv_at hl 10 rfl) ?_
  refine sp_callm (vx_runSW (As := [.ref (ad (429)), .int (gT f r), .int (nI (cN f n (gT f r)))]) (rest := []) ⟨hx, hb, hml, hown, hts⟩ (k_L_printAt l D ad cy pm rj σ xq hst _ hA.1 hbr hr) (vx_cwSW 3 hts gL_law_L_printAt rfl rfl rfl (by decide +kernel) ⟨Nat.le_of_ble_eq_true rfl, Nat.le_of_ble_eq_true rfl⟩) (sp_preSmx hK hP (lwEX hE0 hA hS)) rfl rfl hl.1 rfl (lv_room (Nat.le_of_ble_eq_true rfl)) dL_law_541 ⟨by show _ ≤ 752875; omega, by show _ ≤ 6835470; omega⟩) hS (fun q _ h => lwAd hA hS q h) (fun q h => lwAd hA hS q h) (fun H locs hP hle hfr hS => ?_)
  have hTX := hTX.call hle hfr
  refine W.eq (g2 := F0 m 544 ls [.int (-30000 : Int32)]) rfl ?_
  refine lv_sipush (v := (-30000)) hx hb dL_law_544 (by decide) ?_
  refine lv_icmp_ne (tgt := 659) hx hb dL_law_547 (by decide) (fun c_1 => absurd rfl c_1) (fun c_1 => ?_)
  refine lv_aload_n hx hb dL_law_550 rfl (lv_at hl 1 rfl) ?_
  refine lv_iload hx hb dL_law_551 (lv_at hl 9 rfl) ?_
  refine sp_callm (va_runV (As := [.int (gT f r)]) (rest := []) ⟨hx, hb, hml, hown, hts⟩ (k_trackLength l D ad cy pm rj σ xq hst _ hA.1 hbr hr) (cwV 1 hts gL_law_X9_trackLength rfl rfl rfl (by decide +kernel) ⟨Nat.le_of_ble_eq_true rfl, Nat.le_of_ble_eq_true rfl⟩) (sp_preVmx hK hP (lwEX hE0 hA hS) (κ := 429) (by decide) cE_sp rfl) rfl rfl hl.1 rfl (lv_room (Nat.le_of_ble_eq_true rfl)) dL_law_553 ⟨by show _ ≤ 752875; omega, by show _ ≤ 6835470; omega⟩) hS (fun q _ h => lwAd hA hS q h) (fun q h => lwAd hA hS q h) (fun H locs hP hle hfr hS => ?_)
  have hTX := hTX.call hle hfr
  refine W.eq (g2 := F0 m 556 ls [.int (m_len f n (gT f r))]) rfl ?_
  refine lv_iload hx hb dL_law_556 (lv_at hl 11 rfl) ?_
  refine lv_icmp_ne (tgt := 659) hx hb dL_law_558 (by decide) (fun c_2 => absurd rfl c_2) (fun c_2 => ?_)
  refine lv_aload_n hx hb dL_law_561 rfl (lv_at hl 1 rfl) ?_
  refine lv_iload hx hb dL_law_562 (lv_at hl 9 rfl) ?_
  refine sp_callm (va_runV (As := [.int (gT f r)]) (rest := []) ⟨hx, hb, hml, hown, hts⟩ (k_trackLengthAgain l D ad cy pm rj σ xq hst _ hA.1 hbr hr) (cwV 1 hts gL_law_X9_trackLengthAgain rfl rfl rfl (by decide +kernel) ⟨Nat.le_of_ble_eq_true rfl, Nat.le_of_ble_eq_true rfl⟩) (sp_preVmx hK hP (lwEX hE0 hA hS) (κ := 429) (by decide) cE_sp rfl) rfl rfl hl.1 rfl (lv_room (Nat.le_of_ble_eq_true rfl)) dL_law_564 ⟨by show _ ≤ 752875; omega, by show _ ≤ 6835470; omega⟩) hS (fun q _ h => lwAd hA hS q h) (fun q h => lwAd hA hS q h) (fun H locs hP hle hfr hS => ?_)
  have hTX := hTX.call hle hfr
  refine W.eq (g2 := F0 m 567 ls [.int (m_len f n (gT f r))]) rfl ?_
  refine lv_iload hx hb dL_law_567 (lv_at hl 11 rfl) ?_
  refine lv_icmp_ne (tgt := 659) hx hb dL_law_569 (by decide) (fun c_3 => absurd rfl c_3) (fun c_3 => ?_)
  refine lv_aload_n hx hb dL_law_572 rfl (lv_at hl 1 rfl) ?_
  refine lv_iload hx hb dL_law_573 (lv_at hl 9 rfl) ?_
  refine sp_callm (va_runV (As := [.int (gT f r)]) (rest := []) ⟨hx, hb, hml, hown, hts⟩ (k_errorCount l D ad cy pm rj σ xq hst _ hA.1 hbr hr) (cwV 1 hts gL_law_X9_errorCount rfl rfl rfl (by decide +kernel) ⟨Nat.le_of_ble_eq_true rfl, Nat.le_of_ble_eq_true rfl⟩) (sp_preVmx hK hP (lwEX hE0 hA hS) (κ := 429) (by decide) cE_sp rfl) rfl rfl hl.1 rfl (lv_room (Nat.le_of_ble_eq_true rfl)) dL_law_575 ⟨by show _ ≤ 752875; omega, by show _ ≤ 6835470; omega⟩) hS (fun q _ h => lwAd hA hS q h) (fun q h => lwAd hA hS q h) (fun H locs hP hle hfr hS => ?_)
  have hTX := hTX.call hle hfr
  refine W.eq (g2 := F0 m 578 ls [.int (m_errs f n t (gT f r))]) rfl ?_
  refine lv_iload hx hb dL_law_578 (lv_at hl 12 rfl) ?_
  refine lv_icmp_ne (tgt := 659) hx hb dL_law_580 (by decide) (fun c_4 => absurd rfl c_4) (fun c_4 => ?_)
  refine lv_aload_n hx hb dL_law_583 rfl (lv_at hl 1 rfl) ?_
  refine lv_iload hx hb dL_law_584 (lv_at hl 9 rfl) ?_
  refine sp_callm (va_runV (As := [.int (gT f r)]) (rest := []) ⟨hx, hb, hml, hown, hts⟩ (k_errorCountAgain l D ad cy pm rj σ xq hst _ hA.1 hbr hr) (cwV 1 hts gL_law_X9_errorCountAgain rfl rfl rfl (by decide +kernel) ⟨Nat.le_of_ble_eq_true rfl, Nat.le_of_ble_eq_true rfl⟩) (sp_preVmx hK hP (lwEX hE0 hA hS) (κ := 429) (by decide) cE_sp rfl) rfl rfl hl.1 rfl (lv_room (Nat.le_of_ble_eq_true rfl)) dL_law_586 ⟨by show _ ≤ 752875; omega, by show _ ≤ 6835470; omega⟩) hS (fun q _ h => lwAd hA hS q h) (fun q h => lwAd hA hS q h) (fun H locs hP hle hfr hS => ?_)
  have hTX := hTX.call hle hfr
  refine W.eq (g2 := F0 m 589 ls [.int (m_errs f n t (gT f r))]) rfl ?_
  refine lv_iload hx hb dL_law_589 (lv_at hl 12 rfl) ?_
  refine lv_icmp_ne (tgt := 659) hx hb dL_law_591 (by decide) (fun c_5 => absurd rfl c_5) (fun c_5 => ?_)
  refine lv_aload_n hx hb dL_law_594 rfl (lv_at hl 1 rfl) ?_
  refine lv_iload hx hb dL_law_595 (lv_at hl 9 rfl) ?_
  refine sp_callm (vx_runSW (As := [.ref (ad (429)), .int (gT f r)]) (rest := []) ⟨hx, hb, hml, hown, hts⟩ (k_L_duration l D ad cy pm rj σ xq hst _ hA.1 hbr hr) (vx_cwSW 2 hts gL_law_L_duration rfl rfl rfl (by decide +kernel) ⟨Nat.le_of_ble_eq_true rfl, Nat.le_of_ble_eq_true rfl⟩) (sp_preSmx hK hP (lwEX hE0 hA hS)) rfl rfl hl.1 rfl (lv_room (Nat.le_of_ble_eq_true rfl)) dL_law_597 ⟨by show _ ≤ 752875; omega, by show _ ≤ 6835470; omega⟩) hS (fun q _ h => lwAd hA hS q h) (fun q h => lwAd hA hS q h) (fun H locs hP hle hfr hS => ?_)
  have hTX := hTX.call hle hfr
  refine W.eq (g2 := F0 m 600 ls [.int (eD9 f n (gT f r))]) rfl ?_
  refine lv_iload hx hb dL_law_600 (lv_at hl 10 rfl) ?_
  refine lv_if_ne (tgt := 611) hx hb dL_law_602 (by decide) (fun c_6 => ?_) (fun c_6 => absurd ((nI_eq (a := cN f n (gT f r)) (b := 0) (by omega) (by decide)).mp c_6) (by omega))
  refine lv_iload hx hb dL_law_611 (lv_at hl 14 rfl) ?_
  refine lv_iload hx hb dL_law_613 (lv_at hl 13 rfl) ?_
  refine lv_isub hx hb dL_law_615 ?_
  refine W.eq (g2 := F0 m 616 ls [.int (eD9 f n (gT f r)), .int (eD9 f n (gT f r))]) (by unfold eD9 laT fiS; rw [if_neg (show ¬ cN f n (gT f r) = 0 by omega), if_neg (show ¬ cN f n (gT f r) = 0 by omega), if_neg (show ¬ cN f n (gT f r) = 0 by omega)]) ?_
  refine lv_icmp_ne (tgt := 659) hx hb dL_law_616 (by decide) (fun c_7 => absurd rfl c_7) (fun c_7 => ?_)
  refine lv_iload hx hb dL_law_619 (lv_at hl 10 rfl) ?_
  refine lv_iconst (v := 1) hx hb dL_law_621 (by decide) ?_
  refine lv_icmp_le (tgt := 644) hx hb dL_law_622 (by decide) (fun c_8 => absurd ((nI_leI (a := cN f n (gT f r)) (b := 1) (by omega) (by decide)).mp c_8) (by omega)) (fun c_8 => ?_)
  refine lv_aload_n hx hb dL_law_625 rfl (lv_at hl 1 rfl) ?_
  refine lv_iload hx hb dL_law_626 (lv_at hl 9 rfl) ?_
  refine sp_callm (va_runV (As := [.int (gT f r)]) (rest := []) ⟨hx, hb, hml, hown, hts⟩ (k_averageStride l D ad cy pm rj σ xq hst _ hA.1 hbr hr h2) (cwV 1 hts gL_law_X9_averageStride rfl rfl rfl (by decide +kernel) ⟨Nat.le_of_ble_eq_true rfl, Nat.le_of_ble_eq_true rfl⟩) (sp_preVmx hK hP (lwEX hE0 hA hS) (κ := 429) (by decide) cE_sp rfl) rfl rfl hl.1 rfl (lv_room (Nat.le_of_ble_eq_true rfl)) dL_law_628 ⟨by show _ ≤ 752875; omega, by show _ ≤ 6835470; omega⟩) hS (fun q _ h => lwAd hA hS q h) (fun q h => lwAd hA hS q h) (fun H locs hP hle hfr hS => ?_)
  have hTX := hTX.call hle hfr
  refine W.eq (g2 := F0 m 631 ls [.double (FP.ddiv (FP.i2d (m_len f n (gT f r))) (FP.i2d (m_count f n (gT f r) - 1)))]) rfl ?_
  refine lv_iload hx hb dL_law_631 (lv_at hl 11 rfl) ?_
  refine lv_i2d hx hb dL_law_633 ?_
  refine lv_iload hx hb dL_law_634 (lv_at hl 10 rfl) ?_
  refine lv_iconst (v := 1) hx hb dL_law_636 (by decide) ?_
  refine lv_isub hx hb dL_law_637 ?_
  refine W.eq (g2 := F0 m 638 ls [.int (m_count f n (gT f r) - 1), .double (FP.i2d (m_len f n (gT f r))), .double (FP.ddiv (FP.i2d (m_len f n (gT f r))) (FP.i2d (m_count f n (gT f r) - 1)))]) (by rw [m_count_N]) ?_
  have hm2 : ¬ m_count f n (gT f r) < 2 := by rw [m_count_N]; exact nI_nlt (a := cntN (tA f (gT f r)) n) (b := 2) (by omega) (by omega)
  refine lv_i2d hx hb dL_law_638 ?_
  refine lv_ddiv hx hb dL_law_639 (hbr.avgN _ hm2) ?_
  refine lv_dcmp hx hb dL_law_640 ?_
  refine W.eq (g2 := F0 m 641 ls [.int (0)]) (by rw [avg_same hbr hr h2]; rfl) ?_
  refine lv_if_ne (tgt := 659) hx hb dL_law_641 (by decide) (fun c_9 => absurd rfl c_9) (fun c_9 => ?_)
  refine lv_aload_n hx hb dL_law_644 rfl (lv_at hl 1 rfl) ?_
  refine lv_aload_n hx hb dL_law_645 rfl (lv_at hl 1 rfl) ?_
  refine lv_iload hx hb dL_law_646 (lv_at hl 9 rfl) ?_
  refine sp_callm (va_runV (As := [.int (gT f r)]) (rest := [.ref (ad (429))]) ⟨hx, hb, hml, hown, hts⟩ (k_writeTrack l D ad cy pm rj σ xq hst _ hA.1 hbr hB hr) (cwV 1 hts gL_law_X9_writeTrack rfl rfl rfl (by decide +kernel) ⟨Nat.le_of_ble_eq_true rfl, Nat.le_of_ble_eq_true rfl⟩) (sp_preVmx hK hP (lwEX hE0 hA hS) (κ := 429) (by decide) cE_sp rfl) rfl rfl hl.1 rfl (lv_room (Nat.le_of_ble_eq_true rfl)) dL_law_648 ⟨by show _ ≤ 752875; omega, by show _ ≤ 6835470; omega⟩) hS (fun q _ h => lwAd hA hS q h) (fun q h => lwAd hA hS q h) (fun H locs hP hle hfr hS => ?_)
  have hTX := hTX.call hle hfr
  refine W.eq (g2 := F0 m 651 ls [.int (nI (lnT f n t (gT f r) (cN f n (gT f r))).length), .ref (ad (429))]) rfl ?_
  refine lv_aload hx hb dL_law_651 (lv_at hl 15 rfl) ?_
  have hw := OL.trkN hbr hB hr
  refine sp_callm (va_runS (As := [.ref (ad (429)), .int (nI (lnT f n t (gT f r) (cN f n (gT f r))).length), .ref tx]) (rest := []) ⟨hx, hb, hml, hown, hts⟩ (k_L_isLine l D ad cy pm rj (f_wrTn σ (ro r)) xq hst _ hA.1 tx (lnT f n t (gT f r) (cN f n (gT f r))) hw.2.1 hw.1 hw.2.2.1) (va_cwS 3 hts gL_law_L_isLine rfl rfl rfl (by decide +kernel) ⟨Nat.le_of_ble_eq_true rfl, Nat.le_of_ble_eq_true rfl⟩) (lPre hK hP (lwEX hE0 hA hS) hTX) rfl rfl hl.1 rfl (lv_room (Nat.le_of_ble_eq_true rfl)) dL_law_653 ⟨by show _ ≤ 752875; omega, by show _ ≤ 6835470; omega⟩) hS (fun q _ h => lwAd hA hS q h) (fun q h => lwAd hA hS q h) (fun H locs hP hle hfr hS => ?_)
  have hTX := hTX.call hle hfr
  refine W.eq (g2 := F0 m 656 ls [.int 1]) rfl ?_
  refine lv_if_ne (tgt := 661) hx hb dL_law_656 (by decide) (fun c_10 => ?_) (fun c_10 => absurd c_10 (by decide))
  refine W.widen (k := cells + 110) (n := slots + 700) (by omega) (by omega) ?_
  exact kk _ _ _ hP hS (lv_sub hl [0, 1, 2, 3, 4, 5, 6, 7, 8, 9, 10, 12] rfl)
set_option maxHeartbeats 4000000 in
set_option maxRecDepth 100000 in
theorem tD0 (E0 : LE p l s m c args b L xs D cy xq) (hA : LA9 s.heap.size ad) (hbr : BR σ f B n t pi ro) (hB : B < 1000000) {v2 v5 v6 : Int32}  (hc : cells + 6 ≤ 752875) (hs : slots + 40 ≤ 6835470) (hP : va_P D vwCl (cW ad cy pm rj σ) H) (hS : va_S (fun q => s.heap.size ≤ q) s.heap H locs) (hl : lv_has ls 21 [(0, .ref b), (1, .ref (ad (429))), (2, .int v2), (3, .int (nI t)), (4, .int (nI n)), (5, .int v5), (6, .int v6), (7, .int (f 4)), (8, .int (nI 0)), (9, .int (gT f (plT f n t 0))), (10, .int (nI (cN f n (gT f (plT f n t 0))))), (12, .int (m_errs f n t (gT f (plT f n t 0))))]) (kk : ∀ (H1 : Heap) (locs1 : List Loc) (ls1 : Array Slot), va_P D vwCl (cW ad cy pm rj σ) H1 → va_S (fun q => s.heap.size ≤ q) s.heap H1 locs1 → lv_has ls1 21 [(0, .ref b), (1, .ref (ad (429))), (2, .int v2), (3, .int (nI t)), (4, .int (nI n)), (5, .int v5), (6, .int v6), (7, .int (f 4)), (8, .int (nI (0 + 1)))] → W p l e room_1 s m args below meth c H1 locs1 (cells + 6) (slots + 40) Q (F0 m 46 ls1 [])) : W p l e room_1 s m args below meth c H locs (cells) (slots) Q (F0 m 661 ls []) := by
  have hE := E0
  obtain ⟨hx, hb, hml, hown, hts, htb, hX, hbl, hst, hK, hE0, hL⟩ := hE
  have hi := hA.1
  refine lv_iload hx hb dL_law_661 (lv_at hl 8 rfl) ?_
  refine lv_if_ne (tgt := 669) hx hb dL_law_663 (by decide) (fun c_1 => absurd rfl c_1) (fun c_1 => ?_)
  refine lv_goto (tgt := 730) hx hb dL_law_666 (by decide) ?_
  refine lv_iinc (v := nI (0 + 1)) (lv' := [(8, .int (nI (0 + 1))), (0, .ref b), (1, .ref (ad (429))), (2, .int v2), (3, .int (nI t)), (4, .int (nI n)), (5, .int v5), (6, .int v6), (7, .int (f 4)), (9, .int (gT f (plT f n t 0))), (10, .int (nI (cN f n (gT f (plT f n t 0))))), (12, .int (m_errs f n t (gT f (plT f n t 0))))]) hx hb dL_law_730 hl (k := 8) rfl (nI_1 _) (by decide) rfl (fun ls hl => ?_)
  refine lv_goto (tgt := 46) hx hb dL_law_733 (by decide) ?_
  refine W.widen (k := cells + 6) (n := slots + 40) (by omega) (by omega) ?_
  exact kk _ _ _ hP hS (lv_sub hl [1, 2, 3, 4, 5, 6, 7, 8, 0] rfl)
set_option maxHeartbeats 4000000 in
set_option maxRecDepth 100000 in
theorem tD1 (E0 : LE p l s m c args b L xs D cy xq) (hA : LA9 s.heap.size ad) (hbr : BR σ f B n t pi ro) (hB : B < 1000000) {i : Nat} {v2 v5 v6 : Int32} (hi9 : i + 1 < t) (hc : cells + 6 ≤ 752875) (hs : slots + 40 ≤ 6835470) (hP : va_P D vwCl (cW ad cy pm rj σ) H) (hS : va_S (fun q => s.heap.size ≤ q) s.heap H locs) (hl : lv_has ls 21 [(0, .ref b), (1, .ref (ad (429))), (2, .int v2), (3, .int (nI t)), (4, .int (nI n)), (5, .int v5), (6, .int v6), (7, .int (f 4)), (8, .int (nI (i + 1))), (9, .int (gT f (plT f n t (i + 1)))), (10, .int (nI (cN f n (gT f (plT f n t (i + 1)))))), (12, .int (m_errs f n t (gT f (plT f n t (i + 1)))))]) (kk : ∀ (H1 : Heap) (locs1 : List Loc) (ls1 : Array Slot), va_P D vwCl (cW ad cy pm rj σ) H1 → va_S (fun q => s.heap.size ≤ q) s.heap H1 locs1 → lv_has ls1 21 [(0, .ref b), (1, .ref (ad (429))), (2, .int v2), (3, .int (nI t)), (4, .int (nI n)), (5, .int v5), (6, .int v6), (7, .int (f 4)), (8, .int (nI ((i + 1) + 1)))] → W p l e room_1 s m args below meth c H1 locs1 (cells + 6) (slots + 40) Q (F0 m 46 ls1 [])) : W p l e room_1 s m args below meth c H locs (cells) (slots) Q (F0 m 661 ls []) := by
  have hE := E0
  obtain ⟨hx, hb, hml, hown, hts, htb, hX, hbl, hst, hK, hE0, hL⟩ := hE
  have hi := hA.1
  refine lv_iload hx hb dL_law_661 (lv_at hl 8 rfl) ?_
  refine lv_if_ne (tgt := 669) hx hb dL_law_663 (by decide) (fun c_1 => ?_) (fun c_1 => absurd ((nI_eq (a := i + 1) (b := 0) (by have := hbr.t6; omega) (by decide)).mp c_1) (by omega))
  refine lv_aload_n hx hb dL_law_669 rfl (lv_at hl 1 rfl) ?_
  refine lv_iload hx hb dL_law_670 (lv_at hl 8 rfl) ?_
  refine lv_iconst (v := 1) hx hb dL_law_672 (by decide) ?_
  refine lv_isub hx hb dL_law_673 ?_
  refine W.eq (g2 := F0 m 674 ls [.int (nI i), .ref (ad (429))]) (by rw [show nI (i + 1) - 1 = nI i from nI_subE (a := i + 1) (b := 1) rfl rfl (by omega)]) ?_
  have hr := (plT_ok (f := f) hbr.n30 hbr.t6 (show i < t by omega)).2.1
  obtain ⟨o1, o2⟩ := te_ord hbr.vx hbr.n30 hbr.t6 hi9
  simp only [m_count_N] at o2
  refine sp_callm (va_runV (As := [.int (nI i)]) (rest := []) ⟨hx, hb, hml, hown, hts⟩ (k_trackByErrors l D ad cy pm rj σ xq hst _ hA.1 hbr (show i < t by omega)) (cwV 1 hts gL_law_X9_trackByErrors rfl rfl rfl (by decide +kernel) ⟨Nat.le_of_ble_eq_true rfl, Nat.le_of_ble_eq_true rfl⟩) (sp_preVmx hK hP (lwEX hE0 hA hS) (κ := 429) (by decide) cE_sp rfl) rfl rfl hl.1 rfl (lv_room (Nat.le_of_ble_eq_true rfl)) dL_law_674 ⟨by show _ ≤ 752875; omega, by show _ ≤ 6835470; omega⟩) hS (fun q _ h => lwAd hA hS q h) (fun q h => lwAd hA hS q h) (fun H locs hP hle hfr hS => ?_)
  refine W.eq (g2 := F0 m 677 ls [.int (gT f (plT f n t i))]) rfl ?_
  refine lv_istore (lv' := [(16, .int (gT f (plT f n t i))), (0, .ref b), (1, .ref (ad (429))), (2, .int v2), (3, .int (nI t)), (4, .int (nI n)), (5, .int v5), (6, .int v6), (7, .int (f 4)), (8, .int (nI (i + 1))), (9, .int (gT f (plT f n t (i + 1)))), (10, .int (nI (cN f n (gT f (plT f n t (i + 1)))))), (12, .int (m_errs f n t (gT f (plT f n t (i + 1)))))]) hx hb dL_law_677 hl (by decide) rfl (fun ls hl => ?_)
  refine lv_aload_n hx hb dL_law_679 rfl (lv_at hl 2 rfl) ?_
  refine lv_iload hx hb dL_law_680 (lv_at hl 0 rfl) ?_
  refine sp_callm (va_runV (As := [.int (gT f (plT f n t i))]) (rest := []) ⟨hx, hb, hml, hown, hts⟩ (k_errorCount l D ad cy pm rj σ xq hst _ hA.1 hbr hr) (cwV 1 hts gL_law_X9_errorCount rfl rfl rfl (by decide +kernel) ⟨Nat.le_of_ble_eq_true rfl, Nat.le_of_ble_eq_true rfl⟩) (sp_preVmx hK hP (lwEX hE0 hA hS) (κ := 429) (by decide) cE_sp rfl) rfl rfl hl.1 rfl (lv_room (Nat.le_of_ble_eq_true rfl)) dL_law_682 ⟨by show _ ≤ 752875; omega, by show _ ≤ 6835470; omega⟩) hS (fun q _ h => lwAd hA hS q h) (fun q h => lwAd hA hS q h) (fun H locs hP hle hfr hS => ?_)
  refine W.eq (g2 := F0 m 685 ls [.int (m_errs f n t (gT f (plT f n t i)))]) rfl ?_
  refine lv_iload hx hb dL_law_685 (lv_at hl 12 rfl) ?_
  refine lv_isub hx hb dL_law_687 ?_
  refine lv_istore (lv' := [(17, .int ((m_errs f n t (gT f (plT f n t i))) - (m_errs f n t (gT f (plT f n t (i + 1)))))), (16, .int (gT f (plT f n t i))), (0, .ref b), (1, .ref (ad (429))), (2, .int v2), (3, .int (nI t)), (4, .int (nI n)), (5, .int v5), (6, .int v6), (7, .int (f 4)), (8, .int (nI (i + 1))), (9, .int (gT f (plT f n t (i + 1)))), (10, .int (nI (cN f n (gT f (plT f n t (i + 1)))))), (12, .int (m_errs f n t (gT f (plT f n t (i + 1)))))]) hx hb dL_law_688 hl (by decide) rfl (fun ls hl => ?_)
  refine lv_aload_n hx hb dL_law_690 rfl (lv_at hl 3 rfl) ?_
  refine lv_iload hx hb dL_law_691 (lv_at hl 1 rfl) ?_
  refine sp_callm (va_runV (As := [.int (gT f (plT f n t i))]) (rest := []) ⟨hx, hb, hml, hown, hts⟩ (k_printCount l D ad cy pm rj σ xq hst _ hA.1 hbr hr) (cwV 1 hts gL_law_X9_printCount rfl rfl rfl (by decide +kernel) ⟨Nat.le_of_ble_eq_true rfl, Nat.le_of_ble_eq_true rfl⟩) (sp_preVmx hK hP (lwEX hE0 hA hS) (κ := 429) (by decide) cE_sp rfl) rfl rfl hl.1 rfl (lv_room (Nat.le_of_ble_eq_true rfl)) dL_law_693 ⟨by show _ ≤ 752875; omega, by show _ ≤ 6835470; omega⟩) hS (fun q _ h => lwAd hA hS q h) (fun q h => lwAd hA hS q h) (fun H locs hP hle hfr hS => ?_)
  refine W.eq (g2 := F0 m 696 ls [.int (nI (cN f n (gT f (plT f n t i))))]) rfl ?_
  refine lv_iload hx hb dL_law_696 (lv_at hl 12 rfl) ?_
  refine lv_isub hx hb dL_law_698 ?_
  refine lv_istore (lv' := [(18, .int ((nI (cN f n (gT f (plT f n t i)))) - (nI (cN f n (gT f (plT f n t (i + 1))))))), (17, .int ((m_errs f n t (gT f (plT f n t i))) - (m_errs f n t (gT f (plT f n t (i + 1)))))), (16, .int (gT f (plT f n t i))), (0, .ref b), (1, .ref (ad (429))), (2, .int v2), (3, .int (nI t)), (4, .int (nI n)), (5, .int v5), (6, .int v6), (7, .int (f 4)), (8, .int (nI (i + 1))), (9, .int (gT f (plT f n t (i + 1)))), (10, .int (nI (cN f n (gT f (plT f n t (i + 1)))))), (12, .int (m_errs f n t (gT f (plT f n t (i + 1)))))]) hx hb dL_law_699 hl (by decide) rfl (fun ls hl => ?_)
  refine lv_iload hx hb dL_law_701 (lv_at hl 1 rfl) ?_
  refine lv_if_lt (tgt := 728) hx hb dL_law_703 (by decide) (fun c_2 => absurd c_2 o1) (fun c_2 => ?_)
  refine lv_iload hx hb dL_law_706 (lv_at hl 1 rfl) ?_
  refine lv_if_ne (tgt := 730) hx hb dL_law_708 (by decide) (fun c_3 => ?_) (fun c_3 => ?_)
  · skip
    refine lv_iinc (v := nI ((i + 1) + 1)) (lv' := [(8, .int (nI ((i + 1) + 1))), (18, .int ((nI (cN f n (gT f (plT f n t i)))) - (nI (cN f n (gT f (plT f n t (i + 1))))))), (17, .int ((m_errs f n t (gT f (plT f n t i))) - (m_errs f n t (gT f (plT f n t (i + 1)))))), (16, .int (gT f (plT f n t i))), (0, .ref b), (1, .ref (ad (429))), (2, .int v2), (3, .int (nI t)), (4, .int (nI n)), (5, .int v5), (6, .int v6), (7, .int (f 4)), (9, .int (gT f (plT f n t (i + 1)))), (10, .int (nI (cN f n (gT f (plT f n t (i + 1)))))), (12, .int (m_errs f n t (gT f (plT f n t (i + 1)))))]) hx hb dL_law_730 hl (k := 11) rfl (nI_1 _) (by decide) rfl (fun ls hl => ?_)
    refine lv_goto (tgt := 46) hx hb dL_law_733 (by decide) ?_
    refine W.widen (k := cells + 6) (n := slots + 40) (by omega) (by omega) ?_
    exact kk _ _ _ hP hS (lv_sub hl [4, 5, 6, 7, 8, 9, 10, 11, 0] rfl)
  · skip
    obtain ⟨o3, o4⟩ := o2 (c_3)
    refine lv_iload hx hb dL_law_711 (lv_at hl 0 rfl) ?_
    refine lv_if_lt (tgt := 728) hx hb dL_law_713 (by decide) (fun c_4 => absurd c_4 o3) (fun c_4 => ?_)
    refine lv_iload hx hb dL_law_716 (lv_at hl 0 rfl) ?_
    refine lv_if_ne (tgt := 730) hx hb dL_law_718 (by decide) (fun c_5 => ?_) (fun c_5 => ?_)
    · skip
      refine lv_iinc (v := nI ((i + 1) + 1)) (lv' := [(8, .int (nI ((i + 1) + 1))), (18, .int ((nI (cN f n (gT f (plT f n t i)))) - (nI (cN f n (gT f (plT f n t (i + 1))))))), (17, .int ((m_errs f n t (gT f (plT f n t i))) - (m_errs f n t (gT f (plT f n t (i + 1)))))), (16, .int (gT f (plT f n t i))), (0, .ref b), (1, .ref (ad (429))), (2, .int v2), (3, .int (nI t)), (4, .int (nI n)), (5, .int v5), (6, .int v6), (7, .int (f 4)), (9, .int (gT f (plT f n t (i + 1)))), (10, .int (nI (cN f n (gT f (plT f n t (i + 1)))))), (12, .int (m_errs f n t (gT f (plT f n t (i + 1)))))]) hx hb dL_law_730 hl (k := 11) rfl (nI_1 _) (by decide) rfl (fun ls hl => ?_)
      refine lv_goto (tgt := 46) hx hb dL_law_733 (by decide) ?_
      refine W.widen (k := cells + 6) (n := slots + 40) (by omega) (by omega) ?_
      exact kk _ _ _ hP hS (lv_sub hl [4, 5, 6, 7, 8, 9, 10, 11, 0] rfl)
    · skip
      have o5 := o4 (c_5)
      refine lv_iload hx hb dL_law_721 (lv_at hl 2 rfl) ?_
      refine lv_iload hx hb dL_law_723 (lv_at hl 12 rfl) ?_
      refine lv_icmp_le (tgt := 730) hx hb dL_law_725 (by decide) (fun c_6 => ?_) (fun c_6 => absurd (Int32.not_lt.mp o5) c_6)
      refine lv_iinc (v := nI ((i + 1) + 1)) (lv' := [(8, .int (nI ((i + 1) + 1))), (18, .int ((nI (cN f n (gT f (plT f n t i)))) - (nI (cN f n (gT f (plT f n t (i + 1))))))), (17, .int ((m_errs f n t (gT f (plT f n t i))) - (m_errs f n t (gT f (plT f n t (i + 1)))))), (16, .int (gT f (plT f n t i))), (0, .ref b), (1, .ref (ad (429))), (2, .int v2), (3, .int (nI t)), (4, .int (nI n)), (5, .int v5), (6, .int v6), (7, .int (f 4)), (9, .int (gT f (plT f n t (i + 1)))), (10, .int (nI (cN f n (gT f (plT f n t (i + 1)))))), (12, .int (m_errs f n t (gT f (plT f n t (i + 1)))))]) hx hb dL_law_730 hl (k := 11) rfl (nI_1 _) (by decide) rfl (fun ls hl => ?_)
      refine lv_goto (tgt := 46) hx hb dL_law_733 (by decide) ?_
      refine W.widen (k := cells + 6) (n := slots + 40) (by omega) (by omega) ?_
      exact kk _ _ _ hP hS (lv_sub hl [4, 5, 6, 7, 8, 9, 10, 11, 0] rfl)
end LST
