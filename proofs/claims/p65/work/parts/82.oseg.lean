/-! CHECKS OF THE WHOLE BEACH; PRINTS IN THEIR ORDER -/
set_option maxRecDepth 100000 in
theorem late_f : ∀ a, a < 31 → ∀ b, b < 31 → 1 ≤ b → FP.fcmp (FP.fdiv (FP.i2f (nI a)) (FP.i2f (nI b))) (FP.fdiv (FP.i2f (nI a)) (FP.i2f (nI b))) = some .eq := by decide +kernel
theorem late_same {σ : Nat → Nat → Int32} {f : Nat → Int32} {B n t : Nat} {pi ro : Nat → Nat} (h : BR σ f B n t pi ro) (hn : 0 < n) : FP.fcmp (FP.fdiv (FP.i2f (sumI (mF_late f) n)) (FP.i2f (nI n))) (FP.fdiv (FP.i2f (sumI (mF_late f) n)) (FP.i2f (nI n))) = some .eq := by
  obtain ⟨d, hd, e⟩ := h.vx.late_nat
  have h30 := h.n30
  rw [e]
  exact late_f d (by omega) n (by omega) hn
section LSE
variable {p : Program} {l : Launch} {e : Env} {s : State} {m : MethodId} {args : Array Value} {below : List Frame} {meth : Method} {c : Code} {Q : State → Prop} {b L : Nat} {xs : Nat → Int32} {D : va_G} {cy : Nat → ClassId} {xq ad : Nat → Nat} {pm : Nat → Nat} {rj : Option Nat} {σ : Nat → Nat → Int32} {f : Nat → Int32} {B n t : Nat} {pi ro : Nat → Nat} {H : Heap} {locs : List Loc} {cells slots : Nat} {ls : Array Slot}
set_option maxHeartbeats 4000000 in
set_option maxRecDepth 100000 in
theorem eA0 (E0 : LE p l s m c args b L xs D cy xq) (hA : LA9 s.heap.size ad) (hbr : BR σ f B n t pi ro) (hB : B < 1000000) {v2 : Int32} (hn0 : n = 0) (hc : cells + 10 ≤ 752875) (hs : slots + 60 ≤ 6835470) (hP : va_P D vwCl (cW ad cy pm rj σ) H) (hS : va_S (fun q => s.heap.size ≤ q) s.heap H locs) (hl : lv_has ls 21 [(0, .ref b), (1, .ref (ad (429))), (2, .int v2), (3, .int (nI t)), (4, .int (nI n)), (5, .int (nI n)), (6, .int (sumI (mF_late f) n)), (7, .int (f 4)), (8, .int (nI n))]) (kk : ∀ (H1 : Heap) (locs1 : List Loc) (ls1 : Array Slot), va_P D vwCl (cW ad cy pm rj σ) H1 → va_S (fun q => s.heap.size ≤ q) s.heap H1 locs1 → lv_has ls1 21 [(0, .ref b), (1, .ref (ad (429))), (2, .int v2), (3, .int (nI t)), (4, .int (nI n)), (7, .int (f 4))] → W p l e room_1 s m args below meth c H1 locs1 (cells + 10) (slots + 60) Q (F0 m 989 ls1 [])) : W p l e room_1 s m args below meth c H locs (cells) (slots) Q (F0 m 923 ls []) := by
  have hE := E0
  obtain ⟨hx, hb, hml, hown, hts, htb, hX, hbl, hst, hK, hE0, hL⟩ := hE
  have hi := hA.1
  have h30 := hbr.n30
  refine lv_iload hx hb dL_law_923 (lv_at hl 5 rfl) ?_
  refine lv_iload hx hb dL_law_925 (lv_at hl 4 rfl) ?_
  refine lv_icmp_ne (tgt := 987) hx hb dL_law_927 (by decide) (fun c_1 => absurd rfl c_1) (fun c_1 => ?_)
  refine lv_iload hx hb dL_law_930 (lv_at hl 8 rfl) ?_
  refine lv_iload hx hb dL_law_932 (lv_at hl 4 rfl) ?_
  refine lv_icmp_ne (tgt := 987) hx hb dL_law_934 (by decide) (fun c_2 => absurd rfl c_2) (fun c_2 => ?_)
  refine lv_iload hx hb dL_law_937 (lv_at hl 4 rfl) ?_
  refine lv_if_le (tgt := 957) hx hb dL_law_939 (by decide) (fun c_3 => ?_) (fun c_3 => absurd (show nI n ≤ 0 by rw [hn0]; decide) c_3)
  refine lv_aload_n hx hb dL_law_957 rfl (lv_at hl 1 rfl) ?_
  refine sp_call (W.runV (As := []) (rest := []) ⟨hx, hb, hml, hown, hts⟩ (k_isConsistent l D ad cy pm rj σ hA.1 hbr hB) (cwV 0 hts gL_law_X9_isConsistent rfl rfl rfl (by decide +kernel) ⟨Nat.le_of_ble_eq_true rfl, Nat.le_of_ble_eq_true rfl⟩) (sp_preV hK hP (κ := 429) (by decide) cE_sp rfl) rfl rfl hl.1 rfl (lv_room (Nat.le_of_ble_eq_true rfl)) dL_law_958 ⟨by show _ ≤ 752875; omega, by show _ ≤ 6835470; omega⟩) ?_
  refine W.eq (g2 := F0 m 961 ls [.int 1]) rfl ?_
  refine lv_if_eq (tgt := 987) hx hb dL_law_961 (by decide) (fun c_4 => absurd c_4 (by decide)) (fun c_4 => ?_)
  refine lv_aload_n hx hb dL_law_964 rfl (lv_at hl 1 rfl) ?_
  refine lv_iload_n hx hb dL_law_965 rfl (lv_at hl 3 rfl) ?_
  refine sp_callm (vx_runSW (As := [.ref (ad (429)), .int (nI t)]) (rest := []) ⟨hx, hb, hml, hown, hts⟩ (k_L_trackByErrors l D ad cy pm rj σ xq hst _ hA.1 hbr ) (vx_cwSW 2 hts gL_law_L_trackByErrors rfl rfl rfl (by decide +kernel) ⟨Nat.le_of_ble_eq_true rfl, Nat.le_of_ble_eq_true rfl⟩) (sp_preSmx hK hP (lwEX hE0 hA hS)) rfl rfl hl.1 rfl (lv_room (Nat.le_of_ble_eq_true rfl)) dL_law_966 ⟨by show _ ≤ 752875; omega, by show _ ≤ 6835470; omega⟩) hS (fun q _ h => lwAd hA hS q h) (fun q h => lwAd hA hS q h) (fun H locs hP hle hfr hS => ?_)
  refine W.eq (g2 := F0 m 969 ls [.int (-30000 : Int32)]) rfl ?_
  refine lv_sipush (v := (-30000)) hx hb dL_law_969 (by decide) ?_
  refine lv_icmp_ne (tgt := 987) hx hb dL_law_972 (by decide) (fun c_5 => absurd rfl c_5) (fun c_5 => ?_)
  refine lv_aload_n hx hb dL_law_975 rfl (lv_at hl 1 rfl) ?_
  refine lv_iload hx hb dL_law_976 (lv_at hl 4 rfl) ?_
  refine sp_callm (vx_runSW (As := [.ref (ad (429)), .int (nI n)]) (rest := []) ⟨hx, hb, hml, hown, hts⟩ (k_L_printByDoubts l D ad cy pm rj σ xq hst _ hA.1 hbr ) (vx_cwSW 2 hts gL_law_L_printByDoubts rfl rfl rfl (by decide +kernel) ⟨Nat.le_of_ble_eq_true rfl, Nat.le_of_ble_eq_true rfl⟩) (sp_preSmx hK hP (lwEX hE0 hA hS)) rfl rfl hl.1 rfl (lv_room (Nat.le_of_ble_eq_true rfl)) dL_law_978 ⟨by show _ ≤ 752875; omega, by show _ ≤ 6835470; omega⟩) hS (fun q _ h => lwAd hA hS q h) (fun q h => lwAd hA hS q h) (fun H locs hP hle hfr hS => ?_)
  refine W.eq (g2 := F0 m 981 ls [.int (-30000 : Int32)]) rfl ?_
  refine lv_sipush (v := (-30000)) hx hb dL_law_981 (by decide) ?_
  refine lv_icmp_eq (tgt := 989) hx hb dL_law_984 (by decide) (fun c_6 => ?_) (fun c_6 => absurd rfl c_6)
  refine W.widen (k := cells + 10) (n := slots + 60) (by omega) (by omega) ?_
  exact kk _ _ _ hP hS (lv_sub hl [0, 1, 2, 3, 4, 7] rfl)
set_option maxHeartbeats 4000000 in
set_option maxRecDepth 100000 in
theorem eA1 (E0 : LE p l s m c args b L xs D cy xq) (hA : LA9 s.heap.size ad) (hbr : BR σ f B n t pi ro) (hB : B < 1000000) {v2 : Int32} (hn0 : 0 < n) (hc : cells + 10 ≤ 752875) (hs : slots + 60 ≤ 6835470) (hP : va_P D vwCl (cW ad cy pm rj σ) H) (hS : va_S (fun q => s.heap.size ≤ q) s.heap H locs) (hl : lv_has ls 21 [(0, .ref b), (1, .ref (ad (429))), (2, .int v2), (3, .int (nI t)), (4, .int (nI n)), (5, .int (nI n)), (6, .int (sumI (mF_late f) n)), (7, .int (f 4)), (8, .int (nI n))]) (kk : ∀ (H1 : Heap) (locs1 : List Loc) (ls1 : Array Slot), va_P D vwCl (cW ad cy pm rj σ) H1 → va_S (fun q => s.heap.size ≤ q) s.heap H1 locs1 → lv_has ls1 21 [(0, .ref b), (1, .ref (ad (429))), (2, .int v2), (3, .int (nI t)), (4, .int (nI n)), (7, .int (f 4))] → W p l e room_1 s m args below meth c H1 locs1 (cells + 10) (slots + 60) Q (F0 m 989 ls1 [])) : W p l e room_1 s m args below meth c H locs (cells) (slots) Q (F0 m 923 ls []) := by
  have hE := E0
  obtain ⟨hx, hb, hml, hown, hts, htb, hX, hbl, hst, hK, hE0, hL⟩ := hE
  have hi := hA.1
  have h30 := hbr.n30
  refine lv_iload hx hb dL_law_923 (lv_at hl 5 rfl) ?_
  refine lv_iload hx hb dL_law_925 (lv_at hl 4 rfl) ?_
  refine lv_icmp_ne (tgt := 987) hx hb dL_law_927 (by decide) (fun c_1 => absurd rfl c_1) (fun c_1 => ?_)
  refine lv_iload hx hb dL_law_930 (lv_at hl 8 rfl) ?_
  refine lv_iload hx hb dL_law_932 (lv_at hl 4 rfl) ?_
  refine lv_icmp_ne (tgt := 987) hx hb dL_law_934 (by decide) (fun c_2 => absurd rfl c_2) (fun c_2 => ?_)
  refine lv_iload hx hb dL_law_937 (lv_at hl 4 rfl) ?_
  refine lv_if_le (tgt := 957) hx hb dL_law_939 (by decide) (fun c_3 => absurd ((nI_leI (a := n) (b := 0) (by omega) (by decide)).mp c_3) (by omega)) (fun c_3 => ?_)
  refine lv_aload_n hx hb dL_law_942 rfl (lv_at hl 1 rfl) ?_
  refine sp_callm (va_runV (As := []) (rest := []) ⟨hx, hb, hml, hown, hts⟩ (k_lateShare l D ad cy pm rj σ xq hst _ hA.1 hbr hn0) (cwV 0 hts gL_law_X9_lateShare rfl rfl rfl (by decide +kernel) ⟨Nat.le_of_ble_eq_true rfl, Nat.le_of_ble_eq_true rfl⟩) (sp_preVmx hK hP (lwEX hE0 hA hS) (κ := 429) (by decide) cE_sp rfl) rfl rfl hl.1 rfl (lv_room (Nat.le_of_ble_eq_true rfl)) dL_law_943 ⟨by show _ ≤ 752875; omega, by show _ ≤ 6835470; omega⟩) hS (fun q _ h => lwAd hA hS q h) (fun q h => lwAd hA hS q h) (fun H locs hP hle hfr hS => ?_)
  refine W.eq (g2 := F0 m 946 ls [.float (FP.fdiv (FP.i2f (sumI (mF_late f) n)) (FP.i2f (nI n)))]) rfl ?_
  refine lv_iload hx hb dL_law_946 (lv_at hl 6 rfl) ?_
  refine lv_i2f hx hb dL_law_948 ?_
  refine lv_iload hx hb dL_law_949 (lv_at hl 4 rfl) ?_
  refine lv_i2f hx hb dL_law_951 ?_
  refine lv_fdiv hx hb dL_law_952 (hbr.lateM (nI_lt (a := 0) hn0 (by omega))) ?_
  refine lv_fcmp hx hb dL_law_953 ?_
  refine W.eq (g2 := F0 m 954 ls [.int (0)]) (by rw [late_same hbr hn0]; rfl) ?_
  refine lv_if_ne (tgt := 987) hx hb dL_law_954 (by decide) (fun c_4 => absurd rfl c_4) (fun c_4 => ?_)
  refine lv_aload_n hx hb dL_law_957 rfl (lv_at hl 1 rfl) ?_
  refine sp_call (W.runV (As := []) (rest := []) ⟨hx, hb, hml, hown, hts⟩ (k_isConsistent l D ad cy pm rj σ hA.1 hbr hB) (cwV 0 hts gL_law_X9_isConsistent rfl rfl rfl (by decide +kernel) ⟨Nat.le_of_ble_eq_true rfl, Nat.le_of_ble_eq_true rfl⟩) (sp_preV hK hP (κ := 429) (by decide) cE_sp rfl) rfl rfl hl.1 rfl (lv_room (Nat.le_of_ble_eq_true rfl)) dL_law_958 ⟨by show _ ≤ 752875; omega, by show _ ≤ 6835470; omega⟩) ?_
  refine W.eq (g2 := F0 m 961 ls [.int 1]) rfl ?_
  refine lv_if_eq (tgt := 987) hx hb dL_law_961 (by decide) (fun c_5 => absurd c_5 (by decide)) (fun c_5 => ?_)
  refine lv_aload_n hx hb dL_law_964 rfl (lv_at hl 1 rfl) ?_
  refine lv_iload_n hx hb dL_law_965 rfl (lv_at hl 3 rfl) ?_
  refine sp_callm (vx_runSW (As := [.ref (ad (429)), .int (nI t)]) (rest := []) ⟨hx, hb, hml, hown, hts⟩ (k_L_trackByErrors l D ad cy pm rj σ xq hst _ hA.1 hbr ) (vx_cwSW 2 hts gL_law_L_trackByErrors rfl rfl rfl (by decide +kernel) ⟨Nat.le_of_ble_eq_true rfl, Nat.le_of_ble_eq_true rfl⟩) (sp_preSmx hK hP (lwEX hE0 hA hS)) rfl rfl hl.1 rfl (lv_room (Nat.le_of_ble_eq_true rfl)) dL_law_966 ⟨by show _ ≤ 752875; omega, by show _ ≤ 6835470; omega⟩) hS (fun q _ h => lwAd hA hS q h) (fun q h => lwAd hA hS q h) (fun H locs hP hle hfr hS => ?_)
  refine W.eq (g2 := F0 m 969 ls [.int (-30000 : Int32)]) rfl ?_
  refine lv_sipush (v := (-30000)) hx hb dL_law_969 (by decide) ?_
  refine lv_icmp_ne (tgt := 987) hx hb dL_law_972 (by decide) (fun c_6 => absurd rfl c_6) (fun c_6 => ?_)
  refine lv_aload_n hx hb dL_law_975 rfl (lv_at hl 1 rfl) ?_
  refine lv_iload hx hb dL_law_976 (lv_at hl 4 rfl) ?_
  refine sp_callm (vx_runSW (As := [.ref (ad (429)), .int (nI n)]) (rest := []) ⟨hx, hb, hml, hown, hts⟩ (k_L_printByDoubts l D ad cy pm rj σ xq hst _ hA.1 hbr ) (vx_cwSW 2 hts gL_law_L_printByDoubts rfl rfl rfl (by decide +kernel) ⟨Nat.le_of_ble_eq_true rfl, Nat.le_of_ble_eq_true rfl⟩) (sp_preSmx hK hP (lwEX hE0 hA hS)) rfl rfl hl.1 rfl (lv_room (Nat.le_of_ble_eq_true rfl)) dL_law_978 ⟨by show _ ≤ 752875; omega, by show _ ≤ 6835470; omega⟩) hS (fun q _ h => lwAd hA hS q h) (fun q h => lwAd hA hS q h) (fun H locs hP hle hfr hS => ?_)
  refine W.eq (g2 := F0 m 981 ls [.int (-30000 : Int32)]) rfl ?_
  refine lv_sipush (v := (-30000)) hx hb dL_law_981 (by decide) ?_
  refine lv_icmp_eq (tgt := 989) hx hb dL_law_984 (by decide) (fun c_7 => ?_) (fun c_7 => absurd rfl c_7)
  refine W.widen (k := cells + 10) (n := slots + 60) (by omega) (by omega) ?_
  exact kk _ _ _ hP hS (lv_sub hl [0, 1, 2, 3, 4, 7] rfl)
set_option maxHeartbeats 4000000 in
set_option maxRecDepth 100000 in
theorem kO (E0 : LE p l s m c args b L xs D cy xq) (hA : LA9 s.heap.size ad) (hbr : BR σ f B n t pi ro) (hB : B < 1000000) {i : Nat} {v2 : Int32} (hi9 : i + 1 < n) (hc : cells + 8 ≤ 752875) (hs : slots + 50 ≤ 6835470) (hP : va_P D vwCl (cW ad cy pm rj σ) H) (hS : va_S (fun q => s.heap.size ≤ q) s.heap H locs) (hl : lv_has ls 21 [(0, .ref b), (1, .ref (ad (429))), (2, .int v2), (3, .int (nI t)), (4, .int (nI n)), (7, .int (f 4)), (9, .int (nI (i + 1)))]) (kk : ∀ (H1 : Heap) (locs1 : List Loc) (ls1 : Array Slot), va_P D vwCl (cW ad cy pm rj σ) H1 → va_S (fun q => s.heap.size ≤ q) s.heap H1 locs1 → lv_has ls1 21 [(0, .ref b), (1, .ref (ad (429))), (2, .int v2), (3, .int (nI t)), (4, .int (nI n)), (7, .int (f 4)), (9, .int (nI (i + 1 + 1)))] → W p l e room_1 s m args below meth c H1 locs1 (cells + 8) (slots + 50) Q (F0 m 992 ls1 [])) : W p l e room_1 s m args below meth c H locs (cells) (slots) Q (F0 m 999 ls []) := by
  have hE := E0
  obtain ⟨hx, hb, hml, hown, hts, htb, hX, hbl, hst, hK, hE0, hL⟩ := hE
  have hi := hA.1
  have h30 := hbr.n30
  obtain ⟨o1, o2⟩ := pd_ord hbr.vx hbr.n30 hi9
  have ha := (plD_ok hbr.vx hbr.n30 (q := i) (by omega)).2.1
  have hb9 := (plD_ok hbr.vx hbr.n30 hi9).2.1
  refine lv_aload_n hx hb dL_law_999 rfl (lv_at hl 1 rfl) ?_
  refine lv_iload hx hb dL_law_1000 (lv_at hl 6 rfl) ?_
  refine lv_iconst (v := 1) hx hb dL_law_1002 (by decide) ?_
  refine lv_isub hx hb dL_law_1003 ?_
  refine W.eq (g2 := F0 m 1004 ls [.int (nI i), .ref (ad (429))]) (by rw [show nI (i + 1) - 1 = nI i from nI_subE (a := i + 1) (b := 1) rfl rfl (by omega)]) ?_
  refine sp_callm (va_runV (As := [.int (nI i)]) (rest := []) ⟨hx, hb, hml, hown, hts⟩ (k_printByDoubts l D ad cy pm rj σ xq hst _ hA.1 hbr (show i < n by omega)) (cwV 1 hts gL_law_X9_printByDoubts rfl rfl rfl (by decide +kernel) ⟨Nat.le_of_ble_eq_true rfl, Nat.le_of_ble_eq_true rfl⟩) (sp_preVmx hK hP (lwEX hE0 hA hS) (κ := 429) (by decide) cE_sp rfl) rfl rfl hl.1 rfl (lv_room (Nat.le_of_ble_eq_true rfl)) dL_law_1004 ⟨by show _ ≤ 752875; omega, by show _ ≤ 6835470; omega⟩) hS (fun q _ h => lwAd hA hS q h) (fun q h => lwAd hA hS q h) (fun H locs hP hle hfr hS => ?_)
  refine W.eq (g2 := F0 m 1007 ls [.int (gP f (plD f n i) 0)]) rfl ?_
  refine lv_istore (lv' := [(10, .int (gP f (plD f n i) 0)), (0, .ref b), (1, .ref (ad (429))), (2, .int v2), (3, .int (nI t)), (4, .int (nI n)), (7, .int (f 4)), (9, .int (nI (i + 1)))]) hx hb dL_law_1007 hl (by decide) rfl (fun ls hl => ?_)
  refine lv_aload_n hx hb dL_law_1009 rfl (lv_at hl 2 rfl) ?_
  refine lv_iload hx hb dL_law_1010 (lv_at hl 7 rfl) ?_
  refine sp_callm (va_runV (As := [.int (nI (i + 1))]) (rest := []) ⟨hx, hb, hml, hown, hts⟩ (k_printByDoubts l D ad cy pm rj σ xq hst _ hA.1 hbr hi9) (cwV 1 hts gL_law_X9_printByDoubts rfl rfl rfl (by decide +kernel) ⟨Nat.le_of_ble_eq_true rfl, Nat.le_of_ble_eq_true rfl⟩) (sp_preVmx hK hP (lwEX hE0 hA hS) (κ := 429) (by decide) cE_sp rfl) rfl rfl hl.1 rfl (lv_room (Nat.le_of_ble_eq_true rfl)) dL_law_1012 ⟨by show _ ≤ 752875; omega, by show _ ≤ 6835470; omega⟩) hS (fun q _ h => lwAd hA hS q h) (fun q h => lwAd hA hS q h) (fun H locs hP hle hfr hS => ?_)
  refine W.eq (g2 := F0 m 1015 ls [.int (gP f (plD f n (i + 1)) 0)]) rfl ?_
  refine lv_istore (lv' := [(11, .int (gP f (plD f n (i + 1)) 0)), (10, .int (gP f (plD f n i) 0)), (0, .ref b), (1, .ref (ad (429))), (2, .int v2), (3, .int (nI t)), (4, .int (nI n)), (7, .int (f 4)), (9, .int (nI (i + 1)))]) hx hb dL_law_1015 hl (by decide) rfl (fun ls hl => ?_)
  refine lv_aload_n hx hb dL_law_1017 rfl (lv_at hl 3 rfl) ?_
  refine lv_iload hx hb dL_law_1018 (lv_at hl 1 rfl) ?_
  refine sp_callm (va_runV (As := [.int (gP f (plD f n i) 0)]) (rest := []) ⟨hx, hb, hml, hown, hts⟩ (k_doubtsOf l D ad cy pm rj σ xq hst _ hA.1 hbr ha) (cwV 1 hts gL_law_X9_doubtsOf rfl rfl rfl (by decide +kernel) ⟨Nat.le_of_ble_eq_true rfl, Nat.le_of_ble_eq_true rfl⟩) (sp_preVmx hK hP (lwEX hE0 hA hS) (κ := 429) (by decide) cE_sp rfl) rfl rfl hl.1 rfl (lv_room (Nat.le_of_ble_eq_true rfl)) dL_law_1020 ⟨by show _ ≤ 752875; omega, by show _ ≤ 6835470; omega⟩) hS (fun q _ h => lwAd hA hS q h) (fun q h => lwAd hA hS q h) (fun H locs hP hle hfr hS => ?_)
  refine W.eq (g2 := F0 m 1023 ls [.int (gP f (plD f n i) 7)]) rfl ?_
  refine lv_aload_n hx hb dL_law_1023 rfl (lv_at hl 3 rfl) ?_
  refine lv_iload hx hb dL_law_1024 (lv_at hl 0 rfl) ?_
  refine sp_callm (va_runV (As := [.int (gP f (plD f n (i + 1)) 0)]) (rest := [.int (gP f (plD f n i) 7)]) ⟨hx, hb, hml, hown, hts⟩ (k_doubtsOf l D ad cy pm rj σ xq hst _ hA.1 hbr hb9) (cwV 1 hts gL_law_X9_doubtsOf rfl rfl rfl (by decide +kernel) ⟨Nat.le_of_ble_eq_true rfl, Nat.le_of_ble_eq_true rfl⟩) (sp_preVmx hK hP (lwEX hE0 hA hS) (κ := 429) (by decide) cE_sp rfl) rfl rfl hl.1 rfl (lv_room (Nat.le_of_ble_eq_true rfl)) dL_law_1026 ⟨by show _ ≤ 752875; omega, by show _ ≤ 6835470; omega⟩) hS (fun q _ h => lwAd hA hS q h) (fun q h => lwAd hA hS q h) (fun H locs hP hle hfr hS => ?_)
  refine W.eq (g2 := F0 m 1029 ls [.int (gP f (plD f n (i + 1)) 7), .int (gP f (plD f n i) 7)]) rfl ?_
  refine lv_isub hx hb dL_law_1029 ?_
  refine lv_istore (lv' := [(12, .int ((gP f (plD f n i) 7) - (gP f (plD f n (i + 1)) 7))), (11, .int (gP f (plD f n (i + 1)) 0)), (10, .int (gP f (plD f n i) 0)), (0, .ref b), (1, .ref (ad (429))), (2, .int v2), (3, .int (nI t)), (4, .int (nI n)), (7, .int (f 4)), (9, .int (nI (i + 1)))]) hx hb dL_law_1030 hl (by decide) rfl (fun ls hl => ?_)
  refine lv_aload_n hx hb dL_law_1032 rfl (lv_at hl 4 rfl) ?_
  refine lv_iload hx hb dL_law_1033 (lv_at hl 1 rfl) ?_
  refine sp_callm (va_runV (As := [.int (gP f (plD f n (i + 1)) 0)]) (rest := []) ⟨hx, hb, hml, hown, hts⟩ (k_timeOf l D ad cy pm rj σ xq hst _ hA.1 hbr hb9) (cwV 1 hts gL_law_X9_timeOf rfl rfl rfl (by decide +kernel) ⟨Nat.le_of_ble_eq_true rfl, Nat.le_of_ble_eq_true rfl⟩) (sp_preVmx hK hP (lwEX hE0 hA hS) (κ := 429) (by decide) cE_sp rfl) rfl rfl hl.1 rfl (lv_room (Nat.le_of_ble_eq_true rfl)) dL_law_1035 ⟨by show _ ≤ 752875; omega, by show _ ≤ 6835470; omega⟩) hS (fun q _ h => lwAd hA hS q h) (fun q h => lwAd hA hS q h) (fun H locs hP hle hfr hS => ?_)
  refine W.eq (g2 := F0 m 1038 ls [.int (gP f (plD f n (i + 1)) 2)]) rfl ?_
  refine lv_aload_n hx hb dL_law_1038 rfl (lv_at hl 4 rfl) ?_
  refine lv_iload hx hb dL_law_1039 (lv_at hl 2 rfl) ?_
  refine sp_callm (va_runV (As := [.int (gP f (plD f n i) 0)]) (rest := [.int (gP f (plD f n (i + 1)) 2)]) ⟨hx, hb, hml, hown, hts⟩ (k_timeOf l D ad cy pm rj σ xq hst _ hA.1 hbr ha) (cwV 1 hts gL_law_X9_timeOf rfl rfl rfl (by decide +kernel) ⟨Nat.le_of_ble_eq_true rfl, Nat.le_of_ble_eq_true rfl⟩) (sp_preVmx hK hP (lwEX hE0 hA hS) (κ := 429) (by decide) cE_sp rfl) rfl rfl hl.1 rfl (lv_room (Nat.le_of_ble_eq_true rfl)) dL_law_1041 ⟨by show _ ≤ 752875; omega, by show _ ≤ 6835470; omega⟩) hS (fun q _ h => lwAd hA hS q h) (fun q h => lwAd hA hS q h) (fun H locs hP hle hfr hS => ?_)
  refine W.eq (g2 := F0 m 1044 ls [.int (gP f (plD f n i) 2), .int (gP f (plD f n (i + 1)) 2)]) rfl ?_
  refine lv_isub hx hb dL_law_1044 ?_
  refine lv_istore (lv' := [(13, .int ((gP f (plD f n (i + 1)) 2) - (gP f (plD f n i) 2))), (12, .int ((gP f (plD f n i) 7) - (gP f (plD f n (i + 1)) 7))), (11, .int (gP f (plD f n (i + 1)) 0)), (10, .int (gP f (plD f n i) 0)), (0, .ref b), (1, .ref (ad (429))), (2, .int v2), (3, .int (nI t)), (4, .int (nI n)), (7, .int (f 4)), (9, .int (nI (i + 1)))]) hx hb dL_law_1045 hl (by decide) rfl (fun ls hl => ?_)
  refine lv_iload hx hb dL_law_1047 (lv_at hl 1 rfl) ?_
  refine lv_if_lt (tgt := 1074) hx hb dL_law_1049 (by decide) (fun c_1 => absurd c_1 o1) (fun c_1 => ?_)
  refine lv_iload hx hb dL_law_1052 (lv_at hl 1 rfl) ?_
  refine lv_if_ne (tgt := 1076) hx hb dL_law_1054 (by decide) (fun c_2 => ?_) (fun c_2 => ?_)
  · skip
    refine lv_iinc (v := nI ((i + 1) + 1)) (lv' := [(9, .int (nI ((i + 1) + 1))), (13, .int ((gP f (plD f n (i + 1)) 2) - (gP f (plD f n i) 2))), (12, .int ((gP f (plD f n i) 7) - (gP f (plD f n (i + 1)) 7))), (11, .int (gP f (plD f n (i + 1)) 0)), (10, .int (gP f (plD f n i) 0)), (0, .ref b), (1, .ref (ad (429))), (2, .int v2), (3, .int (nI t)), (4, .int (nI n)), (7, .int (f 4))]) hx hb dL_law_1076 hl (k := 10) rfl (nI_1 _) (by decide) rfl (fun ls hl => ?_)
    refine lv_goto (tgt := 992) hx hb dL_law_1079 (by decide) ?_
    refine W.widen (k := cells + 8) (n := slots + 50) (by omega) (by omega) ?_
    exact kk _ _ _ hP hS (lv_sub hl [5, 6, 7, 8, 9, 10, 0] rfl)
  · skip
    obtain ⟨o3, o4⟩ := o2 c_2
    refine lv_iload hx hb dL_law_1057 (lv_at hl 0 rfl) ?_
    refine lv_if_lt (tgt := 1074) hx hb dL_law_1059 (by decide) (fun c_3 => absurd c_3 o3) (fun c_3 => ?_)
    refine lv_iload hx hb dL_law_1062 (lv_at hl 0 rfl) ?_
    refine lv_if_ne (tgt := 1076) hx hb dL_law_1064 (by decide) (fun c_4 => ?_) (fun c_4 => ?_)
    · skip
      refine lv_iinc (v := nI ((i + 1) + 1)) (lv' := [(9, .int (nI ((i + 1) + 1))), (13, .int ((gP f (plD f n (i + 1)) 2) - (gP f (plD f n i) 2))), (12, .int ((gP f (plD f n i) 7) - (gP f (plD f n (i + 1)) 7))), (11, .int (gP f (plD f n (i + 1)) 0)), (10, .int (gP f (plD f n i) 0)), (0, .ref b), (1, .ref (ad (429))), (2, .int v2), (3, .int (nI t)), (4, .int (nI n)), (7, .int (f 4))]) hx hb dL_law_1076 hl (k := 10) rfl (nI_1 _) (by decide) rfl (fun ls hl => ?_)
      refine lv_goto (tgt := 992) hx hb dL_law_1079 (by decide) ?_
      refine W.widen (k := cells + 8) (n := slots + 50) (by omega) (by omega) ?_
      exact kk _ _ _ hP hS (lv_sub hl [5, 6, 7, 8, 9, 10, 0] rfl)
    · skip
      have o5 := o4 c_4
      refine lv_iload hx hb dL_law_1067 (lv_at hl 3 rfl) ?_
      refine lv_iload hx hb dL_law_1069 (lv_at hl 2 rfl) ?_
      refine lv_icmp_le (tgt := 1076) hx hb dL_law_1071 (by decide) (fun c_5 => ?_) (fun c_5 => absurd (Int32.not_lt.mp o5) c_5)
      refine lv_iinc (v := nI ((i + 1) + 1)) (lv' := [(9, .int (nI ((i + 1) + 1))), (13, .int ((gP f (plD f n (i + 1)) 2) - (gP f (plD f n i) 2))), (12, .int ((gP f (plD f n i) 7) - (gP f (plD f n (i + 1)) 7))), (11, .int (gP f (plD f n (i + 1)) 0)), (10, .int (gP f (plD f n i) 0)), (0, .ref b), (1, .ref (ad (429))), (2, .int v2), (3, .int (nI t)), (4, .int (nI n)), (7, .int (f 4))]) hx hb dL_law_1076 hl (k := 10) rfl (nI_1 _) (by decide) rfl (fun ls hl => ?_)
      refine lv_goto (tgt := 992) hx hb dL_law_1079 (by decide) ?_
      refine W.widen (k := cells + 8) (n := slots + 50) (by omega) (by omega) ?_
      exact kk _ _ _ hP hS (lv_sub hl [5, 6, 7, 8, 9, 10, 0] rfl)
set_option maxHeartbeats 4000000 in
set_option maxRecDepth 100000 in
theorem o_loop {c0 s0 : Nat} {v2 : Int32} (E0 : LE p l s m c args b L xs D cy xq) (hA : LA9 s.heap.size ad) (hbr : BR σ f B n t pi ro) (hB : B < 1000000) (hc0 : c0 + 10 * 32 ≤ 752875) (hs0 : s0 + 60 * 32 ≤ 6835470) (hend : ∀ (H : Heap) (locs : List Loc) (ls : Array Slot), va_P D vwCl (cW ad cy pm rj σ) H → va_S (fun q => s.heap.size ≤ q) s.heap H locs → lv_has ls 21 [(0, .ref b), (1, .ref (ad (429))), (2, .int v2), (3, .int (nI t)), (4, .int (nI n)), (7, .int (f 4))] → W p l e room_1 s m args below meth c H locs (c0 + 10 * 32) (s0 + 60 * 32) Q (F0 m 1082 ls [])) : ∀ (fu i : Nat), i ≤ 30 → n - i < fu → ∀ (H : Heap) (locs : List Loc) (ls : Array Slot), va_P D vwCl (cW ad cy pm rj σ) H → va_S (fun q => s.heap.size ≤ q) s.heap H locs → lv_has ls 21 [(0, .ref b), (1, .ref (ad (429))), (2, .int v2), (3, .int (nI t)), (4, .int (nI n)), (7, .int (f 4)), (9, .int (nI (i + 1)))] → W p l e room_1 s m args below meth c H locs (c0 + 10 * (i + 1)) (s0 + 60 * (i + 1)) Q (F0 m 992 ls []) := by
  have hE := E0
  obtain ⟨hx, hb, hml, hown, hts, htb, hX, hbl, hst, hK, hE0, hL⟩ := hE
  have h30 := hbr.n30
  intro fu
  induction fu with
  | zero => intro i _ h; exact absurd h (Nat.not_lt_zero _)
  | succ fu ih =>
    intro i hi8 hfu H locs ls hP hS hl
    refine lv_iload hx hb dL_law_992 (lv_at hl 6 rfl) ?_
    refine lv_iload hx hb dL_law_994 (lv_at hl 4 rfl) ?_
    refine lv_icmp_ge (tgt := 1082) hx hb dL_law_996 (by decide) (fun c_1 => ?_) (fun c_1 => ?_)
    · refine W.widen (k := c0 + 10 * 32) (n := s0 + 60 * 32) (by omega) (by omega) ?_
      exact hend H locs ls hP hS (lv_sub hl [0, 1, 2, 3, 4, 5] rfl)
    · have hi9 : i + 1 < n := Nat.lt_of_not_le (fun z => c_1 (nI_le z (by omega)))
      refine kO E0 hA hbr hB hi9 (by omega) (by omega) hP hS hl (fun H1 locs1 ls1 hP hS hl => ?_)
      refine W.widen (k := c0 + 10 * (i + 1 + 1)) (n := s0 + 60 * (i + 1 + 1)) (by omega) (by omega) ?_
      exact ih (i + 1) (by omega) (by omega) H1 locs1 ls1 hP hS hl
end LSE
