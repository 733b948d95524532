/-! THE LAW'S BODY, BY PIECES -/
theorem conf_eq {x : Int32} (h : x = 0 ∨ x = 1 ∨ x = 2 ∨ x = 3) : FP.dcmp (FP.ddiv FP.dconst1 (FP.dadd FP.dconst1 (FP.i2d x))) (FP.ddiv FP.dconst1 (FP.dadd FP.dconst1 (FP.i2d x))) = some .eq := by
  rcases h with rfl | rfl | rfl | rfl <;> decide +kernel
section EEL
variable {f : Nat → Int32} {n t k : Nat}
theorem ee_1 : nI (eE f n t k) &&& 1 ≤ 0 ↔ m_err f n t k 0 = false := by
  unfold eE
  rcases m_err f n t k 0 with _ | _ <;> rcases m_err f n t k 1 with _ | _ <;> rcases m_err f n t k 2 with _ | _ <;> decide
theorem ee_2 : nI (eE f n t k) &&& 2 ≤ 0 ↔ m_err f n t k 1 = false := by
  unfold eE
  rcases m_err f n t k 0 with _ | _ <;> rcases m_err f n t k 1 with _ | _ <;> rcases m_err f n t k 2 with _ | _ <;> decide
theorem ee_4 : nI (eE f n t k) &&& 4 ≤ 0 ↔ m_err f n t k 2 = false := by
  unfold eE
  rcases m_err f n t k 0 with _ | _ <;> rcases m_err f n t k 1 with _ | _ <;> rcases m_err f n t k 2 with _ | _ <;> decide
theorem ee_0 : nI (eE f n t k) ≤ 0 ↔ ¬ 0 < m_errs1 f n t k := by
  unfold eE m_errs1
  rcases m_err f n t k 0 with _ | _ <;> rcases m_err f n t k 1 with _ | _ <;> rcases m_err f n t k 2 with _ | _ <;> decide
theorem ee_c : bc3 (eE f n t k) = m_errs1 f n t k := by
  unfold eE m_errs1
  rcases m_err f n t k 0 with _ | _ <;> rcases m_err f n t k 1 with _ | _ <;> rcases m_err f n t k 2 with _ | _ <;> decide
theorem bt_f {b : Bool} (h : ¬ b = false) : b = true := by simpa using h
end EEL
theorem sp_K2 {D : va_G} {ad : Nat → Nat} {E : Nat → (Nat → Int32) → va_E} {σ : Nat → Nat → Int32} {H H1 : Heap} {z0 q v : Nat} (hP : va_P D vwCl (sp_W E ad 459 σ) H) (had : ∀ k, k < 459 → ad k < z0) (hq : z0 ≤ q) (hv : z0 ≤ v) (hk : ∀ x : Nat, x < H.size → x ≠ q → x ≠ v → H1[x]? = H[x]?) : va_P D vwCl (sp_W E ad 459 σ) H1 := sp_P_kept hP fun k hk9 => hk _ (sp_P_at hP hk9).lt (fun z => by have := had k hk9; omega) (fun z => by have := had k hk9; omega)

section LSG
variable {p : Program} {l : Launch} {e : Env} {s : State} {m : MethodId} {args : Array Value} {below : List Frame} {meth : Method} {c : Code} {Q : State → Prop} {b L : Nat} {xs : Nat → Int32} {D : va_G} {cy : Nat → ClassId} {xq ad : Nat → Nat} {pm : Nat → Nat} {rj : Option Nat} {σ : Nat → Nat → Int32} {f : Nat → Int32} {B n t : Nat} {pi ro : Nat → Nat} {H : Heap} {locs : List Loc} {cells slots : Nat} {ls : Array Slot}
set_option maxHeartbeats 4000000 in
set_option maxRecDepth 100000 in
theorem kA0 {tx : Nat} {T : List Nat} (E0 : LE p l s m c args b L xs D cy xq) (hA : LA9 s.heap.size ad) (hbr : BR σ f B n t pi ro) (hB : B < 1000000) {r : Nat} {v2 v5 v6 v8 v11 v12 v13 v14 : Int32} (hr : r < t) (hq : 0 < cN f n (gT f r)) (hc : cells + 20 ≤ 752875) (hs : slots + 140 ≤ 6835470) (hP : va_P D vwCl (cW ad cy pm rj σ) H) (hS : va_S (fun q => s.heap.size ≤ q) s.heap H locs) (hTX : TXs tx T.length (fun j => T.getD j 0) (sp_A ad 459 H.size) s H) (hl : lv_has ls 21 [(0, .ref b), (1, .ref (ad (429))), (2, .int v2), (3, .int (nI t)), (4, .int (nI n)), (5, .int v5), (6, .int v6), (7, .int (f 4)), (8, .int v8), (9, .int (gT f r)), (10, .int (nI (cN f n (gT f r)))), (11, .int v11), (12, .int v12), (13, .int v13), (14, .int v14), (15, .ref tx), (16, .int (nI 0))]) (kk : ∀ (H1 : Heap) (locs1 : List Loc) (ls1 : Array Slot), va_P D vwCl (cW ad cy pm rj σ) H1 → va_S (fun q => s.heap.size ≤ q) s.heap H1 locs1 → TXs tx T.length (fun j => T.getD j 0) (sp_A ad 459 H1.size) s H1 → lv_has ls1 21 [(0, .ref b), (1, .ref (ad (429))), (2, .int v2), (3, .int (nI t)), (4, .int (nI n)), (5, .int v5), (6, .int v6), (7, .int (f 4)), (8, .int v8), (9, .int (gT f r)), (10, .int (nI (cN f n (gT f r)))), (11, .int v11), (12, .int v12), (13, .int v13), (14, .int v14), (15, .ref tx), (16, .int (nI 0)), (17, .int (gP f (plP f n (gT f r) 0) 0)), (18, .int (eB f n (plP f n (gT f r) 0))), (19, .int (nI (eE f n t (plP f n (gT f r) 0)))), (20, .int (eS f n (plP f n (gT f r) 0)))] → W p l e room_1 s m args below meth c H1 locs1 (cells + 20) (slots + 140) Q (F0 m 167 ls1 [])) : W p l e room_1 s m args below meth c H locs (cells) (slots) Q (F0 m 94 ls []) := by
  have hE := E0
  obtain ⟨hx, hb, hml, hown, hts, htb, hX, hbl, hst, hK, hE0, hL⟩ := hE
  have hi := hA.1
  have hcl := cntN_le (tA f (gT f r)) n
  have h30 := hbr.n30
  have hcE : cN f n (gT f r) = cntN (tA f (gT f r)) n := rfl
  have hk := (plP_ok hbr.vx hbr.n30 hq).2.1
  have hbs := plP_bes0 hbr.vx hbr.n30 hq
  have heB : eB f n (plP f n (gT f r) 0) = -30000 := by unfold eB; rw [hbs]; rfl
  have heS : eS f n (plP f n (gT f r) 0) = -30000 := by unfold eS; rw [hbs]; rfl
  have heE : nI (eE f n t (plP f n (gT f r) 0)) = 0 := by unfold eE m_err; rw [hbs]; rfl
  refine lv_aload_n hx hb dL_law_94 rfl (lv_at hl 1 rfl) ?_
  refine lv_iload hx hb dL_law_95 (lv_at hl 9 rfl) ?_
  refine lv_iload hx hb dL_law_97 (lv_at hl 16 rfl) ?_
  refine sp_callm (va_runV (As := [.int (gT f r), .int (nI 0)]) (rest := []) ⟨hx, hb, hml, hown, hts⟩ (k_printAt l D ad cy pm rj σ xq hst _ hA.1 hbr hr hq) (cwV 2 hts gL_law_X9_printAt rfl rfl rfl (by decide +kernel) ⟨Nat.le_of_ble_eq_true rfl, Nat.le_of_ble_eq_true rfl⟩) (sp_preVmx hK hP (lwEX hE0 hA hS) (κ := 429) (by decide) cE_sp rfl) rfl rfl hl.1 rfl (lv_room (Nat.le_of_ble_eq_true rfl)) dL_law_99 ⟨by show _ ≤ 752875; omega, by show _ ≤ 6835470; omega⟩) hS (fun q _ h => lwAd hA hS q h) (fun q h => lwAd hA hS q h) (fun H locs hP hle hfr hS => ?_)
  have hTX := hTX.call hle hfr
  refine W.eq (g2 := F0 m 102 ls [.int (gP f (plP f n (gT f r) 0) 0)]) rfl ?_
  refine lv_istore (lv' := [(17, .int (gP f (plP f n (gT f r) 0) 0)), (0, .ref b), (1, .ref (ad (429))), (2, .int v2), (3, .int (nI t)), (4, .int (nI n)), (5, .int v5), (6, .int v6), (7, .int (f 4)), (8, .int v8), (9, .int (gT f r)), (10, .int (nI (cN f n (gT f r)))), (11, .int v11), (12, .int v12), (13, .int v13), (14, .int v14), (15, .ref tx), (16, .int (nI 0))]) hx hb dL_law_102 hl (by decide) rfl (fun ls hl => ?_)
  refine lv_iload hx hb dL_law_104 (lv_at hl 17 rfl) ?_
  refine lv_if_le (tgt := 122) hx hb dL_law_106 (by decide) (fun c_1 => ?_) (fun c_1 => absurd (by decide) c_1)
  refine lv_sipush (v := (-30000)) hx hb dL_law_122 (by decide) ?_
  refine W.eq (g2 := F0 m 125 ls [.int (eB f n (plP f n (gT f r) 0))]) (by rw [heB]) ?_
  refine lv_istore (lv' := [(18, .int (eB f n (plP f n (gT f r) 0))), (17, .int (gP f (plP f n (gT f r) 0) 0)), (0, .ref b), (1, .ref (ad (429))), (2, .int v2), (3, .int (nI t)), (4, .int (nI n)), (5, .int v5), (6, .int v6), (7, .int (f 4)), (8, .int v8), (9, .int (gT f r)), (10, .int (nI (cN f n (gT f r)))), (11, .int v11), (12, .int v12), (13, .int v13), (14, .int v14), (15, .ref tx), (16, .int (nI 0))]) hx hb dL_law_125 hl (by decide) rfl (fun ls hl => ?_)
  refine lv_iload hx hb dL_law_127 (lv_at hl 18 rfl) ?_
  refine lv_if_le (tgt := 143) hx hb dL_law_129 (by decide) (fun c_2 => ?_) (fun c_2 => absurd (by decide) c_2)
  refine lv_iconst (v := 0) hx hb dL_law_143 (by decide) ?_
  refine W.eq (g2 := F0 m 144 ls [.int (nI (eE f n t (plP f n (gT f r) 0)))]) (by rw [heE]) ?_
  refine lv_istore (lv' := [(19, .int (nI (eE f n t (plP f n (gT f r) 0)))), (18, .int (eB f n (plP f n (gT f r) 0))), (17, .int (gP f (plP f n (gT f r) 0) 0)), (0, .ref b), (1, .ref (ad (429))), (2, .int v2), (3, .int (nI t)), (4, .int (nI n)), (5, .int v5), (6, .int v6), (7, .int (f 4)), (8, .int v8), (9, .int (gT f r)), (10, .int (nI (cN f n (gT f r)))), (11, .int v11), (12, .int v12), (13, .int v13), (14, .int v14), (15, .ref tx), (16, .int (nI 0))]) hx hb dL_law_144 hl (by decide) rfl (fun ls hl => ?_)
  refine lv_iload hx hb dL_law_146 (lv_at hl 19 rfl) ?_
  refine lv_if_le (tgt := 162) hx hb dL_law_148 (by decide) (fun c_3 => ?_) (fun c_3 => absurd (by decide) c_3)
  refine lv_sipush (v := (-30000)) hx hb dL_law_162 (by decide) ?_
  refine W.eq (g2 := F0 m 165 ls [.int (eS f n (plP f n (gT f r) 0))]) (by rw [heS]) ?_
  refine lv_istore (lv' := [(20, .int (eS f n (plP f n (gT f r) 0))), (19, .int (nI (eE f n t (plP f n (gT f r) 0)))), (18, .int (eB f n (plP f n (gT f r) 0))), (17, .int (gP f (plP f n (gT f r) 0) 0)), (0, .ref b), (1, .ref (ad (429))), (2, .int v2), (3, .int (nI t)), (4, .int (nI n)), (5, .int v5), (6, .int v6), (7, .int (f 4)), (8, .int v8), (9, .int (gT f r)), (10, .int (nI (cN f n (gT f r)))), (11, .int v11), (12, .int v12), (13, .int v13), (14, .int v14), (15, .ref tx), (16, .int (nI 0))]) hx hb dL_law_165 hl (by decide) rfl (fun ls hl => ?_)
  refine W.widen (k := cells + 20) (n := slots + 140) (by omega) (by omega) ?_
  exact kk _ _ _ hP hS hTX (lv_sub hl [4, 5, 6, 7, 8, 9, 10, 11, 12, 13, 14, 15, 16, 17, 18, 19, 20, 3, 2, 1, 0] rfl)
set_option maxHeartbeats 4000000 in
set_option maxRecDepth 100000 in
theorem kA1 {tx : Nat} {T : List Nat} (E0 : LE p l s m c args b L xs D cy xq) (hA : LA9 s.heap.size ad) (hbr : BR σ f B n t pi ro) (hB : B < 1000000) {r : Nat} {q : Nat} {v2 v5 v6 v8 v11 v12 v13 v14 : Int32} (hr : r < t) (hq : q + 1 < cN f n (gT f r)) (hc : cells + 20 ≤ 752875) (hs : slots + 140 ≤ 6835470) (hP : va_P D vwCl (cW ad cy pm rj σ) H) (hS : va_S (fun q => s.heap.size ≤ q) s.heap H locs) (hTX : TXs tx T.length (fun j => T.getD j 0) (sp_A ad 459 H.size) s H) (hl : lv_has ls 21 [(0, .ref b), (1, .ref (ad (429))), (2, .int v2), (3, .int (nI t)), (4, .int (nI n)), (5, .int v5), (6, .int v6), (7, .int (f 4)), (8, .int v8), (9, .int (gT f r)), (10, .int (nI (cN f n (gT f r)))), (11, .int v11), (12, .int v12), (13, .int v13), (14, .int v14), (15, .ref tx), (16, .int (nI (q + 1)))]) (kk : ∀ (H1 : Heap) (locs1 : List Loc) (ls1 : Array Slot), va_P D vwCl (cW ad cy pm rj σ) H1 → va_S (fun q => s.heap.size ≤ q) s.heap H1 locs1 → TXs tx T.length (fun j => T.getD j 0) (sp_A ad 459 H1.size) s H1 → lv_has ls1 21 [(0, .ref b), (1, .ref (ad (429))), (2, .int v2), (3, .int (nI t)), (4, .int (nI n)), (5, .int v5), (6, .int v6), (7, .int (f 4)), (8, .int v8), (9, .int (gT f r)), (10, .int (nI (cN f n (gT f r)))), (11, .int v11), (12, .int v12), (13, .int v13), (14, .int v14), (15, .ref tx), (16, .int (nI (q + 1))), (17, .int (gP f (plP f n (gT f r) (q + 1)) 0)), (18, .int (eB f n (plP f n (gT f r) (q + 1)))), (19, .int (nI (eE f n t (plP f n (gT f r) (q + 1))))), (20, .int (eS f n (plP f n (gT f r) (q + 1))))] → W p l e room_1 s m args below meth c H1 locs1 (cells + 20) (slots + 140) Q (F0 m 167 ls1 [])) : W p l e room_1 s m args below meth c H locs (cells) (slots) Q (F0 m 94 ls []) := by
  have hE := E0
  obtain ⟨hx, hb, hml, hown, hts, htb, hX, hbl, hst, hK, hE0, hL⟩ := hE
  have hi := hA.1
  have hcl := cntN_le (tA f (gT f r)) n
  have h30 := hbr.n30
  have hcE : cN f n (gT f r) = cntN (tA f (gT f r)) n := rfl
  have hk := (plP_ok hbr.vx hbr.n30 hq).2.1
  have hbs := plP_besS hbr.vx hbr.n30 hq
  have hj := (plP_ok hbr.vx hbr.n30 (x := gT f r) (q := q) (by omega)).2.1
  have heB : gP f (plP f n (gT f r) q) 0 = eB f n (plP f n (gT f r) (q + 1)) := by unfold eB; rw [hbs]; rfl
  have heS : m_dist f (plP f n (gT f r) q) (gP f (plP f n (gT f r) (q + 1)) 3) (gP f (plP f n (gT f r) (q + 1)) 4) = eS f n (plP f n (gT f r) (q + 1)) := by unfold eS; rw [hbs, ← m_stride_some hbs]; rfl
  refine lv_aload_n hx hb dL_law_94 rfl (lv_at hl 1 rfl) ?_
  refine lv_iload hx hb dL_law_95 (lv_at hl 9 rfl) ?_
  refine lv_iload hx hb dL_law_97 (lv_at hl 16 rfl) ?_
  refine sp_callm (va_runV (As := [.int (gT f r), .int (nI (q + 1))]) (rest := []) ⟨hx, hb, hml, hown, hts⟩ (k_printAt l D ad cy pm rj σ xq hst _ hA.1 hbr hr hq) (cwV 2 hts gL_law_X9_printAt rfl rfl rfl (by decide +kernel) ⟨Nat.le_of_ble_eq_true rfl, Nat.le_of_ble_eq_true rfl⟩) (sp_preVmx hK hP (lwEX hE0 hA hS) (κ := 429) (by decide) cE_sp rfl) rfl rfl hl.1 rfl (lv_room (Nat.le_of_ble_eq_true rfl)) dL_law_99 ⟨by show _ ≤ 752875; omega, by show _ ≤ 6835470; omega⟩) hS (fun q _ h => lwAd hA hS q h) (fun q h => lwAd hA hS q h) (fun H locs hP hle hfr hS => ?_)
  have hTX := hTX.call hle hfr
  refine W.eq (g2 := F0 m 102 ls [.int (gP f (plP f n (gT f r) (q + 1)) 0)]) rfl ?_
  refine lv_istore (lv' := [(17, .int (gP f (plP f n (gT f r) (q + 1)) 0)), (0, .ref b), (1, .ref (ad (429))), (2, .int v2), (3, .int (nI t)), (4, .int (nI n)), (5, .int v5), (6, .int v6), (7, .int (f 4)), (8, .int v8), (9, .int (gT f r)), (10, .int (nI (cN f n (gT f r)))), (11, .int v11), (12, .int v12), (13, .int v13), (14, .int v14), (15, .ref tx), (16, .int (nI (q + 1)))]) hx hb dL_law_102 hl (by decide) rfl (fun ls hl => ?_)
  refine lv_iload hx hb dL_law_104 (lv_at hl 17 rfl) ?_
  refine lv_if_le (tgt := 122) hx hb dL_law_106 (by decide) (fun c_1 => absurd ((nI_leI (a := q + 1) (b := 0) (by omega) (by decide)).mp c_1) (by omega)) (fun c_1 => ?_)
  refine lv_aload_n hx hb dL_law_109 rfl (lv_at hl 2 rfl) ?_
  refine lv_iload hx hb dL_law_110 (lv_at hl 10 rfl) ?_
  refine lv_iload hx hb dL_law_112 (lv_at hl 17 rfl) ?_
  refine lv_iconst (v := 1) hx hb dL_law_114 (by decide) ?_
  refine lv_isub hx hb dL_law_115 ?_
  refine W.eq (g2 := F0 m 116 ls [.int (nI q), .int (gT f r), .ref (ad (429))]) (by rw [show nI (q + 1) - 1 = nI q from nI_subE (a := q + 1) (b := 1) rfl rfl (by omega)]) ?_
  refine sp_callm (va_runV (As := [.int (gT f r), .int (nI q)]) (rest := []) ⟨hx, hb, hml, hown, hts⟩ (k_printAt l D ad cy pm rj σ xq hst _ hA.1 hbr hr (show q < cN f n (gT f r) by omega)) (cwV 2 hts gL_law_X9_printAt rfl rfl rfl (by decide +kernel) ⟨Nat.le_of_ble_eq_true rfl, Nat.le_of_ble_eq_true rfl⟩) (sp_preVmx hK hP (lwEX hE0 hA hS) (κ := 429) (by decide) cE_sp rfl) rfl rfl hl.1 rfl (lv_room (Nat.le_of_ble_eq_true rfl)) dL_law_116 ⟨by show _ ≤ 752875; omega, by show _ ≤ 6835470; omega⟩) hS (fun q _ h => lwAd hA hS q h) (fun q h => lwAd hA hS q h) (fun H locs hP hle hfr hS => ?_)
  have hTX := hTX.call hle hfr
  refine W.eq (g2 := F0 m 119 ls [.int (gP f (plP f n (gT f r) q) 0)]) rfl ?_
  refine lv_goto (tgt := 125) hx hb dL_law_119 (by decide) ?_
  refine W.eq (g2 := F0 m 125 ls [.int (eB f n (plP f n (gT f r) (q + 1)))]) (by rw [heB]) ?_
  refine lv_istore (lv' := [(18, .int (eB f n (plP f n (gT f r) (q + 1)))), (17, .int (gP f (plP f n (gT f r) (q + 1)) 0)), (0, .ref b), (1, .ref (ad (429))), (2, .int v2), (3, .int (nI t)), (4, .int (nI n)), (5, .int v5), (6, .int v6), (7, .int (f 4)), (8, .int v8), (9, .int (gT f r)), (10, .int (nI (cN f n (gT f r)))), (11, .int v11), (12, .int v12), (13, .int v13), (14, .int v14), (15, .ref tx), (16, .int (nI (q + 1)))]) hx hb dL_law_125 hl (by decide) rfl (fun ls hl => ?_)
  refine lv_iload hx hb dL_law_127 (lv_at hl 18 rfl) ?_
  refine lv_if_le (tgt := 143) hx hb dL_law_129 (by decide) (fun c_2 => absurd ((nI_leI (a := q + 1) (b := 0) (by omega) (by decide)).mp c_2) (by omega)) (fun c_2 => ?_)
  refine lv_aload_n hx hb dL_law_132 rfl (lv_at hl 3 rfl) ?_
  refine lv_iload hx hb dL_law_133 (lv_at hl 0 rfl) ?_
  refine W.eq (g2 := F0 m 135 ls [.int (gP f (plP f n (gT f r) q) 0), .ref (ad (429))]) (by rw [heB]) ?_
  refine lv_iload hx hb dL_law_135 (lv_at hl 1 rfl) ?_
  refine sp_callm (va_runS (As := [.ref (ad (429)), .int (gP f (plP f n (gT f r) q) 0), .int (gP f (plP f n (gT f r) (q + 1)) 0)]) (rest := []) ⟨hx, hb, hml, hown, hts⟩ (k_L_errors l D ad cy pm rj σ xq hst _ hA.1 hbr hj hk hbs) (va_cwS 3 hts gL_law_L_errors rfl rfl rfl (by decide +kernel) ⟨Nat.le_of_ble_eq_true rfl, Nat.le_of_ble_eq_true rfl⟩) (sp_preSmx hK hP (lwEX hE0 hA hS)) rfl rfl hl.1 rfl (lv_room (Nat.le_of_ble_eq_true rfl)) dL_law_137 ⟨by show _ ≤ 752875; omega, by show _ ≤ 6835470; omega⟩) hS (fun q _ h => lwAd hA hS q h) (fun q h => lwAd hA hS q h) (fun H locs hP hle hfr hS => ?_)
  have hTX := hTX.call hle hfr
  refine W.eq (g2 := F0 m 140 ls [.int (nI (eE f n t (plP f n (gT f r) (q + 1))))]) rfl ?_
  refine lv_goto (tgt := 144) hx hb dL_law_140 (by decide) ?_
  refine lv_istore (lv' := [(19, .int (nI (eE f n t (plP f n (gT f r) (q + 1))))), (18, .int (eB f n (plP f n (gT f r) (q + 1)))), (17, .int (gP f (plP f n (gT f r) (q + 1)) 0)), (0, .ref b), (1, .ref (ad (429))), (2, .int v2), (3, .int (nI t)), (4, .int (nI n)), (5, .int v5), (6, .int v6), (7, .int (f 4)), (8, .int v8), (9, .int (gT f r)), (10, .int (nI (cN f n (gT f r)))), (11, .int v11), (12, .int v12), (13, .int v13), (14, .int v14), (15, .ref tx), (16, .int (nI (q + 1)))]) hx hb dL_law_144 hl (by decide) rfl (fun ls hl => ?_)
  refine lv_iload hx hb dL_law_146 (lv_at hl 19 rfl) ?_
  refine lv_if_le (tgt := 162) hx hb dL_law_148 (by decide) (fun c_3 => absurd ((nI_leI (a := q + 1) (b := 0) (by omega) (by decide)).mp c_3) (by omega)) (fun c_3 => ?_)
  refine lv_aload_n hx hb dL_law_151 rfl (lv_at hl 4 rfl) ?_
  refine lv_iload hx hb dL_law_152 (lv_at hl 1 rfl) ?_
  refine W.eq (g2 := F0 m 154 ls [.int (gP f (plP f n (gT f r) q) 0), .ref (ad (429))]) (by rw [heB]) ?_
  refine lv_iload hx hb dL_law_154 (lv_at hl 2 rfl) ?_
  refine sp_callm (va_runS (As := [.ref (ad (429)), .int (gP f (plP f n (gT f r) q) 0), .int (gP f (plP f n (gT f r) (q + 1)) 0)]) (rest := []) ⟨hx, hb, hml, hown, hts⟩ (k_L_distance l D ad cy pm rj σ xq hst _ hA.1 hbr hj hk) (va_cwS 3 hts gL_law_L_distance rfl rfl rfl (by decide +kernel) ⟨Nat.le_of_ble_eq_true rfl, Nat.le_of_ble_eq_true rfl⟩) (sp_preSmx hK hP (lwEX hE0 hA hS)) rfl rfl hl.1 rfl (lv_room (Nat.le_of_ble_eq_true rfl)) dL_law_156 ⟨by show _ ≤ 752875; omega, by show _ ≤ 6835470; omega⟩) hS (fun q _ h => lwAd hA hS q h) (fun q h => lwAd hA hS q h) (fun H locs hP hle hfr hS => ?_)
  have hTX := hTX.call hle hfr
  refine W.eq (g2 := F0 m 159 ls [.int (m_dist f (plP f n (gT f r) q) (gP f (plP f n (gT f r) (q + 1)) 3) (gP f (plP f n (gT f r) (q + 1)) 4))]) rfl ?_
  refine W.eq (g2 := F0 m 159 ls [.int (eS f n (plP f n (gT f r) (q + 1)))]) (by rw [heS]) ?_
  refine lv_goto (tgt := 165) hx hb dL_law_159 (by decide) ?_
  refine lv_istore (lv' := [(20, .int (eS f n (plP f n (gT f r) (q + 1)))), (19, .int (nI (eE f n t (plP f n (gT f r) (q + 1))))), (18, .int (eB f n (plP f n (gT f r) (q + 1)))), (17, .int (gP f (plP f n (gT f r) (q + 1)) 0)), (0, .ref b), (1, .ref (ad (429))), (2, .int v2), (3, .int (nI t)), (4, .int (nI n)), (5, .int v5), (6, .int v6), (7, .int (f 4)), (8, .int v8), (9, .int (gT f r)), (10, .int (nI (cN f n (gT f r)))), (11, .int v11), (12, .int v12), (13, .int v13), (14, .int v14), (15, .ref tx), (16, .int (nI (q + 1)))]) hx hb dL_law_165 hl (by decide) rfl (fun ls hl => ?_)
  refine W.widen (k := cells + 20) (n := slots + 140) (by omega) (by omega) ?_
  exact kk _ _ _ hP hS hTX (lv_sub hl [4, 5, 6, 7, 8, 9, 10, 11, 12, 13, 14, 15, 16, 17, 18, 19, 20, 3, 2, 1, 0] rfl)
set_option maxHeartbeats 4000000 in
set_option maxRecDepth 100000 in
theorem kB0 {tx : Nat} {T : List Nat} (E0 : LE p l s m c args b L xs D cy xq) (hA : LA9 s.heap.size ad) (hbr : BR σ f B n t pi ro) (hB : B < 1000000) {r k : Nat} {v2 v5 v6 v8 v11 v12 v13 v14 : Int32} (hk : k < n) (hkx : gP f k 1 = gT f r) (hr : r < t)  (hc : cells + 6 ≤ 752875) (hs : slots + 40 ≤ 6835470) (hP : va_P D vwCl (cW ad cy pm rj σ) H) (hS : va_S (fun q => s.heap.size ≤ q) s.heap H locs) (hTX : TXs tx T.length (fun j => T.getD j 0) (sp_A ad 459 H.size) s H) (hl : lv_has ls 21 [(0, .ref b), (1, .ref (ad (429))), (2, .int v2), (3, .int (nI t)), (4, .int (nI n)), (5, .int v5), (6, .int v6), (7, .int (f 4)), (8, .int v8), (9, .int (gT f r)), (10, .int (nI (cN f n (gT f r)))), (11, .int v11), (12, .int v12), (13, .int v13), (14, .int v14), (15, .ref tx), (16, .int (nI 0)), (17, .int (gP f k 0)), (18, .int (eB f n k)), (19, .int (nI (eE f n t k))), (20, .int (eS f n k))]) (kk : ∀ (H1 : Heap) (locs1 : List Loc) (ls1 : Array Slot), va_P D vwCl (cW ad cy pm rj σ) H1 → va_S (fun q => s.heap.size ≤ q) s.heap H1 locs1 → TXs tx T.length (fun j => T.getD j 0) (sp_A ad 459 H1.size) s H1 → lv_has ls1 21 [(0, .ref b), (1, .ref (ad (429))), (2, .int v2), (3, .int (nI t)), (4, .int (nI n)), (5, .int v5), (6, .int v6), (7, .int (f 4)), (8, .int v8), (9, .int (gT f r)), (10, .int (nI (cN f n (gT f r)))), (11, .int v11), (12, .int v12), (13, .int v13), (14, .int v14), (15, .ref tx), (16, .int (nI 0)), (17, .int (gP f k 0)), (18, .int (eB f n k)), (19, .int (nI (eE f n t k))), (20, .int (eS f n k))] → W p l e room_1 s m args below meth c H1 locs1 (cells + 6) (slots + 40) Q (F0 m 198 ls1 [])) : W p l e room_1 s m args below meth c H locs (cells) (slots) Q (F0 m 167 ls []) := by
  have hE := E0
  obtain ⟨hx, hb, hml, hown, hts, htb, hX, hbl, hst, hK, hE0, hL⟩ := hE
  have hi := hA.1
  refine lv_aload_n hx hb dL_law_167 rfl (lv_at hl 1 rfl) ?_
  refine lv_iload hx hb dL_law_168 (lv_at hl 17 rfl) ?_
  refine sp_callm (va_runV (As := [.int (gP f k 0)]) (rest := []) ⟨hx, hb, hml, hown, hts⟩ (k_trackOf l D ad cy pm rj σ xq hst _ hA.1 hbr hk) (cwV 1 hts gL_law_X9_trackOf rfl rfl rfl (by decide +kernel) ⟨Nat.le_of_ble_eq_true rfl, Nat.le_of_ble_eq_true rfl⟩) (sp_preVmx hK hP (lwEX hE0 hA hS) (κ := 429) (by decide) cE_sp rfl) rfl rfl hl.1 rfl (lv_room (Nat.le_of_ble_eq_true rfl)) dL_law_170 ⟨by show _ ≤ 752875; omega, by show _ ≤ 6835470; omega⟩) hS (fun q _ h => lwAd hA hS q h) (fun q h => lwAd hA hS q h) (fun H locs hP hle hfr hS => ?_)
  have hTX := hTX.call hle hfr
  refine W.eq (g2 := F0 m 173 ls [.int (gP f k 1)]) rfl ?_
  refine W.eq (g2 := F0 m 173 ls [.int (gT f r)]) (by rw [hkx]) ?_
  refine lv_iload hx hb dL_law_173 (lv_at hl 9 rfl) ?_
  refine lv_icmp_ne (tgt := 389) hx hb dL_law_175 (by decide) (fun c_1 => absurd rfl c_1) (fun c_1 => ?_)
  refine lv_iload hx hb dL_law_178 (lv_at hl 16 rfl) ?_
  refine lv_if_le (tgt := 198) hx hb dL_law_180 (by decide) (fun c_2 => ?_) (fun c_2 => absurd (by decide) c_2)
  refine W.widen (k := cells + 6) (n := slots + 40) (by omega) (by omega) ?_
  exact kk _ _ _ hP hS hTX (lv_sub hl [0, 1, 2, 3, 4, 5, 6, 7, 8, 9, 10, 11, 12, 13, 14, 15, 16, 17, 18, 19, 20] rfl)
set_option maxHeartbeats 4000000 in
set_option maxRecDepth 100000 in
theorem kB1 {tx : Nat} {T : List Nat} (E0 : LE p l s m c args b L xs D cy xq) (hA : LA9 s.heap.size ad) (hbr : BR σ f B n t pi ro) (hB : B < 1000000) {r k : Nat} {q : Nat} {v2 v5 v6 v8 v11 v12 v13 v14 : Int32} (hk : k < n) (hkx : gP f k 1 = gT f r) (hr : r < t) {j : Nat} (hj : j < n) (hq : q + 1 < 2 ^ 31) (hbs : m_bes f n k false = some j) (htm : gP f j 2 < gP f k 2)  (hc : cells + 6 ≤ 752875) (hs : slots + 40 ≤ 6835470) (hP : va_P D vwCl (cW ad cy pm rj σ) H) (hS : va_S (fun q => s.heap.size ≤ q) s.heap H locs) (hTX : TXs tx T.length (fun j => T.getD j 0) (sp_A ad 459 H.size) s H) (hl : lv_has ls 21 [(0, .ref b), (1, .ref (ad (429))), (2, .int v2), (3, .int (nI t)), (4, .int (nI n)), (5, .int v5), (6, .int v6), (7, .int (f 4)), (8, .int v8), (9, .int (gT f r)), (10, .int (nI (cN f n (gT f r)))), (11, .int v11), (12, .int v12), (13, .int v13), (14, .int v14), (15, .ref tx), (16, .int (nI (q + 1))), (17, .int (gP f k 0)), (18, .int (eB f n k)), (19, .int (nI (eE f n t k))), (20, .int (eS f n k))]) (kk : ∀ (H1 : Heap) (locs1 : List Loc) (ls1 : Array Slot), va_P D vwCl (cW ad cy pm rj σ) H1 → va_S (fun q => s.heap.size ≤ q) s.heap H1 locs1 → TXs tx T.length (fun j => T.getD j 0) (sp_A ad 459 H1.size) s H1 → lv_has ls1 21 [(0, .ref b), (1, .ref (ad (429))), (2, .int v2), (3, .int (nI t)), (4, .int (nI n)), (5, .int v5), (6, .int v6), (7, .int (f 4)), (8, .int v8), (9, .int (gT f r)), (10, .int (nI (cN f n (gT f r)))), (11, .int v11), (12, .int v12), (13, .int v13), (14, .int v14), (15, .ref tx), (16, .int (nI (q + 1))), (17, .int (gP f k 0)), (18, .int (eB f n k)), (19, .int (nI (eE f n t k))), (20, .int (eS f n k))] → W p l e room_1 s m args below meth c H1 locs1 (cells + 6) (slots + 40) Q (F0 m 198 ls1 [])) : W p l e room_1 s m args below meth c H locs (cells) (slots) Q (F0 m 167 ls []) := by
  have hE := E0
  obtain ⟨hx, hb, hml, hown, hts, htb, hX, hbl, hst, hK, hE0, hL⟩ := hE
  have hi := hA.1
  refine lv_aload_n hx hb dL_law_167 rfl (lv_at hl 1 rfl) ?_
  refine lv_iload hx hb dL_law_168 (lv_at hl 17 rfl) ?_
  refine sp_callm (va_runV (As := [.int (gP f k 0)]) (rest := []) ⟨hx, hb, hml, hown, hts⟩ (k_trackOf l D ad cy pm rj σ xq hst _ hA.1 hbr hk) (cwV 1 hts gL_law_X9_trackOf rfl rfl rfl (by decide +kernel) ⟨Nat.le_of_ble_eq_true rfl, Nat.le_of_ble_eq_true rfl⟩) (sp_preVmx hK hP (lwEX hE0 hA hS) (κ := 429) (by decide) cE_sp rfl) rfl rfl hl.1 rfl (lv_room (Nat.le_of_ble_eq_true rfl)) dL_law_170 ⟨by show _ ≤ 752875; omega, by show _ ≤ 6835470; omega⟩) hS (fun q _ h => lwAd hA hS q h) (fun q h => lwAd hA hS q h) (fun H locs hP hle hfr hS => ?_)
  have hTX := hTX.call hle hfr
  refine W.eq (g2 := F0 m 173 ls [.int (gP f k 1)]) rfl ?_
  refine W.eq (g2 := F0 m 173 ls [.int (gT f r)]) (by rw [hkx]) ?_
  refine lv_iload hx hb dL_law_173 (lv_at hl 9 rfl) ?_
  refine lv_icmp_ne (tgt := 389) hx hb dL_law_175 (by decide) (fun c_1 => absurd rfl c_1) (fun c_1 => ?_)
  refine lv_iload hx hb dL_law_178 (lv_at hl 16 rfl) ?_
  refine lv_if_le (tgt := 198) hx hb dL_law_180 (by decide) (fun c_2 => absurd ((nI_leI (a := q + 1) (b := 0) (by omega) (by decide)).mp c_2) (by omega)) (fun c_2 => ?_)
  refine lv_aload_n hx hb dL_law_183 rfl (lv_at hl 1 rfl) ?_
  refine lv_iload hx hb dL_law_184 (lv_at hl 17 rfl) ?_
  refine sp_callm (va_runV (As := [.int (gP f k 0)]) (rest := []) ⟨hx, hb, hml, hown, hts⟩ (k_timeOf l D ad cy pm rj σ xq hst _ hA.1 hbr hk) (cwV 1 hts gL_law_X9_timeOf rfl rfl rfl (by decide +kernel) ⟨Nat.le_of_ble_eq_true rfl, Nat.le_of_ble_eq_true rfl⟩) (sp_preVmx hK hP (lwEX hE0 hA hS) (κ := 429) (by decide) cE_sp rfl) rfl rfl hl.1 rfl (lv_room (Nat.le_of_ble_eq_true rfl)) dL_law_186 ⟨by show _ ≤ 752875; omega, by show _ ≤ 6835470; omega⟩) hS (fun q _ h => lwAd hA hS q h) (fun q h => lwAd hA hS q h) (fun H locs hP hle hfr hS => ?_)
  have hTX := hTX.call hle hfr
  refine W.eq (g2 := F0 m 189 ls [.int (gP f k 2)]) rfl ?_
  refine lv_aload_n hx hb dL_law_189 rfl (lv_at hl 1 rfl) ?_
  refine lv_iload hx hb dL_law_190 (lv_at hl 18 rfl) ?_
  refine W.eq (g2 := F0 m 192 ls [.int (gP f j 0), .ref (ad (429)), .int (gP f k 2)]) (by rw [show eB f n k = gP f j 0 from by unfold eB; rw [hbs]; rfl]) ?_
  refine sp_callm (va_runV (As := [.int (gP f j 0)]) (rest := [.int (gP f k 2)]) ⟨hx, hb, hml, hown, hts⟩ (k_timeOf l D ad cy pm rj σ xq hst _ hA.1 hbr hj) (cwV 1 hts gL_law_X9_timeOf rfl rfl rfl (by decide +kernel) ⟨Nat.le_of_ble_eq_true rfl, Nat.le_of_ble_eq_true rfl⟩) (sp_preVmx hK hP (lwEX hE0 hA hS) (κ := 429) (by decide) cE_sp rfl) rfl rfl hl.1 rfl (lv_room (Nat.le_of_ble_eq_true rfl)) dL_law_192 ⟨by show _ ≤ 752875; omega, by show _ ≤ 6835470; omega⟩) hS (fun q _ h => lwAd hA hS q h) (fun q h => lwAd hA hS q h) (fun H locs hP hle hfr hS => ?_)
  have hTX := hTX.call hle hfr
  refine W.eq (g2 := F0 m 195 ls [.int (gP f j 2), .int (gP f k 2)]) rfl ?_
  refine lv_icmp_le (tgt := 389) hx hb dL_law_195 (by decide) (fun c_3 => absurd htm (Int32.not_lt.mpr c_3)) (fun c_3 => ?_)
  refine W.widen (k := cells + 6) (n := slots + 40) (by omega) (by omega) ?_
  exact kk _ _ _ hP hS hTX (lv_sub hl [0, 1, 2, 3, 4, 5, 6, 7, 8, 9, 10, 11, 12, 13, 14, 15, 16, 17, 18, 19, 20] rfl)
set_option maxHeartbeats 4000000 in
set_option maxRecDepth 100000 in
theorem kB2 {tx : Nat} {T : List Nat} (E0 : LE p l s m c args b L xs D cy xq) (hA : LA9 s.heap.size ad) (hbr : BR σ f B n t pi ro) (hB : B < 1000000) {r q : Nat} {v2 v5 v6 v8 v11 v12 v13 v14 : Int32} (hr : r < t) (hq : q + 1 < cN f n (gT f r))  (hc : cells + 30 ≤ 752875) (hs : slots + 200 ≤ 6835470) (hP : va_P D vwCl (cW ad cy pm rj σ) H) (hS : va_S (fun q => s.heap.size ≤ q) s.heap H locs) (hTX : TXs tx T.length (fun j => T.getD j 0) (sp_A ad 459 H.size) s H) (hl : lv_has ls 21 [(0, .ref b), (1, .ref (ad (429))), (2, .int v2), (3, .int (nI t)), (4, .int (nI n)), (5, .int v5), (6, .int v6), (7, .int (f 4)), (8, .int v8), (9, .int (gT f r)), (10, .int (nI (cN f n (gT f r)))), (11, .int v11), (12, .int v12), (13, .int v13), (14, .int v14), (15, .ref tx), (16, .int (nI q)), (17, .int (gP f (plP f n (gT f r) q) 0)), (18, .int (eB f n (plP f n (gT f r) q))), (19, .int (nI (eE f n t (plP f n (gT f r) q)))), (20, .int (eS f n (plP f n (gT f r) q)))]) (kk : ∀ (H1 : Heap) (locs1 : List Loc) (ls1 : Array Slot), va_P D vwCl (cW ad cy pm rj σ) H1 → va_S (fun q => s.heap.size ≤ q) s.heap H1 locs1 → TXs tx T.length (fun j => T.getD j 0) (sp_A ad 459 H1.size) s H1 → lv_has ls1 21 [(0, .ref b), (1, .ref (ad (429))), (2, .int v2), (3, .int (nI t)), (4, .int (nI n)), (5, .int v5), (6, .int v6), (7, .int (f 4)), (8, .int v8), (9, .int (gT f r)), (10, .int (nI (cN f n (gT f r)))), (11, .int v11), (12, .int v12), (13, .int v13), (14, .int v14), (15, .ref tx), (16, .int (nI q)), (17, .int (gP f (plP f n (gT f r) q) 0)), (18, .int (eB f n (plP f n (gT f r) q))), (19, .int (nI (eE f n t (plP f n (gT f r) q)))), (20, .int (eS f n (plP f n (gT f r) q)))] → W p l e room_1 s m args below meth c H1 locs1 (cells + 30) (slots + 200) Q (F0 m 391 ls1 [])) : W p l e room_1 s m args below meth c H locs (cells) (slots) Q (F0 m 198 ls []) := by
  have hE := E0
  obtain ⟨hx, hb, hml, hown, hts, htb, hX, hbl, hst, hK, hE0, hL⟩ := hE
  have hi := hA.1
  have hcl := cntN_le (tA f (gT f r)) n
  have h30 := hbr.n30
  have hcE : cN f n (gT f r) = cntN (tA f (gT f r)) n := rfl
  have hk := (plP_ok hbr.vx hbr.n30 (x := gT f r) (q := q) (by omega)).2.1
  refine lv_aload_n hx hb dL_law_198 rfl (lv_at hl 1 rfl) ?_
  refine lv_iload hx hb dL_law_199 (lv_at hl 17 rfl) ?_
  refine sp_callm (vx_runSW (As := [.ref (ad (429)), .int (gP f (plP f n (gT f r) q) 0)]) (rest := []) ⟨hx, hb, hml, hown, hts⟩ (k_L_previousPrint l D ad cy pm rj σ xq hst _ hA.1 hbr hk) (vx_cwSW 2 hts gL_law_L_previousPrint rfl rfl rfl (by decide +kernel) ⟨Nat.le_of_ble_eq_true rfl, Nat.le_of_ble_eq_true rfl⟩) (sp_preSmx hK hP (lwEX hE0 hA hS)) rfl rfl hl.1 rfl (lv_room (Nat.le_of_ble_eq_true rfl)) dL_law_201 ⟨by show _ ≤ 752875; omega, by show _ ≤ 6835470; omega⟩) hS (fun q _ h => lwAd hA hS q h) (fun q h => lwAd hA hS q h) (fun H locs hP hle hfr hS => ?_)
  have hTX := hTX.call hle hfr
  refine W.eq (g2 := F0 m 204 ls [.int (eB f n (plP f n (gT f r) q))]) rfl ?_
  refine lv_iload hx hb dL_law_204 (lv_at hl 18 rfl) ?_
  refine lv_icmp_ne (tgt := 389) hx hb dL_law_206 (by decide) (fun c_1 => absurd rfl c_1) (fun c_1 => ?_)
  refine lv_aload_n hx hb dL_law_209 rfl (lv_at hl 1 rfl) ?_
  refine lv_iload hx hb dL_law_210 (lv_at hl 17 rfl) ?_
  refine sp_callm (vx_runSW (As := [.ref (ad (429)), .int (gP f (plP f n (gT f r) q) 0)]) (rest := []) ⟨hx, hb, hml, hown, hts⟩ (k_L_nextPrint l D ad cy pm rj σ xq hst _ hA.1 hbr hk) (vx_cwSW 2 hts gL_law_L_nextPrint rfl rfl rfl (by decide +kernel) ⟨Nat.le_of_ble_eq_true rfl, Nat.le_of_ble_eq_true rfl⟩) (sp_preSmx hK hP (lwEX hE0 hA hS)) rfl rfl hl.1 rfl (lv_room (Nat.le_of_ble_eq_true rfl)) dL_law_212 ⟨by show _ ≤ 752875; omega, by show _ ≤ 6835470; omega⟩) hS (fun q _ h => lwAd hA hS q h) (fun q h => lwAd hA hS q h) (fun H locs hP hle hfr hS => ?_)
  have hTX := hTX.call hle hfr
  refine W.eq (g2 := F0 m 215 ls [.int (eN f n (plP f n (gT f r) q))]) rfl ?_
  refine lv_iload hx hb dL_law_215 (lv_at hl 16 rfl) ?_
  refine lv_iload hx hb dL_law_217 (lv_at hl 10 rfl) ?_
  refine lv_iconst (v := 1) hx hb dL_law_219 (by decide) ?_
  refine lv_isub hx hb dL_law_220 ?_
  refine W.eq (g2 := F0 m 221 ls [.int (nI (cN f n (gT f r) - 1)), .int (nI q), .int (eN f n (plP f n (gT f r) q))]) (by rw [show nI (cN f n (gT f r)) - 1 = nI (cN f n (gT f r) - 1) from nI_subE (b := 1) rfl rfl (by omega)]) ?_
  have heN : gP f (plP f n (gT f r) (q + 1)) 0 = eN f n (plP f n (gT f r) q) := by unfold eN; rw [plP_aftS hbr.vx hbr.n30 hq]; rfl
  refine lv_icmp_ge (tgt := 237) hx hb dL_law_221 (by decide) (fun c_2 => absurd ((nI_leI (a := cN f n (gT f r) - 1) (b := q) (by omega) (by omega)).mp c_2) (by omega)) (fun c_2 => ?_)
  refine lv_aload_n hx hb dL_law_224 rfl (lv_at hl 1 rfl) ?_
  refine lv_iload hx hb dL_law_225 (lv_at hl 9 rfl) ?_
  refine lv_iload hx hb dL_law_227 (lv_at hl 16 rfl) ?_
  refine lv_iconst (v := 1) hx hb dL_law_229 (by decide) ?_
  refine lv_iadd hx hb dL_law_230 ?_
  refine W.eq (g2 := F0 m 231 ls [.int (nI (q + 1)), .int (gT f r), .ref (ad (429)), .int (eN f n (plP f n (gT f r) q))]) (by rw [show nI q + 1 = nI (q + 1) from nI_1 q]) ?_
  refine sp_callm (va_runV (As := [.int (gT f r), .int (nI (q + 1))]) (rest := [.int (eN f n (plP f n (gT f r) q))]) ⟨hx, hb, hml, hown, hts⟩ (k_printAt l D ad cy pm rj σ xq hst _ hA.1 hbr hr hq) (cwV 2 hts gL_law_X9_printAt rfl rfl rfl (by decide +kernel) ⟨Nat.le_of_ble_eq_true rfl, Nat.le_of_ble_eq_true rfl⟩) (sp_preVmx hK hP (lwEX hE0 hA hS) (κ := 429) (by decide) cE_sp rfl) rfl rfl hl.1 rfl (lv_room (Nat.le_of_ble_eq_true rfl)) dL_law_231 ⟨by show _ ≤ 752875; omega, by show _ ≤ 6835470; omega⟩) hS (fun q _ h => lwAd hA hS q h) (fun q h => lwAd hA hS q h) (fun H locs hP hle hfr hS => ?_)
  have hTX := hTX.call hle hfr
  refine W.eq (g2 := F0 m 234 ls [.int (gP f (plP f n (gT f r) (q + 1)) 0), .int (eN f n (plP f n (gT f r) q))]) rfl ?_
  refine lv_goto (tgt := 240) hx hb dL_law_234 (by decide) ?_
  refine W.eq (g2 := F0 m 240 ls [.int (eN f n (plP f n (gT f r) q)), .int (eN f n (plP f n (gT f r) q))]) (by rw [heN]) ?_
  refine lv_icmp_ne (tgt := 389) hx hb dL_law_240 (by decide) (fun c_3 => absurd rfl c_3) (fun c_3 => ?_)
  refine lv_aload_n hx hb dL_law_243 rfl (lv_at hl 1 rfl) ?_
  refine lv_iload hx hb dL_law_244 (lv_at hl 17 rfl) ?_
  refine sp_callm (vx_runSW (As := [.ref (ad (429)), .int (gP f (plP f n (gT f r) q) 0)]) (rest := []) ⟨hx, hb, hml, hown, hts⟩ (k_L_strideOf l D ad cy pm rj σ xq hst _ hA.1 hbr hk) (vx_cwSW 2 hts gL_law_L_strideOf rfl rfl rfl (by decide +kernel) ⟨Nat.le_of_ble_eq_true rfl, Nat.le_of_ble_eq_true rfl⟩) (sp_preSmx hK hP (lwEX hE0 hA hS)) rfl rfl hl.1 rfl (lv_room (Nat.le_of_ble_eq_true rfl)) dL_law_246 ⟨by show _ ≤ 752875; omega, by show _ ≤ 6835470; omega⟩) hS (fun q _ h => lwAd hA hS q h) (fun q h => lwAd hA hS q h) (fun H locs hP hle hfr hS => ?_)
  have hTX := hTX.call hle hfr
  refine W.eq (g2 := F0 m 249 ls [.int (eS f n (plP f n (gT f r) q))]) rfl ?_
  refine lv_iload hx hb dL_law_249 (lv_at hl 20 rfl) ?_
  refine lv_icmp_ne (tgt := 389) hx hb dL_law_251 (by decide) (fun c_4 => absurd rfl c_4) (fun c_4 => ?_)
  refine lv_aload_n hx hb dL_law_254 rfl (lv_at hl 1 rfl) ?_
  refine lv_iload hx hb dL_law_255 (lv_at hl 17 rfl) ?_
  refine sp_callm (va_runV (As := [.int (gP f (plP f n (gT f r) q) 0)]) (rest := []) ⟨hx, hb, hml, hown, hts⟩ (k_hasStrideError l D ad cy pm rj σ xq hst _ hA.1 hbr hk) (cwV 1 hts gL_law_X9_hasStrideError rfl rfl rfl (by decide +kernel) ⟨Nat.le_of_ble_eq_true rfl, Nat.le_of_ble_eq_true rfl⟩) (sp_preVmx hK hP (lwEX hE0 hA hS) (κ := 429) (by decide) cE_sp rfl) rfl rfl hl.1 rfl (lv_room (Nat.le_of_ble_eq_true rfl)) dL_law_257 ⟨by show _ ≤ 752875; omega, by show _ ≤ 6835470; omega⟩) hS (fun q _ h => lwAd hA hS q h) (fun q h => lwAd hA hS q h) (fun H locs hP hle hfr hS => ?_)
  have hTX := hTX.call hle hfr
  refine W.eq (g2 := F0 m 260 ls [.int (b2i (m_err f n t (plP f n (gT f r) q) 0))]) rfl ?_
  refine lv_iload hx hb dL_law_260 (lv_at hl 19 rfl) ?_
  refine lv_iconst (v := 1) hx hb dL_law_262 (by decide) ?_
  refine lv_iand hx hb dL_law_263 ?_
  refine w_tern (ls := ls) (rest := [.int (b2i (m_err f n t (plP f n (gT f r) q) 0))]) (P := fun v => v = .int (b2i (m_err f n t (plP f n (gT f r) q) 0))) (J := 272) (fun K => ?_) (fun v hv => ?_)
  · skip
    refine lv_if_le (tgt := 271) hx hb dL_law_264 (by decide) (fun c_5 => ?_) (fun c_5 => ?_)
    · skip
      refine lv_iconst (v := 0) hx hb dL_law_271 (by decide) ?_
      exact K _ (congrArg Value.int (by rw [ee_1.mp c_5]; rfl))
    · skip
      refine lv_iconst (v := 1) hx hb dL_law_267 (by decide) ?_
      refine lv_goto (tgt := 272) hx hb dL_law_268 (by decide) ?_
      exact K _ (congrArg Value.int (by rw [bt_f (fun z9 => c_5 (ee_1.mpr z9))]; rfl))
  · subst hv
    refine lv_icmp_ne (tgt := 389) hx hb dL_law_272 (by decide) (fun c_6 => absurd rfl c_6) (fun c_6 => ?_)
    refine lv_aload_n hx hb dL_law_275 rfl (lv_at hl 1 rfl) ?_
    refine lv_iload hx hb dL_law_276 (lv_at hl 17 rfl) ?_
    refine sp_callm (va_runV (As := [.int (gP f (plP f n (gT f r) q) 0)]) (rest := []) ⟨hx, hb, hml, hown, hts⟩ (k_hasFootError l D ad cy pm rj σ xq hst _ hA.1 hbr hk) (cwV 1 hts gL_law_X9_hasFootError rfl rfl rfl (by decide +kernel) ⟨Nat.le_of_ble_eq_true rfl, Nat.le_of_ble_eq_true rfl⟩) (sp_preVmx hK hP (lwEX hE0 hA hS) (κ := 429) (by decide) cE_sp rfl) rfl rfl hl.1 rfl (lv_room (Nat.le_of_ble_eq_true rfl)) dL_law_278 ⟨by show _ ≤ 752875; omega, by show _ ≤ 6835470; omega⟩) hS (fun q _ h => lwAd hA hS q h) (fun q h => lwAd hA hS q h) (fun H locs hP hle hfr hS => ?_)
    have hTX := hTX.call hle hfr
    refine W.eq (g2 := F0 m 281 ls [.int (b2i (m_err f n t (plP f n (gT f r) q) 1))]) rfl ?_
    refine lv_iload hx hb dL_law_281 (lv_at hl 19 rfl) ?_
    refine lv_iconst (v := 2) hx hb dL_law_283 (by decide) ?_
    refine lv_iand hx hb dL_law_284 ?_
    refine w_tern (ls := ls) (rest := [.int (b2i (m_err f n t (plP f n (gT f r) q) 1))]) (P := fun v => v = .int (b2i (m_err f n t (plP f n (gT f r) q) 1))) (J := 293) (fun K => ?_) (fun v hv => ?_)
    · skip
      refine lv_if_le (tgt := 292) hx hb dL_law_285 (by decide) (fun c_7 => ?_) (fun c_7 => ?_)
      · skip
        refine lv_iconst (v := 0) hx hb dL_law_292 (by decide) ?_
        exact K _ (congrArg Value.int (by rw [ee_2.mp c_7]; rfl))
      · skip
        refine lv_iconst (v := 1) hx hb dL_law_288 (by decide) ?_
        refine lv_goto (tgt := 293) hx hb dL_law_289 (by decide) ?_
        exact K _ (congrArg Value.int (by rw [bt_f (fun z9 => c_7 (ee_2.mpr z9))]; rfl))
    · subst hv
      refine lv_icmp_ne (tgt := 389) hx hb dL_law_293 (by decide) (fun c_8 => absurd rfl c_8) (fun c_8 => ?_)
      refine lv_aload_n hx hb dL_law_296 rfl (lv_at hl 1 rfl) ?_
      refine lv_iload hx hb dL_law_297 (lv_at hl 17 rfl) ?_
      refine sp_callm (va_runV (As := [.int (gP f (plP f n (gT f r) q) 0)]) (rest := []) ⟨hx, hb, hml, hown, hts⟩ (k_hasDepthError l D ad cy pm rj σ xq hst _ hA.1 hbr hk) (cwV 1 hts gL_law_X9_hasDepthError rfl rfl rfl (by decide +kernel) ⟨Nat.le_of_ble_eq_true rfl, Nat.le_of_ble_eq_true rfl⟩) (sp_preVmx hK hP (lwEX hE0 hA hS) (κ := 429) (by decide) cE_sp rfl) rfl rfl hl.1 rfl (lv_room (Nat.le_of_ble_eq_true rfl)) dL_law_299 ⟨by show _ ≤ 752875; omega, by show _ ≤ 6835470; omega⟩) hS (fun q _ h => lwAd hA hS q h) (fun q h => lwAd hA hS q h) (fun H locs hP hle hfr hS => ?_)
      have hTX := hTX.call hle hfr
      refine W.eq (g2 := F0 m 302 ls [.int (b2i (m_err f n t (plP f n (gT f r) q) 2))]) rfl ?_
      refine lv_iload hx hb dL_law_302 (lv_at hl 19 rfl) ?_
      refine lv_iconst (v := 4) hx hb dL_law_304 (by decide) ?_
      refine lv_iand hx hb dL_law_305 ?_
      refine w_tern (ls := ls) (rest := [.int (b2i (m_err f n t (plP f n (gT f r) q) 2))]) (P := fun v => v = .int (b2i (m_err f n t (plP f n (gT f r) q) 2))) (J := 314) (fun K => ?_) (fun v hv => ?_)
      · skip
        refine lv_if_le (tgt := 313) hx hb dL_law_306 (by decide) (fun c_9 => ?_) (fun c_9 => ?_)
        · skip
          refine lv_iconst (v := 0) hx hb dL_law_313 (by decide) ?_
          exact K _ (congrArg Value.int (by rw [ee_4.mp c_9]; rfl))
        · skip
          refine lv_iconst (v := 1) hx hb dL_law_309 (by decide) ?_
          refine lv_goto (tgt := 314) hx hb dL_law_310 (by decide) ?_
          exact K _ (congrArg Value.int (by rw [bt_f (fun z9 => c_9 (ee_4.mpr z9))]; rfl))
      · subst hv
        refine lv_icmp_ne (tgt := 389) hx hb dL_law_314 (by decide) (fun c_10 => absurd rfl c_10) (fun c_10 => ?_)
        refine lv_aload_n hx hb dL_law_317 rfl (lv_at hl 1 rfl) ?_
        refine lv_iload hx hb dL_law_318 (lv_at hl 17 rfl) ?_
        refine sp_callm (va_runV (As := [.int (gP f (plP f n (gT f r) q) 0)]) (rest := []) ⟨hx, hb, hml, hown, hts⟩ (k_rowOf l D ad cy pm rj σ xq hst _ hA.1 hbr hk) (cwV 1 hts gL_law_X9_rowOf rfl rfl rfl (by decide +kernel) ⟨Nat.le_of_ble_eq_true rfl, Nat.le_of_ble_eq_true rfl⟩) (sp_preVmx hK hP (lwEX hE0 hA hS) (κ := 429) (by decide) cE_sp rfl) rfl rfl hl.1 rfl (lv_room (Nat.le_of_ble_eq_true rfl)) dL_law_320 ⟨by show _ ≤ 752875; omega, by show _ ≤ 6835470; omega⟩) hS (fun q _ h => lwAd hA hS q h) (fun q h => lwAd hA hS q h) (fun H locs hP hle hfr hS => ?_)
        have hTX := hTX.call hle hfr
        refine W.eq (g2 := F0 m 323 ls [.int (gP f (plP f n (gT f r) q) 3)]) rfl ?_
        refine lv_iload hx hb dL_law_323 (lv_at hl 7 rfl) ?_
        refine lv_icmp_lt (tgt := 389) hx hb dL_law_325 (by decide) (fun c_11 => absurd c_11 (Int32.not_lt.mpr ((hbr.vx.2.2.2.1 hB).2 _ hk))) (fun c_11 => ?_)
        refine lv_aload_n hx hb dL_law_328 rfl (lv_at hl 1 rfl) ?_
        refine lv_aload_n hx hb dL_law_329 rfl (lv_at hl 1 rfl) ?_
        refine lv_iload hx hb dL_law_330 (lv_at hl 17 rfl) ?_
        refine sp_callm (va_runV (As := [.int (gP f (plP f n (gT f r) q) 0)]) (rest := [.ref (ad (429))]) ⟨hx, hb, hml, hown, hts⟩ (k_rowOf l D ad cy pm rj σ xq hst _ hA.1 hbr hk) (cwV 1 hts gL_law_X9_rowOf rfl rfl rfl (by decide +kernel) ⟨Nat.le_of_ble_eq_true rfl, Nat.le_of_ble_eq_true rfl⟩) (sp_preVmx hK hP (lwEX hE0 hA hS) (κ := 429) (by decide) cE_sp rfl) rfl rfl hl.1 rfl (lv_room (Nat.le_of_ble_eq_true rfl)) dL_law_332 ⟨by show _ ≤ 752875; omega, by show _ ≤ 6835470; omega⟩) hS (fun q _ h => lwAd hA hS q h) (fun q h => lwAd hA hS q h) (fun H locs hP hle hfr hS => ?_)
        have hTX := hTX.call hle hfr
        refine W.eq (g2 := F0 m 335 ls [.int (gP f (plP f n (gT f r) q) 3), .ref (ad (429))]) rfl ?_
        refine lv_aload_n hx hb dL_law_335 rfl (lv_at hl 1 rfl) ?_
        refine lv_iload hx hb dL_law_336 (lv_at hl 17 rfl) ?_
        refine sp_callm (va_runV (As := [.int (gP f (plP f n (gT f r) q) 0)]) (rest := [.int (gP f (plP f n (gT f r) q) 3), .ref (ad (429))]) ⟨hx, hb, hml, hown, hts⟩ (k_columnOf l D ad cy pm rj σ xq hst _ hA.1 hbr hk) (cwV 1 hts gL_law_X9_columnOf rfl rfl rfl (by decide +kernel) ⟨Nat.le_of_ble_eq_true rfl, Nat.le_of_ble_eq_true rfl⟩) (sp_preVmx hK hP (lwEX hE0 hA hS) (κ := 429) (by decide) cE_sp rfl) rfl rfl hl.1 rfl (lv_room (Nat.le_of_ble_eq_true rfl)) dL_law_338 ⟨by show _ ≤ 752875; omega, by show _ ≤ 6835470; omega⟩) hS (fun q _ h => lwAd hA hS q h) (fun q h => lwAd hA hS q h) (fun H locs hP hle hfr hS => ?_)
        have hTX := hTX.call hle hfr
        refine W.eq (g2 := F0 m 341 ls [.int (gP f (plP f n (gT f r) q) 4), .int (gP f (plP f n (gT f r) q) 3), .ref (ad (429))]) rfl ?_
        refine sp_callm (va_runV (As := [.int (gP f (plP f n (gT f r) q) 3), .int (gP f (plP f n (gT f r) q) 4)]) (rest := []) ⟨hx, hb, hml, hown, hts⟩ (k_printIn l D ad cy pm rj σ xq hst _ hA.1 hbr hB hk) (cwV 2 hts gL_law_X9_printIn rfl rfl rfl (by decide +kernel) ⟨Nat.le_of_ble_eq_true rfl, Nat.le_of_ble_eq_true rfl⟩) (sp_preVmx hK hP (lwEX hE0 hA hS) (κ := 429) (by decide) cE_sp rfl) rfl rfl hl.1 rfl (lv_room (Nat.le_of_ble_eq_true rfl)) dL_law_341 ⟨by show _ ≤ 752875; omega, by show _ ≤ 6835470; omega⟩) hS (fun q _ h => lwAd hA hS q h) (fun q h => lwAd hA hS q h) (fun H locs hP hle hfr hS => ?_)
        have hTX := hTX.call hle hfr
        refine W.eq (g2 := F0 m 344 ls [.int (gP f (plP f n (gT f r) q) 0)]) rfl ?_
        refine lv_iload hx hb dL_law_344 (lv_at hl 17 rfl) ?_
        refine lv_icmp_ne (tgt := 389) hx hb dL_law_346 (by decide) (fun c_12 => absurd rfl c_12) (fun c_12 => ?_)
        refine lv_aload_n hx hb dL_law_349 rfl (lv_at hl 1 rfl) ?_
        refine lv_iload hx hb dL_law_350 (lv_at hl 17 rfl) ?_
        refine sp_callm (va_runV (As := [.int (gP f (plP f n (gT f r) q) 0)]) (rest := []) ⟨hx, hb, hml, hown, hts⟩ (k_doubtsOf l D ad cy pm rj σ xq hst _ hA.1 hbr hk) (cwV 1 hts gL_law_X9_doubtsOf rfl rfl rfl (by decide +kernel) ⟨Nat.le_of_ble_eq_true rfl, Nat.le_of_ble_eq_true rfl⟩) (sp_preVmx hK hP (lwEX hE0 hA hS) (κ := 429) (by decide) cE_sp rfl) rfl rfl hl.1 rfl (lv_room (Nat.le_of_ble_eq_true rfl)) dL_law_352 ⟨by show _ ≤ 752875; omega, by show _ ≤ 6835470; omega⟩) hS (fun q _ h => lwAd hA hS q h) (fun q h => lwAd hA hS q h) (fun H locs hP hle hfr hS => ?_)
        have hTX := hTX.call hle hfr
        refine W.eq (g2 := F0 m 355 ls [.int (gP f (plP f n (gT f r) q) 7)]) rfl ?_
        refine lv_if_lt (tgt := 389) hx hb dL_law_355 (by decide) (fun c_13 => absurd c_13 (Int32.not_lt.mpr (hbr.vp hk).2.2.2.2.2.1.1)) (fun c_13 => ?_)
        refine lv_aload_n hx hb dL_law_358 rfl (lv_at hl 1 rfl) ?_
        refine lv_iload hx hb dL_law_359 (lv_at hl 17 rfl) ?_
        refine sp_callm (va_runV (As := [.int (gP f (plP f n (gT f r) q) 0)]) (rest := []) ⟨hx, hb, hml, hown, hts⟩ (k_doubtsOf l D ad cy pm rj σ xq hst _ hA.1 hbr hk) (cwV 1 hts gL_law_X9_doubtsOf rfl rfl rfl (by decide +kernel) ⟨Nat.le_of_ble_eq_true rfl, Nat.le_of_ble_eq_true rfl⟩) (sp_preVmx hK hP (lwEX hE0 hA hS) (κ := 429) (by decide) cE_sp rfl) rfl rfl hl.1 rfl (lv_room (Nat.le_of_ble_eq_true rfl)) dL_law_361 ⟨by show _ ≤ 752875; omega, by show _ ≤ 6835470; omega⟩) hS (fun q _ h => lwAd hA hS q h) (fun q h => lwAd hA hS q h) (fun H locs hP hle hfr hS => ?_)
        have hTX := hTX.call hle hfr
        refine W.eq (g2 := F0 m 364 ls [.int (gP f (plP f n (gT f r) q) 7)]) rfl ?_
        refine lv_iconst (v := 3) hx hb dL_law_364 (by decide) ?_
        refine lv_icmp_gt (tgt := 389) hx hb dL_law_365 (by decide) (fun c_14 => absurd c_14 (Int32.not_lt.mpr (hbr.vp hk).2.2.2.2.2.1.2)) (fun c_14 => ?_)
        refine lv_aload_n hx hb dL_law_368 rfl (lv_at hl 1 rfl) ?_
        refine lv_iload hx hb dL_law_369 (lv_at hl 17 rfl) ?_
        refine sp_callm (va_runV (As := [.int (gP f (plP f n (gT f r) q) 0)]) (rest := []) ⟨hx, hb, hml, hown, hts⟩ (k_confidence l D ad cy pm rj σ xq hst _ hA.1 hbr hk) (cwV 1 hts gL_law_X9_confidence rfl rfl rfl (by decide +kernel) ⟨Nat.le_of_ble_eq_true rfl, Nat.le_of_ble_eq_true rfl⟩) (sp_preVmx hK hP (lwEX hE0 hA hS) (κ := 429) (by decide) cE_sp rfl) rfl rfl hl.1 rfl (lv_room (Nat.le_of_ble_eq_true rfl)) dL_law_371 ⟨by show _ ≤ 752875; omega, by show _ ≤ 6835470; omega⟩) hS (fun q _ h => lwAd hA hS q h) (fun q h => lwAd hA hS q h) (fun H locs hP hle hfr hS => ?_)
        have hTX := hTX.call hle hfr
        refine W.eq (g2 := F0 m 374 ls [.double (FP.ddiv FP.dconst1 (FP.dadd FP.dconst1 (FP.i2d (gP f (plP f n (gT f r) q) 7))))]) rfl ?_
        refine lv_dconst1 hx hb dL_law_374 ?_
        refine lv_dconst1 hx hb dL_law_375 ?_
        refine lv_aload_n hx hb dL_law_376 rfl (lv_at hl 1 rfl) ?_
        refine lv_iload hx hb dL_law_377 (lv_at hl 17 rfl) ?_
        refine sp_callm (va_runV (As := [.int (gP f (plP f n (gT f r) q) 0)]) (rest := [.double FP.dconst1, .double FP.dconst1, .double (FP.ddiv FP.dconst1 (FP.dadd FP.dconst1 (FP.i2d (gP f (plP f n (gT f r) q) 7))))]) ⟨hx, hb, hml, hown, hts⟩ (k_doubtsOf l D ad cy pm rj σ xq hst _ hA.1 hbr hk) (cwV 1 hts gL_law_X9_doubtsOf rfl rfl rfl (by decide +kernel) ⟨Nat.le_of_ble_eq_true rfl, Nat.le_of_ble_eq_true rfl⟩) (sp_preVmx hK hP (lwEX hE0 hA hS) (κ := 429) (by decide) cE_sp rfl) rfl rfl hl.1 rfl (lv_room (Nat.le_of_ble_eq_true rfl)) dL_law_379 ⟨by show _ ≤ 752875; omega, by show _ ≤ 6835470; omega⟩) hS (fun q _ h => lwAd hA hS q h) (fun q h => lwAd hA hS q h) (fun H locs hP hle hfr hS => ?_)
        have hTX := hTX.call hle hfr
        refine W.eq (g2 := F0 m 382 ls [.int (gP f (plP f n (gT f r) q) 7), .double FP.dconst1, .double FP.dconst1, .double (FP.ddiv FP.dconst1 (FP.dadd FP.dconst1 (FP.i2d (gP f (plP f n (gT f r) q) 7))))]) rfl ?_
        refine lv_i2d hx hb dL_law_382 ?_
        refine lv_dadd hx hb dL_law_383 ((conf_ok (hbr.dbM hk)).1) ?_
        refine lv_ddiv hx hb dL_law_384 ((conf_ok (hbr.dbM hk)).2) ?_
        refine lv_dcmp hx hb dL_law_385 ?_
        refine W.eq (g2 := F0 m 386 ls [.int (0)]) (by rw [conf_eq (hbr.dbM hk)]; rfl) ?_
        refine lv_if_eq (tgt := 391) hx hb dL_law_386 (by decide) (fun c_15 => ?_) (fun c_15 => absurd rfl c_15)
        refine W.widen (k := cells + 30) (n := slots + 200) (by omega) (by omega) ?_
        exact kk _ _ _ hP hS hTX (lv_sub hl [0, 1, 2, 3, 4, 5, 6, 7, 8, 9, 10, 11, 12, 13, 14, 15, 16, 17, 18, 19, 20] rfl)
set_option maxHeartbeats 4000000 in
set_option maxRecDepth 100000 in
theorem kB3 {tx : Nat} {T : List Nat} (E0 : LE p l s m c args b L xs D cy xq) (hA : LA9 s.heap.size ad) (hbr : BR σ f B n t pi ro) (hB : B < 1000000) {r q : Nat} {v2 v5 v6 v8 v11 v12 v13 v14 : Int32} (hr : r < t) (hq : q + 1 = cN f n (gT f r))  (hc : cells + 30 ≤ 752875) (hs : slots + 200 ≤ 6835470) (hP : va_P D vwCl (cW ad cy pm rj σ) H) (hS : va_S (fun q => s.heap.size ≤ q) s.heap H locs) (hTX : TXs tx T.length (fun j => T.getD j 0) (sp_A ad 459 H.size) s H) (hl : lv_has ls 21 [(0, .ref b), (1, .ref (ad (429))), (2, .int v2), (3, .int (nI t)), (4, .int (nI n)), (5, .int v5), (6, .int v6), (7, .int (f 4)), (8, .int v8), (9, .int (gT f r)), (10, .int (nI (cN f n (gT f r)))), (11, .int v11), (12, .int v12), (13, .int v13), (14, .int v14), (15, .ref tx), (16, .int (nI q)), (17, .int (gP f (plP f n (gT f r) q) 0)), (18, .int (eB f n (plP f n (gT f r) q))), (19, .int (nI (eE f n t (plP f n (gT f r) q)))), (20, .int (eS f n (plP f n (gT f r) q)))]) (kk : ∀ (H1 : Heap) (locs1 : List Loc) (ls1 : Array Slot), va_P D vwCl (cW ad cy pm rj σ) H1 → va_S (fun q => s.heap.size ≤ q) s.heap H1 locs1 → TXs tx T.length (fun j => T.getD j 0) (sp_A ad 459 H1.size) s H1 → lv_has ls1 21 [(0, .ref b), (1, .ref (ad (429))), (2, .int v2), (3, .int (nI t)), (4, .int (nI n)), (5, .int v5), (6, .int v6), (7, .int (f 4)), (8, .int v8), (9, .int (gT f r)), (10, .int (nI (cN f n (gT f r)))), (11, .int v11), (12, .int v12), (13, .int v13), (14, .int v14), (15, .ref tx), (16, .int (nI q)), (17, .int (gP f (plP f n (gT f r) q) 0)), (18, .int (eB f n (plP f n (gT f r) q))), (19, .int (nI (eE f n t (plP f n (gT f r) q)))), (20, .int (eS f n (plP f n (gT f r) q)))] → W p l e room_1 s m args below meth c H1 locs1 (cells + 30) (slots + 200) Q (F0 m 391 ls1 [])) : W p l e room_1 s m args below meth c H locs (cells) (slots) Q (F0 m 198 ls []) := by
  have hE := E0
  obtain ⟨hx, hb, hml, hown, hts, htb, hX, hbl, hst, hK, hE0, hL⟩ := hE
  have hi := hA.1
  have hcl := cntN_le (tA f (gT f r)) n
  have h30 := hbr.n30
  have hcE : cN f n (gT f r) = cntN (tA f (gT f r)) n := rfl
  have hk := (plP_ok hbr.vx hbr.n30 (x := gT f r) (q := q) (by omega)).2.1
  refine lv_aload_n hx hb dL_law_198 rfl (lv_at hl 1 rfl) ?_
  refine lv_iload hx hb dL_law_199 (lv_at hl 17 rfl) ?_
  refine sp_callm (vx_runSW (As := [.ref (ad (429)), .int (gP f (plP f n (gT f r) q) 0)]) (rest := []) ⟨hx, hb, hml, hown, hts⟩ (k_L_previousPrint l D ad cy pm rj σ xq hst _ hA.1 hbr hk) (vx_cwSW 2 hts gL_law_L_previousPrint rfl rfl rfl (by decide +kernel) ⟨Nat.le_of_ble_eq_true rfl, Nat.le_of_ble_eq_true rfl⟩) (sp_preSmx hK hP (lwEX hE0 hA hS)) rfl rfl hl.1 rfl (lv_room (Nat.le_of_ble_eq_true rfl)) dL_law_201 ⟨by show _ ≤ 752875; omega, by show _ ≤ 6835470; omega⟩) hS (fun q _ h => lwAd hA hS q h) (fun q h => lwAd hA hS q h) (fun H locs hP hle hfr hS => ?_)
  have hTX := hTX.call hle hfr
  refine W.eq (g2 := F0 m 204 ls [.int (eB f n (plP f n (gT f r) q))]) rfl ?_
  refine lv_iload hx hb dL_law_204 (lv_at hl 18 rfl) ?_
  refine lv_icmp_ne (tgt := 389) hx hb dL_law_206 (by decide) (fun c_1 => absurd rfl c_1) (fun c_1 => ?_)
  refine lv_aload_n hx hb dL_law_209 rfl (lv_at hl 1 rfl) ?_
  refine lv_iload hx hb dL_law_210 (lv_at hl 17 rfl) ?_
  refine sp_callm (vx_runSW (As := [.ref (ad (429)), .int (gP f (plP f n (gT f r) q) 0)]) (rest := []) ⟨hx, hb, hml, hown, hts⟩ (k_L_nextPrint l D ad cy pm rj σ xq hst _ hA.1 hbr hk) (vx_cwSW 2 hts gL_law_L_nextPrint rfl rfl rfl (by decide +kernel) ⟨Nat.le_of_ble_eq_true rfl, Nat.le_of_ble_eq_true rfl⟩) (sp_preSmx hK hP (lwEX hE0 hA hS)) rfl rfl hl.1 rfl (lv_room (Nat.le_of_ble_eq_true rfl)) dL_law_212 ⟨by show _ ≤ 752875; omega, by show _ ≤ 6835470; omega⟩) hS (fun q _ h => lwAd hA hS q h) (fun q h => lwAd hA hS q h) (fun H locs hP hle hfr hS => ?_)
  have hTX := hTX.call hle hfr
  refine W.eq (g2 := F0 m 215 ls [.int (eN f n (plP f n (gT f r) q))]) rfl ?_
  refine lv_iload hx hb dL_law_215 (lv_at hl 16 rfl) ?_
  refine lv_iload hx hb dL_law_217 (lv_at hl 10 rfl) ?_
  refine lv_iconst (v := 1) hx hb dL_law_219 (by decide) ?_
  refine lv_isub hx hb dL_law_220 ?_
  refine W.eq (g2 := F0 m 221 ls [.int (nI (cN f n (gT f r) - 1)), .int (nI q), .int (eN f n (plP f n (gT f r) q))]) (by rw [show nI (cN f n (gT f r)) - 1 = nI (cN f n (gT f r) - 1) from nI_subE (b := 1) rfl rfl (by omega)]) ?_
  have heN : (-30000 : Int32) = eN f n (plP f n (gT f r) q) := by unfold eN; rw [plP_aftE hbr.vx hbr.n30 hq]; rfl
  refine lv_icmp_ge (tgt := 237) hx hb dL_law_221 (by decide) (fun c_2 => ?_) (fun c_2 => absurd (nI_le (a := cN f n (gT f r) - 1) (b := q) (by omega) (by omega)) c_2)
  refine lv_sipush (v := (-30000)) hx hb dL_law_237 (by decide) ?_
  refine W.eq (g2 := F0 m 240 ls [.int (eN f n (plP f n (gT f r) q)), .int (eN f n (plP f n (gT f r) q))]) (by rw [heN]) ?_
  refine lv_icmp_ne (tgt := 389) hx hb dL_law_240 (by decide) (fun c_3 => absurd rfl c_3) (fun c_3 => ?_)
  refine lv_aload_n hx hb dL_law_243 rfl (lv_at hl 1 rfl) ?_
  refine lv_iload hx hb dL_law_244 (lv_at hl 17 rfl) ?_
  refine sp_callm (vx_runSW (As := [.ref (ad (429)), .int (gP f (plP f n (gT f r) q) 0)]) (rest := []) ⟨hx, hb, hml, hown, hts⟩ (k_L_strideOf l D ad cy pm rj σ xq hst _ hA.1 hbr hk) (vx_cwSW 2 hts gL_law_L_strideOf rfl rfl rfl (by decide +kernel) ⟨Nat.le_of_ble_eq_true rfl, Nat.le_of_ble_eq_true rfl⟩) (sp_preSmx hK hP (lwEX hE0 hA hS)) rfl rfl hl.1 rfl (lv_room (Nat.le_of_ble_eq_true rfl)) dL_law_246 ⟨by show _ ≤ 752875; omega, by show _ ≤ 6835470; omega⟩) hS (fun q _ h => lwAd hA hS q h) (fun q h => lwAd hA hS q h) (fun H locs hP hle hfr hS => ?_)
  have hTX := hTX.call hle hfr
  refine W.eq (g2 := F0 m 249 ls [.int (eS f n (plP f n (gT f r) q))]) rfl ?_
  refine lv_iload hx hb dL_law_249 (lv_at hl 20 rfl) ?_
  refine lv_icmp_ne (tgt := 389) hx hb dL_law_251 (by decide) (fun c_4 => absurd rfl c_4) (fun c_4 => ?_)
  refine lv_aload_n hx hb dL_law_254 rfl (lv_at hl 1 rfl) ?_
  refine lv_iload hx hb dL_law_255 (lv_at hl 17 rfl) ?_
  refine sp_callm (va_runV (As := [.int (gP f (plP f n (gT f r) q) 0)]) (rest := []) ⟨hx, hb, hml, hown, hts⟩ (k_hasStrideError l D ad cy pm rj σ xq hst _ hA.1 hbr hk) (cwV 1 hts gL_law_X9_hasStrideError rfl rfl rfl (by decide +kernel) ⟨Nat.le_of_ble_eq_true rfl, Nat.le_of_ble_eq_true rfl⟩) (sp_preVmx hK hP (lwEX hE0 hA hS) (κ := 429) (by decide) cE_sp rfl) rfl rfl hl.1 rfl (lv_room (Nat.le_of_ble_eq_true rfl)) dL_law_257 ⟨by show _ ≤ 752875; omega, by show _ ≤ 6835470; omega⟩) hS (fun q _ h => lwAd hA hS q h) (fun q h => lwAd hA hS q h) (fun H locs hP hle hfr hS => ?_)
  have hTX := hTX.call hle hfr
  refine W.eq (g2 := F0 m 260 ls [.int (b2i (m_err f n t (plP f n (gT f r) q) 0))]) rfl ?_
  refine lv_iload hx hb dL_law_260 (lv_at hl 19 rfl) ?_
  refine lv_iconst (v := 1) hx hb dL_law_262 (by decide) ?_
  refine lv_iand hx hb dL_law_263 ?_
  refine w_tern (ls := ls) (rest := [.int (b2i (m_err f n t (plP f n (gT f r) q) 0))]) (P := fun v => v = .int (b2i (m_err f n t (plP f n (gT f r) q) 0))) (J := 272) (fun K => ?_) (fun v hv => ?_)
  · skip
    refine lv_if_le (tgt := 271) hx hb dL_law_264 (by decide) (fun c_5 => ?_) (fun c_5 => ?_)
    · skip
      refine lv_iconst (v := 0) hx hb dL_law_271 (by decide) ?_
      exact K _ (congrArg Value.int (by rw [ee_1.mp c_5]; rfl))
    · skip
      refine lv_iconst (v := 1) hx hb dL_law_267 (by decide) ?_
      refine lv_goto (tgt := 272) hx hb dL_law_268 (by decide) ?_
      exact K _ (congrArg Value.int (by rw [bt_f (fun z9 => c_5 (ee_1.mpr z9))]; rfl))
  · subst hv
    refine lv_icmp_ne (tgt := 389) hx hb dL_law_272 (by decide) (fun c_6 => absurd rfl c_6) (fun c_6 => ?_)
    refine lv_aload_n hx hb dL_law_275 rfl (lv_at hl 1 rfl) ?_
    refine lv_iload hx hb dL_law_276 (lv_at hl 17 rfl) ?_
    refine sp_callm (va_runV (As := [.int (gP f (plP f n (gT f r) q) 0)]) (rest := []) ⟨hx, hb, hml, hown, hts⟩ (k_hasFootError l D ad cy pm rj σ xq hst _ hA.1 hbr hk) (cwV 1 hts gL_law_X9_hasFootError rfl rfl rfl (by decide +kernel) ⟨Nat.le_of_ble_eq_true rfl, Nat.le_of_ble_eq_true rfl⟩) (sp_preVmx hK hP (lwEX hE0 hA hS) (κ := 429) (by decide) cE_sp rfl) rfl rfl hl.1 rfl (lv_room (Nat.le_of_ble_eq_true rfl)) dL_law_278 ⟨by show _ ≤ 752875; omega, by show _ ≤ 6835470; omega⟩) hS (fun q _ h => lwAd hA hS q h) (fun q h => lwAd hA hS q h) (fun H locs hP hle hfr hS => ?_)
    have hTX := hTX.call hle hfr
    refine W.eq (g2 := F0 m 281 ls [.int (b2i (m_err f n t (plP f n (gT f r) q) 1))]) rfl ?_
    refine lv_iload hx hb dL_law_281 (lv_at hl 19 rfl) ?_
    refine lv_iconst (v := 2) hx hb dL_law_283 (by decide) ?_
    refine lv_iand hx hb dL_law_284 ?_
    refine w_tern (ls := ls) (rest := [.int (b2i (m_err f n t (plP f n (gT f r) q) 1))]) (P := fun v => v = .int (b2i (m_err f n t (plP f n (gT f r) q) 1))) (J := 293) (fun K => ?_) (fun v hv => ?_)
    · skip
      refine lv_if_le (tgt := 292) hx hb dL_law_285 (by decide) (fun c_7 => ?_) (fun c_7 => ?_)
      · skip
        refine lv_iconst (v := 0) hx hb dL_law_292 (by decide) ?_
        exact K _ (congrArg Value.int (by rw [ee_2.mp c_7]; rfl))
      · skip
        refine lv_iconst (v := 1) hx hb dL_law_288 (by decide) ?_
        refine lv_goto (tgt := 293) hx hb dL_law_289 (by decide) ?_
        exact K _ (congrArg Value.int (by rw [bt_f (fun z9 => c_7 (ee_2.mpr z9))]; rfl))
    · subst hv
      refine lv_icmp_ne (tgt := 389) hx hb dL_law_293 (by decide) (fun c_8 => absurd rfl c_8) (fun c_8 => ?_)
      refine lv_aload_n hx hb dL_law_296 rfl (lv_at hl 1 rfl) ?_
      refine lv_iload hx hb dL_law_297 (lv_at hl 17 rfl) ?_
      refine sp_callm (va_runV (As := [.int (gP f (plP f n (gT f r) q) 0)]) (rest := []) ⟨hx, hb, hml, hown, hts⟩ (k_hasDepthError l D ad cy pm rj σ xq hst _ hA.1 hbr hk) (cwV 1 hts gL_law_X9_hasDepthError rfl rfl rfl (by decide +kernel) ⟨Nat.le_of_ble_eq_true rfl, Nat.le_of_ble_eq_true rfl⟩) (sp_preVmx hK hP (lwEX hE0 hA hS) (κ := 429) (by decide) cE_sp rfl) rfl rfl hl.1 rfl (lv_room (Nat.le_of_ble_eq_true rfl)) dL_law_299 ⟨by show _ ≤ 752875; omega, by show _ ≤ 6835470; omega⟩) hS (fun q _ h => lwAd hA hS q h) (fun q h => lwAd hA hS q h) (fun H locs hP hle hfr hS => ?_)
      have hTX := hTX.call hle hfr
      refine W.eq (g2 := F0 m 302 ls [.int (b2i (m_err f n t (plP f n (gT f r) q) 2))]) rfl ?_
      refine lv_iload hx hb dL_law_302 (lv_at hl 19 rfl) ?_
      refine lv_iconst (v := 4) hx hb dL_law_304 (by decide) ?_
      refine lv_iand hx hb dL_law_305 ?_
      refine w_tern (ls := ls) (rest := [.int (b2i (m_err f n t (plP f n (gT f r) q) 2))]) (P := fun v => v = .int (b2i (m_err f n t (plP f n (gT f r) q) 2))) (J := 314) (fun K => ?_) (fun v hv => ?_)
      · skip
        refine lv_if_le (tgt := 313) hx hb dL_law_306 (by decide) (fun c_9 => ?_) (fun c_9 => ?_)
        · skip
          refine lv_iconst (v := 0) hx hb dL_law_313 (by decide) ?_
          exact K _ (congrArg Value.int (by rw [ee_4.mp c_9]; rfl))
        · skip
          refine lv_iconst (v := 1) hx hb dL_law_309 (by decide) ?_
          refine lv_goto (tgt := 314) hx hb dL_law_310 (by decide) ?_
          exact K _ (congrArg Value.int (by rw [bt_f (fun z9 => c_9 (ee_4.mpr z9))]; rfl))
      · subst hv
        refine lv_icmp_ne (tgt := 389) hx hb dL_law_314 (by decide) (fun c_10 => absurd rfl c_10) (fun c_10 => ?_)
        refine lv_aload_n hx hb dL_law_317 rfl (lv_at hl 1 rfl) ?_
        refine lv_iload hx hb dL_law_318 (lv_at hl 17 rfl) ?_
        refine sp_callm (va_runV (As := [.int (gP f (plP f n (gT f r) q) 0)]) (rest := []) ⟨hx, hb, hml, hown, hts⟩ (k_rowOf l D ad cy pm rj σ xq hst _ hA.1 hbr hk) (cwV 1 hts gL_law_X9_rowOf rfl rfl rfl (by decide +kernel) ⟨Nat.le_of_ble_eq_true rfl, Nat.le_of_ble_eq_true rfl⟩) (sp_preVmx hK hP (lwEX hE0 hA hS) (κ := 429) (by decide) cE_sp rfl) rfl rfl hl.1 rfl (lv_room (Nat.le_of_ble_eq_true rfl)) dL_law_320 ⟨by show _ ≤ 752875; omega, by show _ ≤ 6835470; omega⟩) hS (fun q _ h => lwAd hA hS q h) (fun q h => lwAd hA hS q h) (fun H locs hP hle hfr hS => ?_)
        have hTX := hTX.call hle hfr
        refine W.eq (g2 := F0 m 323 ls [.int (gP f (plP f n (gT f r) q) 3)]) rfl ?_
        refine lv_iload hx hb dL_law_323 (lv_at hl 7 rfl) ?_
        refine lv_icmp_lt (tgt := 389) hx hb dL_law_325 (by decide) (fun c_11 => absurd c_11 (Int32.not_lt.mpr ((hbr.vx.2.2.2.1 hB).2 _ hk))) (fun c_11 => ?_)
        refine lv_aload_n hx hb dL_law_328 rfl (lv_at hl 1 rfl) ?_
        refine lv_aload_n hx hb dL_law_329 rfl (lv_at hl 1 rfl) ?_
        refine lv_iload hx hb dL_law_330 (lv_at hl 17 rfl) ?_
        refine sp_callm (va_runV (As := [.int (gP f (plP f n (gT f r) q) 0)]) (rest := [.ref (ad (429))]) ⟨hx, hb, hml, hown, hts⟩ (k_rowOf l D ad cy pm rj σ xq hst _ hA.1 hbr hk) (cwV 1 hts gL_law_X9_rowOf rfl rfl rfl (by decide +kernel) ⟨Nat.le_of_ble_eq_true rfl, Nat.le_of_ble_eq_true rfl⟩) (sp_preVmx hK hP (lwEX hE0 hA hS) (κ := 429) (by decide) cE_sp rfl) rfl rfl hl.1 rfl (lv_room (Nat.le_of_ble_eq_true rfl)) dL_law_332 ⟨by show _ ≤ 752875; omega, by show _ ≤ 6835470; omega⟩) hS (fun q _ h => lwAd hA hS q h) (fun q h => lwAd hA hS q h) (fun H locs hP hle hfr hS => ?_)
        have hTX := hTX.call hle hfr
        refine W.eq (g2 := F0 m 335 ls [.int (gP f (plP f n (gT f r) q) 3), .ref (ad (429))]) rfl ?_
        refine lv_aload_n hx hb dL_law_335 rfl (lv_at hl 1 rfl) ?_
        refine lv_iload hx hb dL_law_336 (lv_at hl 17 rfl) ?_
        refine sp_callm (va_runV (As := [.int (gP f (plP f n (gT f r) q) 0)]) (rest := [.int (gP f (plP f n (gT f r) q) 3), .ref (ad (429))]) ⟨hx, hb, hml, hown, hts⟩ (k_columnOf l D ad cy pm rj σ xq hst _ hA.1 hbr hk) (cwV 1 hts gL_law_X9_columnOf rfl rfl rfl (by decide +kernel) ⟨Nat.le_of_ble_eq_true rfl, Nat.le_of_ble_eq_true rfl⟩) (sp_preVmx hK hP (lwEX hE0 hA hS) (κ := 429) (by decide) cE_sp rfl) rfl rfl hl.1 rfl (lv_room (Nat.le_of_ble_eq_true rfl)) dL_law_338 ⟨by show _ ≤ 752875; omega, by show _ ≤ 6835470; omega⟩) hS (fun q _ h => lwAd hA hS q h) (fun q h => lwAd hA hS q h) (fun H locs hP hle hfr hS => ?_)
        have hTX := hTX.call hle hfr
        refine W.eq (g2 := F0 m 341 ls [.int (gP f (plP f n (gT f r) q) 4), .int (gP f (plP f n (gT f r) q) 3), .ref (ad (429))]) rfl ?_
        refine sp_callm (va_runV (As := [.int (gP f (plP f n (gT f r) q) 3), .int (gP f (plP f n (gT f r) q) 4)]) (rest := []) ⟨hx, hb, hml, hown, hts⟩ (k_printIn l D ad cy pm rj σ xq hst _ hA.1 hbr hB hk) (cwV 2 hts gL_law_X9_printIn rfl rfl rfl (by decide +kernel) ⟨Nat.le_of_ble_eq_true rfl, Nat.le_of_ble_eq_true rfl⟩) (sp_preVmx hK hP (lwEX hE0 hA hS) (κ := 429) (by decide) cE_sp rfl) rfl rfl hl.1 rfl (lv_room (Nat.le_of_ble_eq_true rfl)) dL_law_341 ⟨by show _ ≤ 752875; omega, by show _ ≤ 6835470; omega⟩) hS (fun q _ h => lwAd hA hS q h) (fun q h => lwAd hA hS q h) (fun H locs hP hle hfr hS => ?_)
        have hTX := hTX.call hle hfr
        refine W.eq (g2 := F0 m 344 ls [.int (gP f (plP f n (gT f r) q) 0)]) rfl ?_
        refine lv_iload hx hb dL_law_344 (lv_at hl 17 rfl) ?_
        refine lv_icmp_ne (tgt := 389) hx hb dL_law_346 (by decide) (fun c_12 => absurd rfl c_12) (fun c_12 => ?_)
        refine lv_aload_n hx hb dL_law_349 rfl (lv_at hl 1 rfl) ?_
        refine lv_iload hx hb dL_law_350 (lv_at hl 17 rfl) ?_
        refine sp_callm (va_runV (As := [.int (gP f (plP f n (gT f r) q) 0)]) (rest := []) ⟨hx, hb, hml, hown, hts⟩ (k_doubtsOf l D ad cy pm rj σ xq hst _ hA.1 hbr hk) (cwV 1 hts gL_law_X9_doubtsOf rfl rfl rfl (by decide +kernel) ⟨Nat.le_of_ble_eq_true rfl, Nat.le_of_ble_eq_true rfl⟩) (sp_preVmx hK hP (lwEX hE0 hA hS) (κ := 429) (by decide) cE_sp rfl) rfl rfl hl.1 rfl (lv_room (Nat.le_of_ble_eq_true rfl)) dL_law_352 ⟨by show _ ≤ 752875; omega, by show _ ≤ 6835470; omega⟩) hS (fun q _ h => lwAd hA hS q h) (fun q h => lwAd hA hS q h) (fun H locs hP hle hfr hS => ?_)
        have hTX := hTX.call hle hfr
        refine W.eq (g2 := F0 m 355 ls [.int (gP f (plP f n (gT f r) q) 7)]) rfl ?_
        refine lv_if_lt (tgt := 389) hx hb dL_law_355 (by decide) (fun c_13 => absurd c_13 (Int32.not_lt.mpr (hbr.vp hk).2.2.2.2.2.1.1)) (fun c_13 => ?_)
        refine lv_aload_n hx hb dL_law_358 rfl (lv_at hl 1 rfl) ?_
        refine lv_iload hx hb dL_law_359 (lv_at hl 17 rfl) ?_
        refine sp_callm (va_runV (As := [.int (gP f (plP f n (gT f r) q) 0)]) (rest := []) ⟨hx, hb, hml, hown, hts⟩ (k_doubtsOf l D ad cy pm rj σ xq hst _ hA.1 hbr hk) (cwV 1 hts gL_law_X9_doubtsOf rfl rfl rfl (by decide +kernel) ⟨Nat.le_of_ble_eq_true rfl, Nat.le_of_ble_eq_true rfl⟩) (sp_preVmx hK hP (lwEX hE0 hA hS) (κ := 429) (by decide) cE_sp rfl) rfl rfl hl.1 rfl (lv_room (Nat.le_of_ble_eq_true rfl)) dL_law_361 ⟨by show _ ≤ 752875; omega, by show _ ≤ 6835470; omega⟩) hS (fun q _ h => lwAd hA hS q h) (fun q h => lwAd hA hS q h) (fun H locs hP hle hfr hS => ?_)
        have hTX := hTX.call hle hfr
        refine W.eq (g2 := F0 m 364 ls [.int (gP f (plP f n (gT f r) q) 7)]) rfl ?_
        refine lv_iconst (v := 3) hx hb dL_law_364 (by decide) ?_
        refine lv_icmp_gt (tgt := 389) hx hb dL_law_365 (by decide) (fun c_14 => absurd c_14 (Int32.not_lt.mpr (hbr.vp hk).2.2.2.2.2.1.2)) (fun c_14 => ?_)
        refine lv_aload_n hx hb dL_law_368 rfl (lv_at hl 1 rfl) ?_
        refine lv_iload hx hb dL_law_369 (lv_at hl 17 rfl) ?_
        refine sp_callm (va_runV (As := [.int (gP f (plP f n (gT f r) q) 0)]) (rest := []) ⟨hx, hb, hml, hown, hts⟩ (k_confidence l D ad cy pm rj σ xq hst _ hA.1 hbr hk) (cwV 1 hts gL_law_X9_confidence rfl rfl rfl (by decide +kernel) ⟨Nat.le_of_ble_eq_true rfl, Nat.le_of_ble_eq_true rfl⟩) (sp_preVmx hK hP (lwEX hE0 hA hS) (κ := 429) (by decide) cE_sp rfl) rfl rfl hl.1 rfl (lv_room (Nat.le_of_ble_eq_true rfl)) dL_law_371 ⟨by show _ ≤ 752875; omega, by show _ ≤ 6835470; omega⟩) hS (fun q _ h => lwAd hA hS q h) (fun q h => lwAd hA hS q h) (fun H locs hP hle hfr hS => ?_)
        have hTX := hTX.call hle hfr
        refine W.eq (g2 := F0 m 374 ls [.double (FP.ddiv FP.dconst1 (FP.dadd FP.dconst1 (FP.i2d (gP f (plP f n (gT f r) q) 7))))]) rfl ?_
        refine lv_dconst1 hx hb dL_law_374 ?_
        refine lv_dconst1 hx hb dL_law_375 ?_
        refine lv_aload_n hx hb dL_law_376 rfl (lv_at hl 1 rfl) ?_
        refine lv_iload hx hb dL_law_377 (lv_at hl 17 rfl) ?_
        refine sp_callm (va_runV (As := [.int (gP f (plP f n (gT f r) q) 0)]) (rest := [.double FP.dconst1, .double FP.dconst1, .double (FP.ddiv FP.dconst1 (FP.dadd FP.dconst1 (FP.i2d (gP f (plP f n (gT f r) q) 7))))]) ⟨hx, hb, hml, hown, hts⟩ (k_doubtsOf l D ad cy pm rj σ xq hst _ hA.1 hbr hk) (cwV 1 hts gL_law_X9_doubtsOf rfl rfl rfl (by decide +kernel) ⟨Nat.le_of_ble_eq_true rfl, Nat.le_of_ble_eq_true rfl⟩) (sp_preVmx hK hP (lwEX hE0 hA hS) (κ := 429) (by decide) cE_sp rfl) rfl rfl hl.1 rfl (lv_room (Nat.le_of_ble_eq_true rfl)) dL_law_379 ⟨by show _ ≤ 752875; omega, by show _ ≤ 6835470; omega⟩) hS (fun q _ h => lwAd hA hS q h) (fun q h => lwAd hA hS q h) (fun H locs hP hle hfr hS => ?_)
        have hTX := hTX.call hle hfr
        refine W.eq (g2 := F0 m 382 ls [.int (gP f (plP f n (gT f r) q) 7), .double FP.dconst1, .double FP.dconst1, .double (FP.ddiv FP.dconst1 (FP.dadd FP.dconst1 (FP.i2d (gP f (plP f n (gT f r) q) 7))))]) rfl ?_
        refine lv_i2d hx hb dL_law_382 ?_
        refine lv_dadd hx hb dL_law_383 ((conf_ok (hbr.dbM hk)).1) ?_
        refine lv_ddiv hx hb dL_law_384 ((conf_ok (hbr.dbM hk)).2) ?_
        refine lv_dcmp hx hb dL_law_385 ?_
        refine W.eq (g2 := F0 m 386 ls [.int (0)]) (by rw [conf_eq (hbr.dbM hk)]; rfl) ?_
        refine lv_if_eq (tgt := 391) hx hb dL_law_386 (by decide) (fun c_15 => ?_) (fun c_15 => absurd rfl c_15)
        refine W.widen (k := cells + 30) (n := slots + 200) (by omega) (by omega) ?_
        exact kk _ _ _ hP hS hTX (lv_sub hl [0, 1, 2, 3, 4, 5, 6, 7, 8, 9, 10, 11, 12, 13, 14, 15, 16, 17, 18, 19, 20] rfl)
set_option maxHeartbeats 4000000 in
set_option maxRecDepth 100000 in
theorem kText {tx : Nat} {T : List Nat} (E0 : LE p l s m c args b L xs D cy xq) (hA : LA9 s.heap.size ad) (hbr : BR σ f B n t pi ro) (hB : B < 1000000) {r q k : Nat} {v2 v5 v6 v8 v11 v12 v13 v14 : Int32} (hk : k < n) (hT9 : T.length + 3 ≤ 90) (hc : cells + 14 ≤ 752875) (hs : slots + 1300 ≤ 6835470) (hP : va_P D vwCl (cW ad cy pm rj σ) H) (hS : va_S (fun q => s.heap.size ≤ q) s.heap H locs) (hTX : TXs tx T.length (fun j => T.getD j 0) (sp_A ad 459 H.size) s H) (hl : lv_has ls 21 [(0, .ref b), (1, .ref (ad (429))), (2, .int v2), (3, .int (nI t)), (4, .int (nI n)), (5, .int v5), (6, .int v6), (7, .int (f 4)), (8, .int v8), (9, .int (gT f r)), (10, .int (nI (cN f n (gT f r)))), (11, .int v11), (12, .int v12), (13, .int v13), (14, .int v14), (15, .ref tx), (16, .int (nI q)), (17, .int (gP f k 0)), (18, .int (eB f n k)), (19, .int (nI (eE f n t k))), (20, .int (eS f n k))]) (kk : ∀ (H1 : Heap) (locs1 : List Loc) (ls1 : Array Slot) (ty : Nat), va_P D vwCl (cW ad cy pm rj σ) H1 → va_S (fun q => s.heap.size ≤ q) s.heap H1 locs1 → TXs ty (T ++ ltP f n t k).length (fun j => (T ++ ltP f n t k).getD j 0) (sp_A ad 459 H1.size) s H1 → lv_has ls1 21 [(0, .ref b), (1, .ref (ad (429))), (2, .int v2), (3, .int (nI t)), (4, .int (nI n)), (5, .int v5), (6, .int v6), (7, .int (f 4)), (8, .int v8), (9, .int (gT f r)), (10, .int (nI (cN f n (gT f r)))), (11, .int v11), (12, .int v12), (13, .int v13), (14, .int v14), (15, .ref ty), (16, .int (nI q)), (17, .int (gP f k 0)), (18, .int (eB f n k)), (19, .int (nI (eE f n t k))), (20, .int (eS f n k))] → W p l e room_1 s m args below meth c H1 locs1 (cells + 14) (slots + 1300) Q (F0 m 461 ls1 [])) : W p l e room_1 s m args below meth c H locs (cells) (slots) Q (F0 m 391 ls []) := by
  have hE := E0
  obtain ⟨hx, hb, hml, hown, hts, htb, hX, hbl, hst, hK, hE0, hL⟩ := hE
  have hi := hA.1
  obtain ⟨z0, hz0⟩ : ∃ z0, z0 = H.size := ⟨_, rfl⟩
  have had : ∀ k, k < 459 → ad k < z0 := fun k hk9 => by rw [hz0]; exact (sp_P_at hP hk9).lt
  have hzs : s.heap.size ≤ z0 := by rw [hz0]; exact hS.1
  have hTo : TXs tx T.length (fun j => T.getD j 0) (fun x => z0 ≤ x) s H := hTX.narrow (fun x hx9 => Or.inr (by rw [← hz0]; exact hx9))
  refine lt_new (rest := []) E0 dL_law_391 dL_law_394 dL_law_395 hl.1 hS (by decide) (by omega) (by omega) (fun qb vb H1 locs1 hBT hk1 hle1 hS1 => ?_)
  rw [← hz0] at hBT
  have hP := sp_P_ext hP hk1
  have hTo := hTo.kept (fun x hx9 _ => hk1 x hx9)
  clear hS hle1 hk1
  have hS := hS1
  refine W.eq (g2 := F0 m 398 ls [.ref qb]) rfl ?_
  refine lv_aload hx hb dL_law_398 (lv_at hl 15 rfl) ?_
  refine lt_app (t := tx) (M := T) (rest := []) E0 dL_law_400 hl.1 hS hBT hzs (hTo.narrow (fun x z9 => z9.elim (fun z9 => by have := hBT.lt; omega) (fun z9 => z9.elim (fun z9 => by have := hBT.lt; omega) (fun z9 => by have := hBT.lt; omega)))) (by show 0 + T.length ≤ 100; omega) (by decide) (by omega) (by omega) (fun v_1 H_1 locs_1 hBT9 hk9 hle9 hS9 => ?_)
  obtain ⟨hq1, hv1, hq2, hv2⟩ := hBT.lt
  have hP := sp_K2 hP had hq2 hv2 hk9
  clear hBT hS
  have hBT := hBT9
  have hS := hS9
  clear hBT9 hS9
  refine W.eq (g2 := F0 m 403 ls [.ref qb]) rfl ?_
  have la : (if gP f k 5 = 0 then [82] else [76] : List Nat).length = 1 := by split <;> rfl
  have lb : (if 0 < gP f k 7 then [63] else ([] : List Nat)).length ≤ 1 := by split <;> decide
  have lc : (if 0 < m_errs1 f n t k then [33] else ([] : List Nat)).length ≤ 1 := by split <;> decide
  refine lv_aload_n hx hb dL_law_403 rfl (lv_at hl 1 rfl) ?_
  refine lv_iload hx hb dL_law_404 (lv_at hl 17 rfl) ?_
  refine sp_callm (va_runV (As := [.int (gP f k 0)]) (rest := [.ref qb]) ⟨hx, hb, hml, hown, hts⟩ (k_isLeft l D ad cy pm rj σ xq hst _ hA.1 hbr hk) (cwV 1 hts gL_law_X9_isLeft rfl rfl rfl (by decide +kernel) ⟨Nat.le_of_ble_eq_true rfl, Nat.le_of_ble_eq_true rfl⟩) (sp_preVmx hK hP (lwEX hE0 hA hS) (κ := 429) (by decide) cE_sp rfl) rfl rfl hl.1 rfl (lv_room (Nat.le_of_ble_eq_true rfl)) dL_law_406 ⟨by show _ ≤ 752875; omega, by show _ ≤ 6835470; omega⟩) hS (fun q _ h => lwAd hA hS q h) (fun q h => lwAd hA hS q h) (fun H locs hP hle hfr hS => ?_)
  have hBT := hBT.call hfr hle had
  refine W.eq (g2 := F0 m 409 ls [.int (gP f k 5), .ref qb]) rfl ?_
  refine w_tern (ls := ls) (rest := [.ref qb]) (P := fun v => ∃ i9, i9 < 7 ∧ v = .ref (xq (30 + i9)) ∧ exN9.getD i9 [] = (if gP f k 5 = 0 then [82] else [76])) (J := 419) (fun K => ?_) (fun v hv => ?_)
  · skip
    refine lv_if_eq (tgt := 417) hx hb dL_law_409 (by decide) (fun c_2 => ?_) (fun c_2 => ?_)
    · skip
      refine va_ldcS hx hb hown (hE0.lx 2 rfl) dL_law_417 ?_
      exact K _ ⟨2, by decide, rfl, by rw [if_pos c_2]; rfl⟩
    · skip
      refine va_ldcS hx hb hown (hE0.lx 1 rfl) dL_law_412 ?_
      refine lv_goto (tgt := 419) hx hb dL_law_414 (by decide) ?_
      exact K _ ⟨1, by decide, rfl, by rw [if_neg c_2]; rfl⟩
  · obtain ⟨i9, hi9, rfl, hM9⟩ := hv
    refine lt_app (t := xq (30 + i9)) (M := exN9.getD i9 []) (rest := []) E0 dL_law_419 hl.1 hS hBT hzs ((lt_ex hE0 hS (Nat.le_trans hzs hBT.lt.2.2.1) (Nat.le_trans hzs hBT.lt.2.2.2)).tx hi9) (by rw [hM9]; simp only [List.length_append, List.length_nil, la]; omega) (by decide) (by omega) (by omega) (fun v_3 H_3 locs_3 hBT9 hk9 hle9 hS9 => ?_)
    obtain ⟨hq1, hv1, hq2, hv2⟩ := hBT.lt
    have hP := sp_K2 hP had hq2 hv2 hk9
    clear hBT hS
    have hBT := hBT9
    have hS := hS9
    clear hBT9 hS9
    refine W.eq (g2 := F0 m 422 ls [.ref qb]) rfl ?_
    rw [hM9] at hBT
    refine lv_aload_n hx hb dL_law_422 rfl (lv_at hl 1 rfl) ?_
    refine lv_iload hx hb dL_law_423 (lv_at hl 17 rfl) ?_
    refine sp_callm (va_runV (As := [.int (gP f k 0)]) (rest := [.ref qb]) ⟨hx, hb, hml, hown, hts⟩ (k_doubtsOf l D ad cy pm rj σ xq hst _ hA.1 hbr hk) (cwV 1 hts gL_law_X9_doubtsOf rfl rfl rfl (by decide +kernel) ⟨Nat.le_of_ble_eq_true rfl, Nat.le_of_ble_eq_true rfl⟩) (sp_preVmx hK hP (lwEX hE0 hA hS) (κ := 429) (by decide) cE_sp rfl) rfl rfl hl.1 rfl (lv_room (Nat.le_of_ble_eq_true rfl)) dL_law_425 ⟨by show _ ≤ 752875; omega, by show _ ≤ 6835470; omega⟩) hS (fun q _ h => lwAd hA hS q h) (fun q h => lwAd hA hS q h) (fun H locs hP hle hfr hS => ?_)
    have hBT := hBT.call hfr hle had
    refine W.eq (g2 := F0 m 428 ls [.int (gP f k 7), .ref qb]) rfl ?_
    refine w_tern (ls := ls) (rest := [.ref qb]) (P := fun v => ∃ i9, i9 < 7 ∧ v = .ref (xq (30 + i9)) ∧ exN9.getD i9 [] = (if 0 < gP f k 7 then [63] else ([] : List Nat))) (J := 438) (fun K => ?_) (fun v hv => ?_)
    · skip
      refine lv_if_le (tgt := 436) hx hb dL_law_428 (by decide) (fun c_4 => ?_) (fun c_4 => ?_)
      · skip
        refine va_ldcS hx hb hown (hE0.lx 0 rfl) dL_law_436 ?_
        exact K _ ⟨0, by decide, rfl, by rw [if_neg (Int32.not_lt.mpr c_4)]; rfl⟩
      · skip
        refine va_ldcS hx hb hown (hE0.lx 3 rfl) dL_law_431 ?_
        refine lv_goto (tgt := 438) hx hb dL_law_433 (by decide) ?_
        exact K _ ⟨3, by decide, rfl, by rw [if_pos (Int32.not_le.mp c_4)]; rfl⟩
    · obtain ⟨i9, hi9, rfl, hM9⟩ := hv
      refine lt_app (t := xq (30 + i9)) (M := exN9.getD i9 []) (rest := []) E0 dL_law_438 hl.1 hS hBT hzs ((lt_ex hE0 hS (Nat.le_trans hzs hBT.lt.2.2.1) (Nat.le_trans hzs hBT.lt.2.2.2)).tx hi9) (by rw [hM9]; simp only [List.length_append, List.length_nil, la]; omega) (by decide) (by omega) (by omega) (fun v_5 H_5 locs_5 hBT9 hk9 hle9 hS9 => ?_)
      obtain ⟨hq1, hv1, hq2, hv2⟩ := hBT.lt
      have hP := sp_K2 hP had hq2 hv2 hk9
      clear hBT hS
      have hBT := hBT9
      have hS := hS9
      clear hBT9 hS9
      refine W.eq (g2 := F0 m 441 ls [.ref qb]) rfl ?_
      rw [hM9] at hBT
      refine lv_iload hx hb dL_law_441 (lv_at hl 19 rfl) ?_
      refine w_tern (ls := ls) (rest := [.ref qb]) (P := fun v => ∃ i9, i9 < 7 ∧ v = .ref (xq (30 + i9)) ∧ exN9.getD i9 [] = (if 0 < m_errs1 f n t k then [33] else ([] : List Nat))) (J := 453) (fun K => ?_) (fun v hv => ?_)
      · skip
        refine lv_if_le (tgt := 451) hx hb dL_law_443 (by decide) (fun c_6 => ?_) (fun c_6 => ?_)
        · skip
          refine va_ldcS hx hb hown (hE0.lx 0 rfl) dL_law_451 ?_
          exact K _ ⟨0, by decide, rfl, by rw [if_neg (ee_0.mp c_6)]; rfl⟩
        · skip
          refine va_ldcS hx hb hown (hE0.lx 4 rfl) dL_law_446 ?_
          refine lv_goto (tgt := 453) hx hb dL_law_448 (by decide) ?_
          exact K _ ⟨4, by decide, rfl, by rw [if_pos (Decidable.byContradiction fun z9 => c_6 (ee_0.mpr z9))]; rfl⟩
      · obtain ⟨i9, hi9, rfl, hM9⟩ := hv
        refine lt_app (t := xq (30 + i9)) (M := exN9.getD i9 []) (rest := []) E0 dL_law_453 hl.1 hS hBT hzs ((lt_ex hE0 hS (Nat.le_trans hzs hBT.lt.2.2.1) (Nat.le_trans hzs hBT.lt.2.2.2)).tx hi9) (by rw [hM9]; simp only [List.length_append, List.length_nil, la]; omega) (by decide) (by omega) (by omega) (fun v_7 H_7 locs_7 hBT9 hk9 hle9 hS9 => ?_)
        obtain ⟨hq1, hv1, hq2, hv2⟩ := hBT.lt
        have hP := sp_K2 hP had hq2 hv2 hk9
        clear hBT hS
        have hBT := hBT9
        have hS := hS9
        clear hBT9 hS9
        refine W.eq (g2 := F0 m 456 ls [.ref qb]) rfl ?_
        rw [hM9] at hBT
        have e9 : (([] ++ T ++ (if gP f k 5 = 0 then [82] else [76])) ++ (if 0 < gP f k 7 then [63] else ([] : List Nat))) ++ (if 0 < m_errs1 f n t k then [33] else ([] : List Nat)) = T ++ ltP f n t k := by
          unfold ltP
          by_cases w : gP f k 5 = 0
          · rw [if_pos w, if_pos w]; simp [List.append_assoc]
          · rw [if_neg w, if_neg w]; simp [List.append_assoc]
        rw [e9] at hBT
        have h3 := ltP_len (f := f) (n := n) (t := t) k
        refine lt_str (rest := []) E0 dL_law_456 hl.1 hS hBT hzs (by rw [List.length_append]; omega) (by decide) (by omega) (by omega) (fun ty H_8 locs_8 hTY hk9 hle9 hS9 => ?_)
        obtain ⟨hq1, hv1, hq2, hv2⟩ := hBT.lt
        have hTX := hTY.narrow (B := sp_A ad 459 H_8.size) (fun x z9 => z9.elim (fun ⟨k9, h1, h2⟩ => Or.inl (by have := had k9 h1; omega)) Or.inr)
        have hP := sp_K2 hP had hq2 hv2 hk9
        clear hS
        have hS := hS9
        refine W.eq (g2 := F0 m 459 ls [.ref ty]) rfl ?_
        refine lv_astore (lv' := [(15, .ref ty), (0, .ref b), (1, .ref (ad (429))), (2, .int v2), (3, .int (nI t)), (4, .int (nI n)), (5, .int v5), (6, .int v6), (7, .int (f 4)), (8, .int v8), (9, .int (gT f r)), (10, .int (nI (cN f n (gT f r)))), (11, .int v11), (12, .int v12), (13, .int v13), (14, .int v14), (16, .int (nI q)), (17, .int (gP f k 0)), (18, .int (eB f n k)), (19, .int (nI (eE f n t k))), (20, .int (eS f n k))]) hx hb dL_law_459 hl (by decide) rfl (fun ls hl => ?_)
        refine W.widen (k := cells + 14) (n := slots + 1300) (by omega) (by omega) ?_
        exact kk _ _ _ ty hP hS hTX (lv_sub hl [1, 2, 3, 4, 5, 6, 7, 8, 9, 10, 11, 12, 13, 14, 15, 0, 16, 17, 18, 19, 20] rfl)
set_option maxHeartbeats 4000000 in
set_option maxRecDepth 100000 in
theorem kD0 {tx : Nat} {T : List Nat} (E0 : LE p l s m c args b L xs D cy xq) (hA : LA9 s.heap.size ad) (hbr : BR σ f B n t pi ro) (hB : B < 1000000) {r k v5 : Nat} {v2 v6 v8 v11 v12 v13 v14 : Int32} (hk : k < n) (hc : cells + 6 ≤ 752875) (hs : slots + 40 ≤ 6835470) (hP : va_P D vwCl (cW ad cy pm rj σ) H) (hS : va_S (fun q => s.heap.size ≤ q) s.heap H locs) (hTX : TXs tx T.length (fun j => T.getD j 0) (sp_A ad 459 H.size) s H) (hl : lv_has ls 21 [(0, .ref b), (1, .ref (ad (429))), (2, .int v2), (3, .int (nI t)), (4, .int (nI n)), (5, .int (nI v5)), (6, .int v6), (7, .int (f 4)), (8, .int v8), (9, .int (gT f r)), (10, .int (nI (cN f n (gT f r)))), (11, .int v11), (12, .int v12), (13, .int v13), (14, .int v14), (15, .ref tx), (16, .int (nI 0)), (17, .int (gP f k 0)), (18, .int (eB f n k)), (19, .int (nI (eE f n t k))), (20, .int (eS f n k))]) (kk : ∀ (H1 : Heap) (locs1 : List Loc) (ls1 : Array Slot), va_P D vwCl (cW ad cy pm rj σ) H1 → va_S (fun q => s.heap.size ≤ q) s.heap H1 locs1 → TXs tx T.length (fun j => T.getD j 0) (sp_A ad 459 H1.size) s H1 → lv_has ls1 21 [(0, .ref b), (1, .ref (ad (429))), (2, .int v2), (3, .int (nI t)), (4, .int (nI n)), (5, .int (nI (v5 + 1))), (6, .int (v6 + gP f k 8)), (7, .int (f 4)), (8, .int v8), (9, .int (gT f r)), (10, .int (nI (cN f n (gT f r)))), (11, .int (v11 + imax 0 (eS f n k))), (12, .int (v12 + bc3 (eE f n t k))), (13, .int (gP f k 2)), (14, .int (gP f k 2)), (15, .ref tx), (16, .int (nI (0 + 1)))] → W p l e room_1 s m args below meth c H1 locs1 (cells + 6) (slots + 40) Q (F0 m 87 ls1 [])) : W p l e room_1 s m args below meth c H locs (cells) (slots) Q (F0 m 461 ls []) := by
  have hE := E0
  obtain ⟨hx, hb, hml, hown, hts, htb, hX, hbl, hst, hK, hE0, hL⟩ := hE
  have hi := hA.1
  refine lv_iload hx hb dL_law_461 (lv_at hl 11 rfl) ?_
  refine lv_iconst (v := 0) hx hb dL_law_463 (by decide) ?_
  refine lv_iload hx hb dL_law_464 (lv_at hl 20 rfl) ?_
  refine va_mmax hx hb (by rw [hml]; exact hl.1.symm) hown (hts _ (il_wsL_law0_r1 _ (List.mem_of_getElem? (i := 6) rfl))) (hts _ (il_wsL_law0_r1 _ (List.mem_of_getElem? (i := 7) rfl))) (hts _ (il_wsL_law0_r1 _ (List.mem_of_getElem? (i := 8) rfl))) (hts _ (il_wsL_law0_r1 _ (List.mem_of_getElem? (i := 9) rfl))) (Nat.le_of_ble_eq_true rfl) (Nat.le_of_ble_eq_true rfl) (by show _ ≤ 752875; omega) (by show _ ≤ 6835470; omega) dL_law_466 ?_
  refine W.eq (g2 := F0 m 469 ls [.int (imax 0 (eS f n k)), .int v11]) rfl ?_
  refine lv_iadd hx hb dL_law_469 ?_
  refine lv_istore (lv' := [(11, .int (v11 + (imax 0 (eS f n k)))), (0, .ref b), (1, .ref (ad (429))), (2, .int v2), (3, .int (nI t)), (4, .int (nI n)), (5, .int (nI v5)), (6, .int v6), (7, .int (f 4)), (8, .int v8), (9, .int (gT f r)), (10, .int (nI (cN f n (gT f r)))), (12, .int v12), (13, .int v13), (14, .int v14), (15, .ref tx), (16, .int (nI 0)), (17, .int (gP f k 0)), (18, .int (eB f n k)), (19, .int (nI (eE f n t k))), (20, .int (eS f n k))]) hx hb dL_law_470 hl (by decide) rfl (fun ls hl => ?_)
  refine lv_iload hx hb dL_law_472 (lv_at hl 12 rfl) ?_
  refine lv_iload hx hb dL_law_474 (lv_at hl 19 rfl) ?_
  refine sp_call (W.runS (As := [.int (nI (eE f n t k))]) (rest := [.int v12]) ⟨hx, hb, hml, hown, hts⟩ (t_bitCount l xq D cy _ (sp_A ad 459 H.size) (eE f n t k) eE_8) (va_cwS 1 hts gL_law_J6_bitCount_0f7a4 rfl rfl rfl (by decide +kernel) ⟨Nat.le_of_ble_eq_true rfl, Nat.le_of_ble_eq_true rfl⟩) (t_pre hK (lwEX hE0 hA hS) trivial tNo) rfl rfl hl.1 rfl (lv_room (Nat.le_of_ble_eq_true rfl)) dL_law_476 ⟨by show _ ≤ 752875; omega, by show _ ≤ 6835470; omega⟩) ?_
  refine W.eq (g2 := F0 m 479 ls [.int (bc3 (eE f n t k)), .int v12]) rfl ?_
  refine lv_iadd hx hb dL_law_479 ?_
  refine lv_istore (lv' := [(12, .int (v12 + (bc3 (eE f n t k)))), (11, .int (v11 + (imax 0 (eS f n k)))), (0, .ref b), (1, .ref (ad (429))), (2, .int v2), (3, .int (nI t)), (4, .int (nI n)), (5, .int (nI v5)), (6, .int v6), (7, .int (f 4)), (8, .int v8), (9, .int (gT f r)), (10, .int (nI (cN f n (gT f r)))), (13, .int v13), (14, .int v14), (15, .ref tx), (16, .int (nI 0)), (17, .int (gP f k 0)), (18, .int (eB f n k)), (19, .int (nI (eE f n t k))), (20, .int (eS f n k))]) hx hb dL_law_480 hl (by decide) rfl (fun ls hl => ?_)
  refine lv_iload hx hb dL_law_482 (lv_at hl 16 rfl) ?_
  refine lv_if_ne (tgt := 496) hx hb dL_law_484 (by decide) (fun c_1 => absurd (show nI 0 = 0 from rfl) c_1) (fun c_1 => ?_)
  refine lv_aload_n hx hb dL_law_487 rfl (lv_at hl 3 rfl) ?_
  refine lv_iload hx hb dL_law_488 (lv_at hl 17 rfl) ?_
  refine sp_callm (va_runV (As := [.int (gP f k 0)]) (rest := []) ⟨hx, hb, hml, hown, hts⟩ (k_timeOf l D ad cy pm rj σ xq hst _ hA.1 hbr hk) (cwV 1 hts gL_law_X9_timeOf rfl rfl rfl (by decide +kernel) ⟨Nat.le_of_ble_eq_true rfl, Nat.le_of_ble_eq_true rfl⟩) (sp_preVmx hK hP (lwEX hE0 hA hS) (κ := 429) (by decide) cE_sp rfl) rfl rfl hl.1 rfl (lv_room (Nat.le_of_ble_eq_true rfl)) dL_law_490 ⟨by show _ ≤ 752875; omega, by show _ ≤ 6835470; omega⟩) hS (fun q _ h => lwAd hA hS q h) (fun q h => lwAd hA hS q h) (fun H locs hP hle hfr hS => ?_)
  have hTX := hTX.call hle hfr
  refine W.eq (g2 := F0 m 493 ls [.int (gP f k 2)]) rfl ?_
  refine lv_goto (tgt := 498) hx hb dL_law_493 (by decide) ?_
  refine lv_istore (lv' := [(13, .int (gP f k 2)), (12, .int (v12 + (bc3 (eE f n t k)))), (11, .int (v11 + (imax 0 (eS f n k)))), (0, .ref b), (1, .ref (ad (429))), (2, .int v2), (3, .int (nI t)), (4, .int (nI n)), (5, .int (nI v5)), (6, .int v6), (7, .int (f 4)), (8, .int v8), (9, .int (gT f r)), (10, .int (nI (cN f n (gT f r)))), (14, .int v14), (15, .ref tx), (16, .int (nI 0)), (17, .int (gP f k 0)), (18, .int (eB f n k)), (19, .int (nI (eE f n t k))), (20, .int (eS f n k))]) hx hb dL_law_498 hl (by decide) rfl (fun ls hl => ?_)
  refine lv_aload_n hx hb dL_law_500 rfl (lv_at hl 4 rfl) ?_
  refine lv_iload hx hb dL_law_501 (lv_at hl 17 rfl) ?_
  refine sp_callm (va_runV (As := [.int (gP f k 0)]) (rest := []) ⟨hx, hb, hml, hown, hts⟩ (k_timeOf l D ad cy pm rj σ xq hst _ hA.1 hbr hk) (cwV 1 hts gL_law_X9_timeOf rfl rfl rfl (by decide +kernel) ⟨Nat.le_of_ble_eq_true rfl, Nat.le_of_ble_eq_true rfl⟩) (sp_preVmx hK hP (lwEX hE0 hA hS) (κ := 429) (by decide) cE_sp rfl) rfl rfl hl.1 rfl (lv_room (Nat.le_of_ble_eq_true rfl)) dL_law_503 ⟨by show _ ≤ 752875; omega, by show _ ≤ 6835470; omega⟩) hS (fun q _ h => lwAd hA hS q h) (fun q h => lwAd hA hS q h) (fun H locs hP hle hfr hS => ?_)
  have hTX := hTX.call hle hfr
  refine W.eq (g2 := F0 m 506 ls [.int (gP f k 2)]) rfl ?_
  refine lv_istore (lv' := [(14, .int (gP f k 2)), (13, .int (gP f k 2)), (12, .int (v12 + (bc3 (eE f n t k)))), (11, .int (v11 + (imax 0 (eS f n k)))), (0, .ref b), (1, .ref (ad (429))), (2, .int v2), (3, .int (nI t)), (4, .int (nI n)), (5, .int (nI v5)), (6, .int v6), (7, .int (f 4)), (8, .int v8), (9, .int (gT f r)), (10, .int (nI (cN f n (gT f r)))), (15, .ref tx), (16, .int (nI 0)), (17, .int (gP f k 0)), (18, .int (eB f n k)), (19, .int (nI (eE f n t k))), (20, .int (eS f n k))]) hx hb dL_law_506 hl (by decide) rfl (fun ls hl => ?_)
  refine lv_iload hx hb dL_law_508 (lv_at hl 10 rfl) ?_
  refine lv_aload_n hx hb dL_law_510 rfl (lv_at hl 5 rfl) ?_
  refine lv_iload hx hb dL_law_511 (lv_at hl 17 rfl) ?_
  refine sp_callm (va_runV (As := [.int (gP f k 0)]) (rest := [.int v6]) ⟨hx, hb, hml, hown, hts⟩ (k_isLate l D ad cy pm rj σ xq hst _ hA.1 hbr hk) (cwV 1 hts gL_law_X9_isLate rfl rfl rfl (by decide +kernel) ⟨Nat.le_of_ble_eq_true rfl, Nat.le_of_ble_eq_true rfl⟩) (sp_preVmx hK hP (lwEX hE0 hA hS) (κ := 429) (by decide) cE_sp rfl) rfl rfl hl.1 rfl (lv_room (Nat.le_of_ble_eq_true rfl)) dL_law_513 ⟨by show _ ≤ 752875; omega, by show _ ≤ 6835470; omega⟩) hS (fun q _ h => lwAd hA hS q h) (fun q h => lwAd hA hS q h) (fun H locs hP hle hfr hS => ?_)
  have hTX := hTX.call hle hfr
  refine W.eq (g2 := F0 m 516 ls [.int (gP f k 8), .int v6]) rfl ?_
  refine w_tern (ls := ls) (rest := [.int v6]) (P := fun v => v = .int (gP f k 8)) (J := 524) (fun K => ?_) (fun v hv => ?_)
  · skip
    refine lv_if_eq (tgt := 523) hx hb dL_law_516 (by decide) (fun c_2 => ?_) (fun c_2 => ?_)
    · skip
      refine lv_iconst (v := 0) hx hb dL_law_523 (by decide) ?_
      exact K _ (congrArg Value.int (c_2.symm))
    · skip
      refine lv_iconst (v := 1) hx hb dL_law_519 (by decide) ?_
      refine lv_goto (tgt := 524) hx hb dL_law_520 (by decide) ?_
      exact K _ (congrArg Value.int (((hbr.vp hk).2.2.2.2.2.2.1.elim (fun z9 => absurd z9 c_2) (fun z9 => z9)).symm))
  · subst hv
    refine lv_iadd hx hb dL_law_524 ?_
    refine lv_istore (lv' := [(6, .int (v6 + (gP f k 8))), (14, .int (gP f k 2)), (13, .int (gP f k 2)), (12, .int (v12 + (bc3 (eE f n t k)))), (11, .int (v11 + (imax 0 (eS f n k)))), (0, .ref b), (1, .ref (ad (429))), (2, .int v2), (3, .int (nI t)), (4, .int (nI n)), (5, .int (nI v5)), (7, .int (f 4)), (8, .int v8), (9, .int (gT f r)), (10, .int (nI (cN f n (gT f r)))), (15, .ref tx), (16, .int (nI 0)), (17, .int (gP f k 0)), (18, .int (eB f n k)), (19, .int (nI (eE f n t k))), (20, .int (eS f n k))]) hx hb dL_law_525 hl (by decide) rfl (fun ls hl => ?_)
    refine lv_iinc (v := nI (v5 + 1)) (lv' := [(5, .int (nI (v5 + 1))), (6, .int (v6 + (gP f k 8))), (14, .int (gP f k 2)), (13, .int (gP f k 2)), (12, .int (v12 + (bc3 (eE f n t k)))), (11, .int (v11 + (imax 0 (eS f n k)))), (0, .ref b), (1, .ref (ad (429))), (2, .int v2), (3, .int (nI t)), (4, .int (nI n)), (7, .int (f 4)), (8, .int v8), (9, .int (gT f r)), (10, .int (nI (cN f n (gT f r)))), (15, .ref tx), (16, .int (nI 0)), (17, .int (gP f k 0)), (18, .int (eB f n k)), (19, .int (nI (eE f n t k))), (20, .int (eS f n k))]) hx hb dL_law_527 hl (k := 10) rfl (nI_1 _) (by decide) rfl (fun ls hl => ?_)
    refine lv_iinc (v := nI (0 + 1)) (lv' := [(16, .int (nI (0 + 1))), (5, .int (nI (v5 + 1))), (6, .int (v6 + (gP f k 8))), (14, .int (gP f k 2)), (13, .int (gP f k 2)), (12, .int (v12 + (bc3 (eE f n t k)))), (11, .int (v11 + (imax 0 (eS f n k)))), (0, .ref b), (1, .ref (ad (429))), (2, .int v2), (3, .int (nI t)), (4, .int (nI n)), (7, .int (f 4)), (8, .int v8), (9, .int (gT f r)), (10, .int (nI (cN f n (gT f r)))), (15, .ref tx), (17, .int (gP f k 0)), (18, .int (eB f n k)), (19, .int (nI (eE f n t k))), (20, .int (eS f n k))]) hx hb dL_law_530 hl (k := 16) rfl (nI_1 _) (by decide) rfl (fun ls hl => ?_)
    refine lv_goto (tgt := 87) hx hb dL_law_533 (by decide) ?_
    refine W.widen (k := cells + 6) (n := slots + 40) (by omega) (by omega) ?_
    exact kk _ _ _ hP hS hTX (lv_sub hl [7, 8, 9, 10, 11, 1, 2, 12, 13, 14, 15, 6, 5, 4, 3, 16, 0] rfl)
set_option maxHeartbeats 4000000 in
set_option maxRecDepth 100000 in
theorem kD1 {tx : Nat} {T : List Nat} (E0 : LE p l s m c args b L xs D cy xq) (hA : LA9 s.heap.size ad) (hbr : BR σ f B n t pi ro) (hB : B < 1000000) {r k v5 : Nat} {q : Nat} {v2 v6 v8 v11 v12 v13 v14 : Int32} (hk : k < n) (hq : q + 1 < 2 ^ 31) (hc : cells + 6 ≤ 752875) (hs : slots + 40 ≤ 6835470) (hP : va_P D vwCl (cW ad cy pm rj σ) H) (hS : va_S (fun q => s.heap.size ≤ q) s.heap H locs) (hTX : TXs tx T.length (fun j => T.getD j 0) (sp_A ad 459 H.size) s H) (hl : lv_has ls 21 [(0, .ref b), (1, .ref (ad (429))), (2, .int v2), (3, .int (nI t)), (4, .int (nI n)), (5, .int (nI v5)), (6, .int v6), (7, .int (f 4)), (8, .int v8), (9, .int (gT f r)), (10, .int (nI (cN f n (gT f r)))), (11, .int v11), (12, .int v12), (13, .int v13), (14, .int v14), (15, .ref tx), (16, .int (nI (q + 1))), (17, .int (gP f k 0)), (18, .int (eB f n k)), (19, .int (nI (eE f n t k))), (20, .int (eS f n k))]) (kk : ∀ (H1 : Heap) (locs1 : List Loc) (ls1 : Array Slot), va_P D vwCl (cW ad cy pm rj σ) H1 → va_S (fun q => s.heap.size ≤ q) s.heap H1 locs1 → TXs tx T.length (fun j => T.getD j 0) (sp_A ad 459 H1.size) s H1 → lv_has ls1 21 [(0, .ref b), (1, .ref (ad (429))), (2, .int v2), (3, .int (nI t)), (4, .int (nI n)), (5, .int (nI (v5 + 1))), (6, .int (v6 + gP f k 8)), (7, .int (f 4)), (8, .int v8), (9, .int (gT f r)), (10, .int (nI (cN f n (gT f r)))), (11, .int (v11 + imax 0 (eS f n k))), (12, .int (v12 + bc3 (eE f n t k))), (13, .int v13), (14, .int (gP f k 2)), (15, .ref tx), (16, .int (nI ((q + 1) + 1)))] → W p l e room_1 s m args below meth c H1 locs1 (cells + 6) (slots + 40) Q (F0 m 87 ls1 [])) : W p l e room_1 s m args below meth c H locs (cells) (slots) Q (F0 m 461 ls []) := by
  have hE := E0
  obtain ⟨hx, hb, hml, hown, hts, htb, hX, hbl, hst, hK, hE0, hL⟩ := hE
  have hi := hA.1
  refine lv_iload hx hb dL_law_461 (lv_at hl 11 rfl) ?_
  refine lv_iconst (v := 0) hx hb dL_law_463 (by decide) ?_
  refine lv_iload hx hb dL_law_464 (lv_at hl 20 rfl) ?_
  refine va_mmax hx hb (by rw [hml]; exact hl.1.symm) hown (hts _ (il_wsL_law0_r1 _ (List.mem_of_getElem? (i := 6) rfl))) (hts _ (il_wsL_law0_r1 _ (List.mem_of_getElem? (i := 7) rfl))) (hts _ (il_wsL_law0_r1 _ (List.mem_of_getElem? (i := 8) rfl))) (hts _ (il_wsL_law0_r1 _ (List.mem_of_getElem? (i := 9) rfl))) (Nat.le_of_ble_eq_true rfl) (Nat.le_of_ble_eq_true rfl) (by show _ ≤ 752875; omega) (by show _ ≤ 6835470; omega) dL_law_466 ?_
  refine W.eq (g2 := F0 m 469 ls [.int (imax 0 (eS f n k)), .int v11]) rfl ?_
  refine lv_iadd hx hb dL_law_469 ?_
  refine lv_istore (lv' := [(11, .int (v11 + (imax 0 (eS f n k)))), (0, .ref b), (1, .ref (ad (429))), (2, .int v2), (3, .int (nI t)), (4, .int (nI n)), (5, .int (nI v5)), (6, .int v6), (7, .int (f 4)), (8, .int v8), (9, .int (gT f r)), (10, .int (nI (cN f n (gT f r)))), (12, .int v12), (13, .int v13), (14, .int v14), (15, .ref tx), (16, .int (nI (q + 1))), (17, .int (gP f k 0)), (18, .int (eB f n k)), (19, .int (nI (eE f n t k))), (20, .int (eS f n k))]) hx hb dL_law_470 hl (by decide) rfl (fun ls hl => ?_)
  refine lv_iload hx hb dL_law_472 (lv_at hl 12 rfl) ?_
  refine lv_iload hx hb dL_law_474 (lv_at hl 19 rfl) ?_
  refine sp_call (W.runS (As := [.int (nI (eE f n t k))]) (rest := [.int v12]) ⟨hx, hb, hml, hown, hts⟩ (t_bitCount l xq D cy _ (sp_A ad 459 H.size) (eE f n t k) eE_8) (va_cwS 1 hts gL_law_J6_bitCount_0f7a4 rfl rfl rfl (by decide +kernel) ⟨Nat.le_of_ble_eq_true rfl, Nat.le_of_ble_eq_true rfl⟩) (t_pre hK (lwEX hE0 hA hS) trivial tNo) rfl rfl hl.1 rfl (lv_room (Nat.le_of_ble_eq_true rfl)) dL_law_476 ⟨by show _ ≤ 752875; omega, by show _ ≤ 6835470; omega⟩) ?_
  refine W.eq (g2 := F0 m 479 ls [.int (bc3 (eE f n t k)), .int v12]) rfl ?_
  refine lv_iadd hx hb dL_law_479 ?_
  refine lv_istore (lv' := [(12, .int (v12 + (bc3 (eE f n t k)))), (11, .int (v11 + (imax 0 (eS f n k)))), (0, .ref b), (1, .ref (ad (429))), (2, .int v2), (3, .int (nI t)), (4, .int (nI n)), (5, .int (nI v5)), (6, .int v6), (7, .int (f 4)), (8, .int v8), (9, .int (gT f r)), (10, .int (nI (cN f n (gT f r)))), (13, .int v13), (14, .int v14), (15, .ref tx), (16, .int (nI (q + 1))), (17, .int (gP f k 0)), (18, .int (eB f n k)), (19, .int (nI (eE f n t k))), (20, .int (eS f n k))]) hx hb dL_law_480 hl (by decide) rfl (fun ls hl => ?_)
  refine lv_iload hx hb dL_law_482 (lv_at hl 16 rfl) ?_
  refine lv_if_ne (tgt := 496) hx hb dL_law_484 (by decide) (fun c_1 => ?_) (fun c_1 => absurd ((nI_eq (a := q + 1) (b := 0) hq (by decide)).mp c_1) (by omega))
  refine lv_iload hx hb dL_law_496 (lv_at hl 13 rfl) ?_
  refine lv_istore (lv' := [(13, .int v13), (12, .int (v12 + (bc3 (eE f n t k)))), (11, .int (v11 + (imax 0 (eS f n k)))), (0, .ref b), (1, .ref (ad (429))), (2, .int v2), (3, .int (nI t)), (4, .int (nI n)), (5, .int (nI v5)), (6, .int v6), (7, .int (f 4)), (8, .int v8), (9, .int (gT f r)), (10, .int (nI (cN f n (gT f r)))), (14, .int v14), (15, .ref tx), (16, .int (nI (q + 1))), (17, .int (gP f k 0)), (18, .int (eB f n k)), (19, .int (nI (eE f n t k))), (20, .int (eS f n k))]) hx hb dL_law_498 hl (by decide) rfl (fun ls hl => ?_)
  refine lv_aload_n hx hb dL_law_500 rfl (lv_at hl 4 rfl) ?_
  refine lv_iload hx hb dL_law_501 (lv_at hl 17 rfl) ?_
  refine sp_callm (va_runV (As := [.int (gP f k 0)]) (rest := []) ⟨hx, hb, hml, hown, hts⟩ (k_timeOf l D ad cy pm rj σ xq hst _ hA.1 hbr hk) (cwV 1 hts gL_law_X9_timeOf rfl rfl rfl (by decide +kernel) ⟨Nat.le_of_ble_eq_true rfl, Nat.le_of_ble_eq_true rfl⟩) (sp_preVmx hK hP (lwEX hE0 hA hS) (κ := 429) (by decide) cE_sp rfl) rfl rfl hl.1 rfl (lv_room (Nat.le_of_ble_eq_true rfl)) dL_law_503 ⟨by show _ ≤ 752875; omega, by show _ ≤ 6835470; omega⟩) hS (fun q _ h => lwAd hA hS q h) (fun q h => lwAd hA hS q h) (fun H locs hP hle hfr hS => ?_)
  have hTX := hTX.call hle hfr
  refine W.eq (g2 := F0 m 506 ls [.int (gP f k 2)]) rfl ?_
  refine lv_istore (lv' := [(14, .int (gP f k 2)), (13, .int v13), (12, .int (v12 + (bc3 (eE f n t k)))), (11, .int (v11 + (imax 0 (eS f n k)))), (0, .ref b), (1, .ref (ad (429))), (2, .int v2), (3, .int (nI t)), (4, .int (nI n)), (5, .int (nI v5)), (6, .int v6), (7, .int (f 4)), (8, .int v8), (9, .int (gT f r)), (10, .int (nI (cN f n (gT f r)))), (15, .ref tx), (16, .int (nI (q + 1))), (17, .int (gP f k 0)), (18, .int (eB f n k)), (19, .int (nI (eE f n t k))), (20, .int (eS f n k))]) hx hb dL_law_506 hl (by decide) rfl (fun ls hl => ?_)
  refine lv_iload hx hb dL_law_508 (lv_at hl 10 rfl) ?_
  refine lv_aload_n hx hb dL_law_510 rfl (lv_at hl 5 rfl) ?_
  refine lv_iload hx hb dL_law_511 (lv_at hl 17 rfl) ?_
  refine sp_callm (va_runV (As := [.int (gP f k 0)]) (rest := [.int v6]) ⟨hx, hb, hml, hown, hts⟩ (k_isLate l D ad cy pm rj σ xq hst _ hA.1 hbr hk) (cwV 1 hts gL_law_X9_isLate rfl rfl rfl (by decide +kernel) ⟨Nat.le_of_ble_eq_true rfl, Nat.le_of_ble_eq_true rfl⟩) (sp_preVmx hK hP (lwEX hE0 hA hS) (κ := 429) (by decide) cE_sp rfl) rfl rfl hl.1 rfl (lv_room (Nat.le_of_ble_eq_true rfl)) dL_law_513 ⟨by show _ ≤ 752875; omega, by show _ ≤ 6835470; omega⟩) hS (fun q _ h => lwAd hA hS q h) (fun q h => lwAd hA hS q h) (fun H locs hP hle hfr hS => ?_)
  have hTX := hTX.call hle hfr
  refine W.eq (g2 := F0 m 516 ls [.int (gP f k 8), .int v6]) rfl ?_
  refine w_tern (ls := ls) (rest := [.int v6]) (P := fun v => v = .int (gP f k 8)) (J := 524) (fun K => ?_) (fun v hv => ?_)
  · skip
    refine lv_if_eq (tgt := 523) hx hb dL_law_516 (by decide) (fun c_2 => ?_) (fun c_2 => ?_)
    · skip
      refine lv_iconst (v := 0) hx hb dL_law_523 (by decide) ?_
      exact K _ (congrArg Value.int (c_2.symm))
    · skip
      refine lv_iconst (v := 1) hx hb dL_law_519 (by decide) ?_
      refine lv_goto (tgt := 524) hx hb dL_law_520 (by decide) ?_
      exact K _ (congrArg Value.int (((hbr.vp hk).2.2.2.2.2.2.1.elim (fun z9 => absurd z9 c_2) (fun z9 => z9)).symm))
  · subst hv
    refine lv_iadd hx hb dL_law_524 ?_
    refine lv_istore (lv' := [(6, .int (v6 + (gP f k 8))), (14, .int (gP f k 2)), (13, .int v13), (12, .int (v12 + (bc3 (eE f n t k)))), (11, .int (v11 + (imax 0 (eS f n k)))), (0, .ref b), (1, .ref (ad (429))), (2, .int v2), (3, .int (nI t)), (4, .int (nI n)), (5, .int (nI v5)), (7, .int (f 4)), (8, .int v8), (9, .int (gT f r)), (10, .int (nI (cN f n (gT f r)))), (15, .ref tx), (16, .int (nI (q + 1))), (17, .int (gP f k 0)), (18, .int (eB f n k)), (19, .int (nI (eE f n t k))), (20, .int (eS f n k))]) hx hb dL_law_525 hl (by decide) rfl (fun ls hl => ?_)
    refine lv_iinc (v := nI (v5 + 1)) (lv' := [(5, .int (nI (v5 + 1))), (6, .int (v6 + (gP f k 8))), (14, .int (gP f k 2)), (13, .int v13), (12, .int (v12 + (bc3 (eE f n t k)))), (11, .int (v11 + (imax 0 (eS f n k)))), (0, .ref b), (1, .ref (ad (429))), (2, .int v2), (3, .int (nI t)), (4, .int (nI n)), (7, .int (f 4)), (8, .int v8), (9, .int (gT f r)), (10, .int (nI (cN f n (gT f r)))), (15, .ref tx), (16, .int (nI (q + 1))), (17, .int (gP f k 0)), (18, .int (eB f n k)), (19, .int (nI (eE f n t k))), (20, .int (eS f n k))]) hx hb dL_law_527 hl (k := 10) rfl (nI_1 _) (by decide) rfl (fun ls hl => ?_)
    refine lv_iinc (v := nI ((q + 1) + 1)) (lv' := [(16, .int (nI ((q + 1) + 1))), (5, .int (nI (v5 + 1))), (6, .int (v6 + (gP f k 8))), (14, .int (gP f k 2)), (13, .int v13), (12, .int (v12 + (bc3 (eE f n t k)))), (11, .int (v11 + (imax 0 (eS f n k)))), (0, .ref b), (1, .ref (ad (429))), (2, .int v2), (3, .int (nI t)), (4, .int (nI n)), (7, .int (f 4)), (8, .int v8), (9, .int (gT f r)), (10, .int (nI (cN f n (gT f r)))), (15, .ref tx), (17, .int (gP f k 0)), (18, .int (eB f n k)), (19, .int (nI (eE f n t k))), (20, .int (eS f n k))]) hx hb dL_law_530 hl (k := 16) rfl (nI_1 _) (by decide) rfl (fun ls hl => ?_)
    refine lv_goto (tgt := 87) hx hb dL_law_533 (by decide) ?_
    refine W.widen (k := cells + 6) (n := slots + 40) (by omega) (by omega) ?_
    exact kk _ _ _ hP hS hTX (lv_sub hl [7, 8, 9, 10, 11, 1, 2, 12, 13, 14, 15, 6, 5, 4, 3, 16, 0] rfl)
end LSG
