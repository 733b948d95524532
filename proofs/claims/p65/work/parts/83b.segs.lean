section LSW
variable {p : Program} {l : Launch} {e : Env} {s : State} {m : MethodId} {args : Array Value} {below : List Frame} {meth : Method} {c : Code} {Q : State → Prop} {b L : Nat} {xs : Nat → Int32} {D : va_G} {cy : Nat → ClassId} {xq ad : Nat → Nat} {pm : Nat → Nat} {rj : Option Nat} {σ : Nat → Nat → Int32} {f : Nat → Int32} {B n t : Nat} {pi ro : Nat → Nat} {H : Heap} {locs : List Loc} {cells slots : Nat} {ls : Array Slot}
set_option maxHeartbeats 4000000 in
set_option maxRecDepth 100000 in
theorem wH (E0 : LE p l s m c args b L xs D cy xq) (hA : LA9 s.heap.size ad) (hbr : BR σ f B n t pi ro) (hB : B < 1000000) {a R C T9 : Nat} (hk : a < n) (hR : gP f a 3 = nI R) (hC : gP f a 4 = nI C) (hR1 : R < 10) (hC1 : C < 20) {r c9 : Nat} {v12 v13 : Int32} (hr : r < 10) (hc9 : c9 ≤ 20) (hc : cells + 2 ≤ 752875) (hs : slots + 20 ≤ 6835470) (hP : va_P D vwCl (cW ad cy pm rj σ) H) (hS : va_S (fun q => s.heap.size ≤ q) s.heap H locs) (hl : lv_has ls 21 [(0, .ref b), (1, .ref (ad (429))), (2, .int (nI T9)), (3, .int (nI t)), (4, .int (nI n)), (7, .int (f 4)), (9, .int (gP f a 0)), (10, .int (nI R)), (11, .int (nI C)), (12, .int v12), (13, .int v13), (14, .int (nI r)), (15, .int (nI c9))]) (kk : ∀ (H1 : Heap) (locs1 : List Loc) (ls1 : Array Slot), va_P D vwCl (cW ad cy pm rj σ) H1 → va_S (fun q => s.heap.size ≤ q) s.heap H1 locs1 → (c9 < 20 ∧ c9 < C + 3) → lv_has ls1 21 [(0, .ref b), (1, .ref (ad (429))), (2, .int (nI T9)), (3, .int (nI t)), (4, .int (nI n)), (7, .int (f 4)), (9, .int (gP f a 0)), (10, .int (nI R)), (11, .int (nI C)), (12, .int v12), (13, .int v13), (14, .int (nI r)), (15, .int (nI c9))] → W p l e room_1 s m args below meth c H1 locs1 (cells + 2) (slots + 20) Q (F0 m 1192 ls1 [])) (kx : ∀ (H1 : Heap) (locs1 : List Loc) (ls1 : Array Slot), va_P D vwCl (cW ad cy pm rj σ) H1 → va_S (fun q => s.heap.size ≤ q) s.heap H1 locs1 → (20 ≤ c9 ∨ C + 3 ≤ c9) → lv_has ls1 21 [(0, .ref b), (1, .ref (ad (429))), (2, .int (nI T9)), (3, .int (nI t)), (4, .int (nI n)), (7, .int (f 4)), (9, .int (gP f a 0)), (10, .int (nI R)), (11, .int (nI C)), (12, .int v12), (13, .int v13), (14, .int (nI r))] → W p l e room_1 s m args below meth c H1 locs1 (cells + 2) (slots + 20) Q (F0 m 1321 ls1 [])) : W p l e room_1 s m args below meth c H locs (cells) (slots) Q (F0 m 1178 ls []) := by
  have hE := E0
  obtain ⟨hx, hb, hml, hown, hts, htb, hX, hbl, hst, hK, hE0, hL⟩ := hE
  have hi := hA.1
  refine lv_iload hx hb dL_law_1178 (lv_at hl 12 rfl) ?_
  refine lv_bipush (v := 20) hx hb dL_law_1180 (by decide) ?_
  refine lv_iload hx hb dL_law_1182 (lv_at hl 8 rfl) ?_
  refine lv_iconst (v := 3) hx hb dL_law_1184 (by decide) ?_
  refine lv_iadd hx hb dL_law_1185 ?_
  refine va_mmin hx hb (by rw [hml]; exact hl.1.symm) hown (hts _ (il_wsL_law0_r1 _ (List.mem_of_getElem? (i := 10) rfl))) (hts _ (il_wsL_law0_r1 _ (List.mem_of_getElem? (i := 11) rfl))) (hts _ (il_wsL_law0_r1 _ (List.mem_of_getElem? (i := 8) rfl))) (hts _ (il_wsL_law0_r1 _ (List.mem_of_getElem? (i := 12) rfl))) (Nat.le_of_ble_eq_true rfl) (Nat.le_of_ble_eq_true rfl) (by show _ ≤ 752875; omega) (by show _ ≤ 6835470; omega) dL_law_1186 ?_
  refine W.eq (g2 := F0 m 1189 ls [.int (imin 20 ((nI C) + 3)), .int (nI c9)]) rfl ?_
  refine W.eq (g2 := F0 m 1189 ls [.int (nI (min 20 (C + 3))), .int (nI c9)]) (by rw [min_20 C hC1]) ?_
  refine lv_icmp_ge (tgt := 1321) hx hb dL_law_1189 (by decide) (fun c_1 => ?_) (fun c_1 => ?_)
  · skip
    have hTX : 20 ≤ c9 ∨ C + 3 ≤ c9 := by
      have h9 := (nI_leI (a := min 20 (C + 3)) (b := c9) (by omega) (by omega)).mp c_1
      omega
    refine W.widen (k := cells + 2) (n := slots + 20) (by omega) (by omega) ?_
    exact kx _ _ _ hP hS hTX (lv_sub hl [0, 1, 2, 3, 4, 5, 6, 7, 8, 9, 10, 11] rfl)
  · skip
    have hTX : c9 < 20 ∧ c9 < C + 3 := by
      have h9 : ¬ min 20 (C + 3) ≤ c9 := fun z9 => c_1 (nI_le z9 (by omega))
      omega
    refine W.widen (k := cells + 2) (n := slots + 20) (by omega) (by omega) ?_
    exact kk _ _ _ hP hS hTX (lv_sub hl [0, 1, 2, 3, 4, 5, 6, 7, 8, 9, 10, 11, 12] rfl)
set_option maxHeartbeats 4000000 in
set_option maxRecDepth 100000 in
theorem vH (E0 : LE p l s m c args b L xs D cy xq) (hA : LA9 s.heap.size ad) (hbr : BR σ f B n t pi ro) (hB : B < 1000000) {a R C T9 : Nat} (hk : a < n) (hR : gP f a 3 = nI R) (hC : gP f a 4 = nI C) (hR1 : R < 10) (hC1 : C < 20) {r : Nat} {v12 v13 : Int32} (hr : r ≤ 10) (hc : cells + 4 ≤ 752875) (hs : slots + 40 ≤ 6835470) (hP : va_P D vwCl (cW ad cy pm rj σ) H) (hS : va_S (fun q => s.heap.size ≤ q) s.heap H locs) (hl : lv_has ls 21 [(0, .ref b), (1, .ref (ad (429))), (2, .int (nI T9)), (3, .int (nI t)), (4, .int (nI n)), (7, .int (f 4)), (9, .int (gP f a 0)), (10, .int (nI R)), (11, .int (nI C)), (12, .int v12), (13, .int v13), (14, .int (nI r))]) (kk : ∀ (H1 : Heap) (locs1 : List Loc) (ls1 : Array Slot), va_P D vwCl (cW ad cy pm rj σ) H1 → va_S (fun q => s.heap.size ≤ q) s.heap H1 locs1 → (r < 10 ∧ r < R + 3) → lv_has ls1 21 [(0, .ref b), (1, .ref (ad (429))), (2, .int (nI T9)), (3, .int (nI t)), (4, .int (nI n)), (7, .int (f 4)), (9, .int (gP f a 0)), (10, .int (nI R)), (11, .int (nI C)), (12, .int v12), (13, .int v13), (14, .int (nI r)), (15, .int (nI (C - 2)))] → W p l e room_1 s m args below meth c H1 locs1 (cells + 4) (slots + 40) Q (F0 m 1178 ls1 [])) (kx : ∀ (H1 : Heap) (locs1 : List Loc) (ls1 : Array Slot), va_P D vwCl (cW ad cy pm rj σ) H1 → va_S (fun q => s.heap.size ≤ q) s.heap H1 locs1 → (10 ≤ r ∨ R + 3 ≤ r) → lv_has ls1 21 [(0, .ref b), (1, .ref (ad (429))), (2, .int (nI T9)), (3, .int (nI t)), (4, .int (nI n)), (7, .int (f 4)), (9, .int (gP f a 0)), (10, .int (nI R)), (11, .int (nI C)), (12, .int v12), (13, .int v13)] → W p l e room_1 s m args below meth c H1 locs1 (cells + 4) (slots + 40) Q (F0 m 1327 ls1 [])) : W p l e room_1 s m args below meth c H locs (cells) (slots) Q (F0 m 1154 ls []) := by
  have hE := E0
  obtain ⟨hx, hb, hml, hown, hts, htb, hX, hbl, hst, hK, hE0, hL⟩ := hE
  have hi := hA.1
  refine lv_iload hx hb dL_law_1154 (lv_at hl 11 rfl) ?_
  refine lv_bipush (v := 10) hx hb dL_law_1156 (by decide) ?_
  refine lv_iload hx hb dL_law_1158 (lv_at hl 7 rfl) ?_
  refine lv_iconst (v := 3) hx hb dL_law_1160 (by decide) ?_
  refine lv_iadd hx hb dL_law_1161 ?_
  refine va_mmin hx hb (by rw [hml]; exact hl.1.symm) hown (hts _ (il_wsL_law0_r1 _ (List.mem_of_getElem? (i := 10) rfl))) (hts _ (il_wsL_law0_r1 _ (List.mem_of_getElem? (i := 11) rfl))) (hts _ (il_wsL_law0_r1 _ (List.mem_of_getElem? (i := 8) rfl))) (hts _ (il_wsL_law0_r1 _ (List.mem_of_getElem? (i := 12) rfl))) (Nat.le_of_ble_eq_true rfl) (Nat.le_of_ble_eq_true rfl) (by show _ ≤ 752875; omega) (by show _ ≤ 6835470; omega) dL_law_1162 ?_
  refine W.eq (g2 := F0 m 1165 ls [.int (imin 10 ((nI R) + 3)), .int (nI r)]) rfl ?_
  refine W.eq (g2 := F0 m 1165 ls [.int (nI (min 10 (R + 3))), .int (nI r)]) (by rw [min_10 R hR1]) ?_
  refine lv_icmp_ge (tgt := 1327) hx hb dL_law_1165 (by decide) (fun c_1 => ?_) (fun c_1 => ?_)
  · skip
    have hTX : 10 ≤ r ∨ R + 3 ≤ r := by
      have h9 := (nI_leI (a := min 10 (R + 3)) (b := r) (by omega) (by omega)).mp c_1
      omega
    refine W.widen (k := cells + 4) (n := slots + 40) (by omega) (by omega) ?_
    exact kx _ _ _ hP hS hTX (lv_sub hl [0, 1, 2, 3, 4, 5, 6, 7, 8, 9, 10] rfl)
  · skip
    have hTX : r < 10 ∧ r < R + 3 := by
      have h9 : ¬ min 10 (R + 3) ≤ r := fun z9 => c_1 (nI_le z9 (by omega))
      omega
    refine lv_iconst (v := 0) hx hb dL_law_1168 (by decide) ?_
    refine lv_iload hx hb dL_law_1169 (lv_at hl 8 rfl) ?_
    refine lv_iconst (v := 2) hx hb dL_law_1171 (by decide) ?_
    refine lv_isub hx hb dL_law_1172 ?_
    refine va_mmax hx hb (by rw [hml]; exact hl.1.symm) hown (hts _ (il_wsL_law0_r1 _ (List.mem_of_getElem? (i := 6) rfl))) (hts _ (il_wsL_law0_r1 _ (List.mem_of_getElem? (i := 7) rfl))) (hts _ (il_wsL_law0_r1 _ (List.mem_of_getElem? (i := 8) rfl))) (hts _ (il_wsL_law0_r1 _ (List.mem_of_getElem? (i := 9) rfl))) (Nat.le_of_ble_eq_true rfl) (Nat.le_of_ble_eq_true rfl) (by show _ ≤ 752875; omega) (by show _ ≤ 6835470; omega) dL_law_1173 ?_
    refine W.eq (g2 := F0 m 1176 ls [.int (imax 0 ((nI C) - 2))]) rfl ?_
    refine W.eq (g2 := F0 m 1176 ls [.int (nI (C - 2))]) (by rw [max_2 C (by omega)]) ?_
    refine lv_istore (lv' := [(15, .int (nI (C - 2))), (0, .ref b), (1, .ref (ad (429))), (2, .int (nI T9)), (3, .int (nI t)), (4, .int (nI n)), (7, .int (f 4)), (9, .int (gP f a 0)), (10, .int (nI R)), (11, .int (nI C)), (12, .int v12), (13, .int v13), (14, .int (nI r))]) hx hb dL_law_1176 hl (by decide) rfl (fun ls hl => ?_)
    refine W.widen (k := cells + 4) (n := slots + 40) (by omega) (by omega) ?_
    exact kk _ _ _ hP hS hTX (lv_sub hl [1, 2, 3, 4, 5, 6, 7, 8, 9, 10, 11, 12, 0] rfl)
set_option maxHeartbeats 4000000 in
set_option maxRecDepth 100000 in
theorem vE (E0 : LE p l s m c args b L xs D cy xq) (hA : LA9 s.heap.size ad) (hbr : BR σ f B n t pi ro) (hB : B < 1000000) {a R C T9 : Nat} (hk : a < n) (hR : gP f a 3 = nI R) (hC : gP f a 4 = nI C) (hR1 : R < 10) (hC1 : C < 20) {r : Nat} {v12 v13 : Int32} (hc : cells + 2 ≤ 752875) (hs : slots + 20 ≤ 6835470) (hP : va_P D vwCl (cW ad cy pm rj σ) H) (hS : va_S (fun q => s.heap.size ≤ q) s.heap H locs) (hl : lv_has ls 21 [(0, .ref b), (1, .ref (ad (429))), (2, .int (nI T9)), (3, .int (nI t)), (4, .int (nI n)), (7, .int (f 4)), (9, .int (gP f a 0)), (10, .int (nI R)), (11, .int (nI C)), (12, .int v12), (13, .int v13), (14, .int (nI r))]) (kk : ∀ (H1 : Heap) (locs1 : List Loc) (ls1 : Array Slot), va_P D vwCl (cW ad cy pm rj σ) H1 → va_S (fun q => s.heap.size ≤ q) s.heap H1 locs1 → lv_has ls1 21 [(0, .ref b), (1, .ref (ad (429))), (2, .int (nI T9)), (3, .int (nI t)), (4, .int (nI n)), (7, .int (f 4)), (9, .int (gP f a 0)), (10, .int (nI R)), (11, .int (nI C)), (12, .int v12), (13, .int v13), (14, .int (nI (r + 1)))] → W p l e room_1 s m args below meth c H1 locs1 (cells + 2) (slots + 20) Q (F0 m 1154 ls1 [])) : W p l e room_1 s m args below meth c H locs (cells) (slots) Q (F0 m 1321 ls []) := by
  have hE := E0
  obtain ⟨hx, hb, hml, hown, hts, htb, hX, hbl, hst, hK, hE0, hL⟩ := hE
  have hi := hA.1
  refine lv_iinc (v := nI (r + 1)) (lv' := [(14, .int (nI (r + 1))), (0, .ref b), (1, .ref (ad (429))), (2, .int (nI T9)), (3, .int (nI t)), (4, .int (nI n)), (7, .int (f 4)), (9, .int (gP f a 0)), (10, .int (nI R)), (11, .int (nI C)), (12, .int v12), (13, .int v13)]) hx hb dL_law_1321 hl (k := 11) rfl (nI_1 _) (by decide) rfl (fun ls hl => ?_)
  refine lv_goto (tgt := 1154) hx hb dL_law_1324 (by decide) ?_
  refine W.widen (k := cells + 2) (n := slots + 20) (by omega) (by omega) ?_
  exact kk _ _ _ hP hS (lv_sub hl [1, 2, 3, 4, 5, 6, 7, 8, 9, 10, 11, 0] rfl)
set_option maxHeartbeats 4000000 in
set_option maxRecDepth 100000 in
theorem sgF (E0 : LE p l s m c args b L xs D cy xq) (hA : LA9 s.heap.size ad) (hbr : BR σ f B n t pi ro) (hB : B < 1000000) {a R C T9 : Nat} (hk : a < n) (hR : gP f a 3 = nI R) (hC : gP f a 4 = nI C) (hR1 : R < 10) (hC1 : C < 20) {v13 : Int32} (hc : cells + 30 ≤ 752875) (hs : slots + 100 ≤ 6835470) (hP : va_P D vwCl (cW ad cy pm rj σ) H) (hS : va_S (fun q => s.heap.size ≤ q) s.heap H locs) (hl : lv_has ls 21 [(0, .ref b), (1, .ref (ad (429))), (2, .int (nI T9)), (3, .int (nI t)), (4, .int (nI n)), (7, .int (f 4)), (9, .int (gP f a 0)), (10, .int (nI R)), (11, .int (nI C)), (12, .int (m_sug f n t a)), (13, .int v13)]) (kk : ∀ (H1 : Heap) (locs1 : List Loc) (ls1 : Array Slot), va_P D vwCl (cW ad cy pm rj σ) H1 → va_S (fun q => s.heap.size ≤ q) s.heap H1 locs1 → lv_has ls1 21 [(0, .ref b), (1, .ref (ad (429))), (2, .int (nI T9))] → W p l e room_1 s m args below meth c H1 locs1 (cells + 30) (slots + 100) Q (F0 m 1340 ls1 [])) : W p l e room_1 s m args below meth c H locs (cells) (slots) Q (F0 m 1327 ls []) := by
  have hE := E0
  obtain ⟨hx, hb, hml, hown, hts, htb, hX, hbl, hst, hK, hE0, hL⟩ := hE
  have hi := hA.1
  refine lv_aload_n hx hb dL_law_1327 rfl (lv_at hl 1 rfl) ?_
  refine lv_iload hx hb dL_law_1328 (lv_at hl 6 rfl) ?_
  refine sp_callm (va_runV (As := [.int (gP f a 0)]) (rest := []) ⟨hx, hb, hml, hown, hts⟩ (k_suggestCell l D ad cy pm rj σ xq hst _ hA.1 hbr hB hk) (cwV 1 hts gL_law_X9_suggestCell rfl rfl rfl (by decide +kernel) ⟨Nat.le_of_ble_eq_true rfl, Nat.le_of_ble_eq_true rfl⟩) (sp_preVmx hK hP (lwEX hE0 hA hS) (κ := 429) (by decide) cE_sp rfl) rfl rfl hl.1 rfl (lv_room (Nat.le_of_ble_eq_true rfl)) dL_law_1330 ⟨by show _ ≤ 752875; omega, by show _ ≤ 6835470; omega⟩) hS (fun q _ h => lwAd hA hS q h) (fun q h => lwAd hA hS q h) (fun H locs hP hle hfr hS => ?_)
  refine W.eq (g2 := F0 m 1333 ls [.int (m_sug f n t a)]) rfl ?_
  refine lv_iload hx hb dL_law_1333 (lv_at hl 9 rfl) ?_
  refine lv_icmp_eq (tgt := 1340) hx hb dL_law_1335 (by decide) (fun c_1 => ?_) (fun c_1 => absurd rfl c_1)
  refine W.widen (k := cells + 30) (n := slots + 100) (by omega) (by omega) ?_
  exact kk _ _ _ hP hS (lv_sub hl [0, 1, 2] rfl)
set_option maxHeartbeats 4000000 in
set_option maxRecDepth 100000 in
theorem sZ0 (E0 : LE p l s m c args b L xs D cy xq) (hA : LA9 s.heap.size ad) (hbr : BR σ f B n t pi ro) (hB : B < 1000000) {T9 : Nat} (hn0 : n = 0) (hc : cells + 2 ≤ 752875) (hs : slots + 20 ≤ 6835470) (hP : va_P D vwCl (cW ad cy pm rj σ) H) (hS : va_S (fun q => s.heap.size ≤ q) s.heap H locs) (hl : lv_has ls 21 [(0, .ref b), (1, .ref (ad (429))), (2, .int (nI T9)), (3, .int (nI t)), (4, .int (nI n)), (7, .int (f 4))]) (kk : ∀ (H1 : Heap) (locs1 : List Loc) (ls1 : Array Slot), va_P D vwCl (cW ad cy pm rj σ) H1 → va_S (fun q => s.heap.size ≤ q) s.heap H1 locs1 → lv_has ls1 21 [(0, .ref b), (1, .ref (ad (429))), (2, .int (nI T9))] → W p l e room_1 s m args below meth c H1 locs1 (cells + 2) (slots + 20) Q (F0 m 1340 ls1 [])) : W p l e room_1 s m args below meth c H locs (cells) (slots) Q (F0 m 1082 ls []) := by
  have hE := E0
  obtain ⟨hx, hb, hml, hown, hts, htb, hX, hbl, hst, hK, hE0, hL⟩ := hE
  have hi := hA.1
  have h30 := hbr.n30
  refine lv_iload hx hb dL_law_1082 (lv_at hl 4 rfl) ?_
  refine lv_if_le (tgt := 1340) hx hb dL_law_1084 (by decide) (fun c_1 => ?_) (fun c_1 => absurd (show nI n ≤ 0 by rw [hn0]; decide) c_1)
  refine W.widen (k := cells + 2) (n := slots + 20) (by omega) (by omega) ?_
  exact kk _ _ _ hP hS (lv_sub hl [0, 1, 2] rfl)
set_option maxHeartbeats 4000000 in
set_option maxRecDepth 100000 in
theorem sZ1 (E0 : LE p l s m c args b L xs D cy xq) (hA : LA9 s.heap.size ad) (hbr : BR σ f B n t pi ro) (hB : B < 1000000) {T9 : Nat} (hn0 : 0 < n) (hc : cells + 2 ≤ 752875) (hs : slots + 20 ≤ 6835470) (hP : va_P D vwCl (cW ad cy pm rj σ) H) (hS : va_S (fun q => s.heap.size ≤ q) s.heap H locs) (hl : lv_has ls 21 [(0, .ref b), (1, .ref (ad (429))), (2, .int (nI T9)), (3, .int (nI t)), (4, .int (nI n)), (7, .int (f 4))]) (kk : ∀ (H1 : Heap) (locs1 : List Loc) (ls1 : Array Slot), va_P D vwCl (cW ad cy pm rj σ) H1 → va_S (fun q => s.heap.size ≤ q) s.heap H1 locs1 → lv_has ls1 21 [(0, .ref b), (1, .ref (ad (429))), (2, .int (nI T9)), (3, .int (nI t)), (4, .int (nI n)), (7, .int (f 4))] → W p l e room_1 s m args below meth c H1 locs1 (cells + 2) (slots + 20) Q (F0 m 1087 ls1 [])) : W p l e room_1 s m args below meth c H locs (cells) (slots) Q (F0 m 1082 ls []) := by
  have hE := E0
  obtain ⟨hx, hb, hml, hown, hts, htb, hX, hbl, hst, hK, hE0, hL⟩ := hE
  have hi := hA.1
  have h30 := hbr.n30
  refine lv_iload hx hb dL_law_1082 (lv_at hl 4 rfl) ?_
  refine lv_if_le (tgt := 1340) hx hb dL_law_1084 (by decide) (fun c_1 => absurd ((nI_leI (a := n) (b := 0) (by omega) (by decide)).mp c_1) (by omega)) (fun c_1 => ?_)
  refine W.widen (k := cells + 2) (n := slots + 20) (by omega) (by omega) ?_
  exact kk _ _ _ hP hS (lv_sub hl [0, 1, 2, 3, 4, 5] rfl)
set_option maxHeartbeats 4000000 in
set_option maxRecDepth 100000 in
theorem tS (E0 : LE p l s m c args b L xs D cy xq) (hA : LA9 s.heap.size ad) (hbr : BR σ f B n t pi ro) (hB : B < 1000000) {T9 : Nat} (hc : cells + 12 ≤ 752875) (hs : slots + 80 ≤ 6835470) (hP : va_P D vwCl (cW ad cy pm rj σ) H) (hS : va_S (fun q => s.heap.size ≤ q) s.heap H locs) (hl : lv_has ls 21 [(0, .ref b), (1, .ref (ad (429))), (2, .int (nI T9))]) (kk : ∀ (H1 : Heap) (locs1 : List Loc) (ls1 : Array Slot), va_P D vwCl (cW ad cy pm rj σ) H1 → va_S (fun q => s.heap.size ≤ q) s.heap H1 locs1 → lv_has ls1 21 [(0, .ref b), (1, .ref (ad (429))), (2, .int (nI T9)), (3, .int (nI t)), (4, .int (nI n)), (5, .int (0)), (6, .int (0)), (7, .int (f 4)), (8, .int (nI 0))] → W p l e room_1 s m args below meth c H1 locs1 (cells + 12) (slots + 80) Q (F0 m 46 ls1 [])) : W p l e room_1 s m args below meth c H locs (cells) (slots) Q (F0 m 20 ls []) := by
  have hE := E0
  obtain ⟨hx, hb, hml, hown, hts, htb, hX, hbl, hst, hK, hE0, hL⟩ := hE
  have hi := hA.1
  refine lv_aload_n hx hb dL_law_20 rfl (lv_at hl 1 rfl) ?_
  refine sp_call (W.runV (As := []) (rest := []) ⟨hx, hb, hml, hown, hts⟩ (k_trackCount l D ad cy pm rj σ hbr ) (cwV 0 hts gL_law_X9_trackCount rfl rfl rfl (by decide +kernel) ⟨Nat.le_of_ble_eq_true rfl, Nat.le_of_ble_eq_true rfl⟩) (sp_preV hK hP (κ := 429) (by decide) cE_sp rfl) rfl rfl hl.1 rfl (lv_room (Nat.le_of_ble_eq_true rfl)) dL_law_21 ⟨by show _ ≤ 752875; omega, by show _ ≤ 6835470; omega⟩) ?_
  refine W.eq (g2 := F0 m 24 ls [.int (nI t)]) rfl ?_
  refine lv_istore_n (lv' := [(3, .int (nI t)), (0, .ref b), (1, .ref (ad (429))), (2, .int (nI T9))]) hx hb dL_law_24 rfl hl (by decide) rfl (fun ls hl => ?_)
  refine lv_aload_n hx hb dL_law_25 rfl (lv_at hl 2 rfl) ?_
  refine sp_call (W.runV (As := []) (rest := []) ⟨hx, hb, hml, hown, hts⟩ (k_totalPrints l D ad cy pm rj σ hbr ) (cwV 0 hts gL_law_X9_totalPrints rfl rfl rfl (by decide +kernel) ⟨Nat.le_of_ble_eq_true rfl, Nat.le_of_ble_eq_true rfl⟩) (sp_preV hK hP (κ := 429) (by decide) cE_sp rfl) rfl rfl hl.1 rfl (lv_room (Nat.le_of_ble_eq_true rfl)) dL_law_26 ⟨by show _ ≤ 752875; omega, by show _ ≤ 6835470; omega⟩) ?_
  refine W.eq (g2 := F0 m 29 ls [.int (nI n)]) rfl ?_
  refine lv_istore (lv' := [(4, .int (nI n)), (3, .int (nI t)), (0, .ref b), (1, .ref (ad (429))), (2, .int (nI T9))]) hx hb dL_law_29 hl (by decide) rfl (fun ls hl => ?_)
  refine lv_iconst (v := 0) hx hb dL_law_31 (by decide) ?_
  refine lv_istore (lv' := [(5, .int (0)), (4, .int (nI n)), (3, .int (nI t)), (0, .ref b), (1, .ref (ad (429))), (2, .int (nI T9))]) hx hb dL_law_32 hl (by decide) rfl (fun ls hl => ?_)
  refine lv_iconst (v := 0) hx hb dL_law_34 (by decide) ?_
  refine lv_istore (lv' := [(6, .int (0)), (5, .int (0)), (4, .int (nI n)), (3, .int (nI t)), (0, .ref b), (1, .ref (ad (429))), (2, .int (nI T9))]) hx hb dL_law_35 hl (by decide) rfl (fun ls hl => ?_)
  refine lv_aload_n hx hb dL_law_37 rfl (lv_at hl 5 rfl) ?_
  refine sp_call (W.runV (As := []) (rest := []) ⟨hx, hb, hml, hown, hts⟩ (k_tideLevel l D ad cy pm rj σ hbr ) (cwV 0 hts gL_law_X9_tideLevel rfl rfl rfl (by decide +kernel) ⟨Nat.le_of_ble_eq_true rfl, Nat.le_of_ble_eq_true rfl⟩) (sp_preV hK hP (κ := 429) (by decide) cE_sp rfl) rfl rfl hl.1 rfl (lv_room (Nat.le_of_ble_eq_true rfl)) dL_law_38 ⟨by show _ ≤ 752875; omega, by show _ ≤ 6835470; omega⟩) ?_
  refine W.eq (g2 := F0 m 41 ls [.int (f 4)]) rfl ?_
  refine lv_istore (lv' := [(7, .int (f 4)), (6, .int (0)), (5, .int (0)), (4, .int (nI n)), (3, .int (nI t)), (0, .ref b), (1, .ref (ad (429))), (2, .int (nI T9))]) hx hb dL_law_41 hl (by decide) rfl (fun ls hl => ?_)
  refine lv_iconst (v := 0) hx hb dL_law_43 (by decide) ?_
  refine lv_istore (lv' := [(8, .int (0)), (7, .int (f 4)), (6, .int (0)), (5, .int (0)), (4, .int (nI n)), (3, .int (nI t)), (0, .ref b), (1, .ref (ad (429))), (2, .int (nI T9))]) hx hb dL_law_44 hl (by decide) rfl (fun ls hl => ?_)
  refine W.widen (k := cells + 12) (n := slots + 80) (by omega) (by omega) ?_
  exact kk _ _ _ hP hS (lv_sub hl [6, 7, 8, 5, 4, 3, 2, 1, 0] rfl)
set_option maxHeartbeats 4000000 in
set_option maxRecDepth 100000 in
theorem rS (E0 : LE p l s m c args b L xs D cy xq) (hA : LA9 s.heap.size ad) (hbr : BR σ f B n t pi ro) (hB : B < 1000000) {v2 : Int32} (hc : cells + 2 ≤ 752875) (hs : slots + 20 ≤ 6835470) (hP : va_P D vwCl (cW ad cy pm rj σ) H) (hS : va_S (fun q => s.heap.size ≤ q) s.heap H locs) (hl : lv_has ls 21 [(0, .ref b), (1, .ref (ad (429))), (2, .int v2), (3, .int (nI t)), (4, .int (nI n)), (5, .int (nI n)), (6, .int (sumI (mF_late f) n)), (7, .int (f 4))]) (kk : ∀ (H1 : Heap) (locs1 : List Loc) (ls1 : Array Slot), va_P D vwCl (cW ad cy pm rj σ) H1 → va_S (fun q => s.heap.size ≤ q) s.heap H1 locs1 → lv_has ls1 21 [(0, .ref b), (1, .ref (ad (429))), (2, .int v2), (3, .int (nI t)), (4, .int (nI n)), (5, .int (nI n)), (6, .int (sumI (mF_late f) n)), (7, .int (f 4)), (8, .int (nI 0)), (9, .int (nI 0))] → W p l e room_1 s m args below meth c H1 locs1 (cells + 2) (slots + 20) Q (F0 m 742 ls1 [])) : W p l e room_1 s m args below meth c H locs (cells) (slots) Q (F0 m 736 ls []) := by
  have hE := E0
  obtain ⟨hx, hb, hml, hown, hts, htb, hX, hbl, hst, hK, hE0, hL⟩ := hE
  have hi := hA.1
  refine lv_iconst (v := 0) hx hb dL_law_736 (by decide) ?_
  refine lv_istore (lv' := [(8, .int (0)), (0, .ref b), (1, .ref (ad (429))), (2, .int v2), (3, .int (nI t)), (4, .int (nI n)), (5, .int (nI n)), (6, .int (sumI (mF_late f) n)), (7, .int (f 4))]) hx hb dL_law_737 hl (by decide) rfl (fun ls hl => ?_)
  refine lv_iconst (v := 0) hx hb dL_law_739 (by decide) ?_
  refine lv_istore (lv' := [(9, .int (0)), (8, .int (0)), (0, .ref b), (1, .ref (ad (429))), (2, .int v2), (3, .int (nI t)), (4, .int (nI n)), (5, .int (nI n)), (6, .int (sumI (mF_late f) n)), (7, .int (f 4))]) hx hb dL_law_740 hl (by decide) rfl (fun ls hl => ?_)
  refine W.widen (k := cells + 2) (n := slots + 20) (by omega) (by omega) ?_
  exact kk _ _ _ hP hS (lv_sub hl [2, 3, 4, 5, 6, 7, 8, 9, 1, 0] rfl)
set_option maxHeartbeats 4000000 in
set_option maxRecDepth 100000 in
theorem oS (E0 : LE p l s m c args b L xs D cy xq) (hA : LA9 s.heap.size ad) (hbr : BR σ f B n t pi ro) (hB : B < 1000000) {v2 : Int32} (hc : cells + 2 ≤ 752875) (hs : slots + 20 ≤ 6835470) (hP : va_P D vwCl (cW ad cy pm rj σ) H) (hS : va_S (fun q => s.heap.size ≤ q) s.heap H locs) (hl : lv_has ls 21 [(0, .ref b), (1, .ref (ad (429))), (2, .int v2), (3, .int (nI t)), (4, .int (nI n)), (7, .int (f 4))]) (kk : ∀ (H1 : Heap) (locs1 : List Loc) (ls1 : Array Slot), va_P D vwCl (cW ad cy pm rj σ) H1 → va_S (fun q => s.heap.size ≤ q) s.heap H1 locs1 → lv_has ls1 21 [(0, .ref b), (1, .ref (ad (429))), (2, .int v2), (3, .int (nI t)), (4, .int (nI n)), (7, .int (f 4)), (9, .int (nI (0 + 1)))] → W p l e room_1 s m args below meth c H1 locs1 (cells + 2) (slots + 20) Q (F0 m 992 ls1 [])) : W p l e room_1 s m args below meth c H locs (cells) (slots) Q (F0 m 989 ls []) := by
  have hE := E0
  obtain ⟨hx, hb, hml, hown, hts, htb, hX, hbl, hst, hK, hE0, hL⟩ := hE
  have hi := hA.1
  refine lv_iconst (v := 1) hx hb dL_law_989 (by decide) ?_
  refine lv_istore (lv' := [(9, .int (1)), (0, .ref b), (1, .ref (ad (429))), (2, .int v2), (3, .int (nI t)), (4, .int (nI n)), (7, .int (f 4))]) hx hb dL_law_990 hl (by decide) rfl (fun ls hl => ?_)
  refine W.widen (k := cells + 2) (n := slots + 20) (by omega) (by omega) ?_
  exact kk _ _ _ hP hS (lv_sub hl [1, 2, 3, 4, 5, 6, 0] rfl)
end LSW
