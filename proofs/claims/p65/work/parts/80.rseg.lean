/-! THE ROWS -/
section LSR
variable {p : Program} {l : Launch} {e : Env} {s : State} {m : MethodId} {args : Array Value} {below : List Frame} {meth : Method} {c : Code} {Q : State → Prop} {b L : Nat} {xs : Nat → Int32} {D : va_G} {cy : Nat → ClassId} {xq ad : Nat → Nat} {pm : Nat → Nat} {rj : Option Nat} {σ : Nat → Nat → Int32} {f : Nat → Int32} {B n t : Nat} {pi ro : Nat → Nat} {H : Heap} {locs : List Loc} {cells slots : Nat} {ls : Array Slot}
set_option maxHeartbeats 4000000 in
set_option maxRecDepth 100000 in
theorem rwA (E0 : LE p l s m c args b L xs D cy xq) (hA : LA9 s.heap.size ad) (hbr : BR σ f B n t pi ro) (hB : B < 1000000) {R : Nat} {v2 v5 v6 v8 : Int32} (hc : cells + 0 ≤ 752875) (hs : slots + 0 ≤ 6835470) (hP : va_P D vwCl (cW ad cy pm rj σ) H) (hS : va_S (fun q => s.heap.size ≤ q) s.heap H locs) (hl : lv_has ls 21 [(0, .ref b), (1, .ref (ad (429))), (2, .int v2), (3, .int (nI t)), (4, .int (nI n)), (5, .int v5), (6, .int v6), (7, .int (f 4)), (8, .int v8), (9, .int (nI R))]) (kk : ∀ (H1 : Heap) (locs1 : List Loc) (ls1 : Array Slot), va_P D vwCl (cW ad cy pm rj σ) H1 → va_S (fun q => s.heap.size ≤ q) s.heap H1 locs1 → lv_has ls1 21 [(0, .ref b), (1, .ref (ad (429))), (2, .int v2), (3, .int (nI t)), (4, .int (nI n)), (5, .int v5), (6, .int v6), (7, .int (f 4)), (8, .int v8), (9, .int (nI R)), (10, .ref (xq 30)), (11, .int (nI 0)), (12, .int (nI 0))] → W p l e room_1 s m args below meth c H1 locs1 (cells + 0) (slots + 0) Q (F0 m 759 ls1 [])) : W p l e room_1 s m args below meth c H locs (cells) (slots) Q (F0 m 749 ls []) := by
  have hE := E0
  obtain ⟨hx, hb, hml, hown, hts, htb, hX, hbl, hst, hK, hE0, hL⟩ := hE
  have hi := hA.1
  refine va_ldcS hx hb hown (hE0.lx 0 rfl) dL_law_749 ?_
  refine lv_astore (lv' := [(10, .ref (xq 30)), (0, .ref b), (1, .ref (ad (429))), (2, .int v2), (3, .int (nI t)), (4, .int (nI n)), (5, .int v5), (6, .int v6), (7, .int (f 4)), (8, .int v8), (9, .int (nI R))]) hx hb dL_law_751 hl (by decide) rfl (fun ls hl => ?_)
  refine lv_iconst (v := 0) hx hb dL_law_753 (by decide) ?_
  refine W.eq (g2 := F0 m 754 ls [.int (nI 0)]) rfl ?_
  refine lv_istore (lv' := [(11, .int (nI 0)), (10, .ref (xq 30)), (0, .ref b), (1, .ref (ad (429))), (2, .int v2), (3, .int (nI t)), (4, .int (nI n)), (5, .int v5), (6, .int v6), (7, .int (f 4)), (8, .int v8), (9, .int (nI R))]) hx hb dL_law_754 hl (by decide) rfl (fun ls hl => ?_)
  refine lv_iconst (v := 0) hx hb dL_law_756 (by decide) ?_
  refine W.eq (g2 := F0 m 757 ls [.int (nI 0)]) rfl ?_
  refine lv_istore (lv' := [(12, .int (nI 0)), (11, .int (nI 0)), (10, .ref (xq 30)), (0, .ref b), (1, .ref (ad (429))), (2, .int v2), (3, .int (nI t)), (4, .int (nI n)), (5, .int v5), (6, .int v6), (7, .int (f 4)), (8, .int v8), (9, .int (nI R))]) hx hb dL_law_757 hl (by decide) rfl (fun ls hl => ?_)
  refine W.widen (k := cells + 0) (n := slots + 0) (by omega) (by omega) ?_
  exact kk _ _ _ hP hS (lv_sub hl [3, 4, 5, 6, 7, 8, 9, 10, 11, 12, 2, 1, 0] rfl)
set_option maxHeartbeats 4000000 in
set_option maxRecDepth 100000 in
theorem rC0 {tx : Nat} {T : List Nat} (E0 : LE p l s m c args b L xs D cy xq) (hA : LA9 s.heap.size ad) (hbr : BR σ f B n t pi ro) (hB : B < 1000000) {R C mny : Nat} {v2 v5 v6 v8 : Int32} (hR : R < 10) (hC : C < 20) (hw : nI R < f 4) (hm : m_cell f n (nI R) (nI C) = none) (hT9 : T.length + 1 ≤ 90) (hc : cells + 14 ≤ 752875) (hs : slots + 1400 ≤ 6835470) (hP : va_P D vwCl (cW ad cy pm rj σ) H) (hS : va_S (fun q => s.heap.size ≤ q) s.heap H locs) (hTX : TXs tx T.length (fun j => T.getD j 0) (sp_A ad 459 H.size) s H) (hl : lv_has ls 21 [(0, .ref b), (1, .ref (ad (429))), (2, .int v2), (3, .int (nI t)), (4, .int (nI n)), (5, .int v5), (6, .int v6), (7, .int (f 4)), (8, .int v8), (9, .int (nI R)), (10, .ref tx), (11, .int (nI mny)), (12, .int (nI C))]) (kk : ∀ (H1 : Heap) (locs1 : List Loc) (ls1 : Array Slot) (ty : Nat), va_P D vwCl (cW ad cy pm rj σ) H1 → va_S (fun q => s.heap.size ≤ q) s.heap H1 locs1 → TXs ty (T ++ [sgR f n R C]).length (fun j => (T ++ [sgR f n R C]).getD j 0) (sp_A ad 459 H1.size) s H1 → lv_has ls1 21 [(0, .ref b), (1, .ref (ad (429))), (2, .int v2), (3, .int (nI t)), (4, .int (nI n)), (5, .int v5), (6, .int v6), (7, .int (f 4)), (8, .int v8), (9, .int (nI R)), (10, .ref ty), (11, .int (nI (mny + 0))), (12, .int (nI (C + 1)))] → W p l e room_1 s m args below meth c H1 locs1 (cells + 14) (slots + 1400) Q (F0 m 759 ls1 [])) : W p l e room_1 s m args below meth c H locs (cells) (slots) Q (F0 m 766 ls []) := by
  have hE := E0
  obtain ⟨hx, hb, hml, hown, hts, htb, hX, hbl, hst, hK, hE0, hL⟩ := hE
  have hi := hA.1
  have hsg : [sgR f n R C] = [126] := by unfold sgR; rw [if_pos hw]
  have heI : eI f n R C = -30000 := by unfold eI; rw [hm]; rfl
  refine lv_aload_n hx hb dL_law_766 rfl (lv_at hl 1 rfl) ?_
  refine lv_iload hx hb dL_law_767 (lv_at hl 9 rfl) ?_
  refine lv_iload hx hb dL_law_769 (lv_at hl 12 rfl) ?_
  refine sp_callm (vx_runSW (As := [.ref (ad (429)), .int (nI R), .int (nI C)]) (rest := []) ⟨hx, hb, hml, hown, hts⟩ (k_L_printIn l D ad cy pm rj σ xq hst _ hA.1 hbr hB hR hC) (vx_cwSW 3 hts gL_law_L_printIn rfl rfl rfl (by decide +kernel) ⟨Nat.le_of_ble_eq_true rfl, Nat.le_of_ble_eq_true rfl⟩) (sp_preSmx hK hP (lwEX hE0 hA hS)) rfl rfl hl.1 rfl (lv_room (Nat.le_of_ble_eq_true rfl)) dL_law_771 ⟨by show _ ≤ 752875; omega, by show _ ≤ 6835470; omega⟩) hS (fun q _ h => lwAd hA hS q h) (fun q h => lwAd hA hS q h) (fun H locs hP hle hfr hS => ?_)
  have hTX := hTX.call hle hfr
  refine W.eq (g2 := F0 m 774 ls [.int (eI f n R C)]) rfl ?_
  refine W.eq (g2 := F0 m 774 ls [.int ((-30000))]) (by rw [heI]) ?_
  refine lv_istore (lv' := [(13, .int ((-30000))), (0, .ref b), (1, .ref (ad (429))), (2, .int v2), (3, .int (nI t)), (4, .int (nI n)), (5, .int v5), (6, .int v6), (7, .int (f 4)), (8, .int v8), (9, .int (nI R)), (10, .ref tx), (11, .int (nI mny)), (12, .int (nI C))]) hx hb dL_law_774 hl (by decide) rfl (fun ls hl => ?_)
  refine lv_iload hx hb dL_law_776 (lv_at hl 12 rfl) ?_
  refine lv_iload hx hb dL_law_778 (lv_at hl 0 rfl) ?_
  refine lv_if_lt (tgt := 787) hx hb dL_law_780 (by decide) (fun c_1 => ?_) (fun c_1 => absurd (by decide) c_1)
  refine lv_iconst (v := 0) hx hb dL_law_787 (by decide) ?_
  refine lv_iadd hx hb dL_law_788 ?_
  refine W.eq (g2 := F0 m 789 ls [.int (nI (mny + 0))]) (by rw [Int32.add_zero]; rfl) ?_
  refine lv_istore (lv' := [(11, .int (nI (mny + 0))), (13, .int ((-30000))), (0, .ref b), (1, .ref (ad (429))), (2, .int v2), (3, .int (nI t)), (4, .int (nI n)), (5, .int v5), (6, .int v6), (7, .int (f 4)), (8, .int v8), (9, .int (nI R)), (10, .ref tx), (12, .int (nI C))]) hx hb dL_law_789 hl (by decide) rfl (fun ls hl => ?_)
  obtain ⟨z0, hz0⟩ : ∃ z0, z0 = H.size := ⟨_, rfl⟩
  have had : ∀ k, k < 459 → ad k < z0 := fun k hk9 => by rw [hz0]; exact (sp_P_at hP hk9).lt
  have hzs : s.heap.size ≤ z0 := by rw [hz0]; exact hS.1
  have hTo : TXs tx T.length (fun j => T.getD j 0) (fun x => z0 ≤ x) s H := hTX.narrow (fun x hx9 => Or.inr (by rw [← hz0]; exact hx9))
  refine lt_new (rest := []) E0 dL_law_791 dL_law_794 dL_law_795 hl.1 hS (by decide) (by omega) (by omega) (fun qb vb H1 locs1 hBT hk1 hle1 hS1 => ?_)
  rw [← hz0] at hBT
  have hP := sp_P_ext hP hk1
  have hTo := hTo.kept (fun x hx9 _ => hk1 x hx9)
  clear hS hle1 hk1
  have hS := hS1
  refine W.eq (g2 := F0 m 798 ls [.ref qb]) rfl ?_
  refine lv_aload hx hb dL_law_798 (lv_at hl 12 rfl) ?_
  refine lt_app (t := tx) (M := T) (rest := []) E0 dL_law_800 hl.1 hS hBT hzs (hTo.narrow (fun x z9 => z9.elim (fun z9 => by have := hBT.lt; omega) (fun z9 => z9.elim (fun z9 => by have := hBT.lt; omega) (fun z9 => by have := hBT.lt; omega)))) (by show 0 + T.length ≤ 100; omega) (by decide) (by omega) (by omega) (fun v_2 H_2 locs_2 hBT9 hk9 hle9 hS9 => ?_)
  obtain ⟨hq1, hv1, hq2, hv2⟩ := hBT.lt
  have hP := sp_K2 hP had hq2 hv2 hk9
  clear hBT hS
  have hBT := hBT9
  have hS := hS9
  clear hBT9 hS9
  refine W.eq (g2 := F0 m 803 ls [.ref qb]) rfl ?_
  refine lv_iload hx hb dL_law_803 (lv_at hl 11 rfl) ?_
  refine lv_iload hx hb dL_law_805 (lv_at hl 9 rfl) ?_
  refine lv_icmp_ge (tgt := 816) hx hb dL_law_807 (by decide) (fun c_3 => absurd hw (Int32.not_lt.mpr c_3)) (fun c_3 => ?_)
  refine lv_ldcwS hx hb hown (hE0.lx 5 rfl) dL_law_810 ?_
  refine lv_goto (tgt := 850) hx hb dL_law_813 (by decide) ?_
  refine lt_app (t := xq 35) (M := exN9.getD 5 []) (rest := []) E0 dL_law_850 hl.1 hS hBT hzs ((lt_ex hE0 hS (Nat.le_trans hzs hBT.lt.2.2.1) (Nat.le_trans hzs hBT.lt.2.2.2)).tx (i := 5) (by decide)) (by show ([] ++ T).length + 1 ≤ 100; rw [List.nil_append]; omega) (by decide) (by omega) (by omega) (fun v_4 H_4 locs_4 hBT9 hk9 hle9 hS9 => ?_)
  obtain ⟨hq1, hv1, hq2, hv2⟩ := hBT.lt
  have hP := sp_K2 hP had hq2 hv2 hk9
  clear hBT hS
  have hBT := hBT9
  have hS := hS9
  clear hBT9 hS9
  refine W.eq (g2 := F0 m 853 ls [.ref qb]) rfl ?_
  have hBT : BT D cy z0 qb v_4 (T ++ [sgR f n R C]) H_4 := by rw [hsg]; exact hBT
  refine lt_str (rest := []) E0 dL_law_853 hl.1 hS hBT hzs (by rw [List.length_append]; show T.length + 1 ≤ 100; omega) (by decide) (by omega) (by omega) (fun ty H_5 locs_5 hTY9 hk9 hle9 hS9 => ?_)
  obtain ⟨hq1, hv1, hq2, hv2⟩ := hBT.lt
  have hTX := hTY9.narrow (B := sp_A ad 459 H_5.size) (fun x z9 => z9.elim (fun ⟨k9, h1, h2⟩ => Or.inl (by have := had k9 h1; omega)) Or.inr)
  have hP := sp_K2 hP had hq2 hv2 hk9
  clear hS
  have hS := hS9
  refine W.eq (g2 := F0 m 856 ls [.ref ty]) rfl ?_
  refine lv_astore (lv' := [(10, .ref ty), (11, .int (nI (mny + 0))), (13, .int ((-30000))), (0, .ref b), (1, .ref (ad (429))), (2, .int v2), (3, .int (nI t)), (4, .int (nI n)), (5, .int v5), (6, .int v6), (7, .int (f 4)), (8, .int v8), (9, .int (nI R)), (12, .int (nI C))]) hx hb dL_law_856 hl (by decide) rfl (fun ls hl => ?_)
  refine lv_iinc (v := nI (C + 1)) (lv' := [(12, .int (nI (C + 1))), (10, .ref ty), (11, .int (nI (mny + 0))), (13, .int ((-30000))), (0, .ref b), (1, .ref (ad (429))), (2, .int v2), (3, .int (nI t)), (4, .int (nI n)), (5, .int v5), (6, .int v6), (7, .int (f 4)), (8, .int v8), (9, .int (nI R))]) hx hb dL_law_858 hl (k := 13) rfl (nI_1 _) (by decide) rfl (fun ls hl => ?_)
  refine lv_goto (tgt := 759) hx hb dL_law_861 (by decide) ?_
  refine W.widen (k := cells + 14) (n := slots + 1400) (by omega) (by omega) ?_
  exact kk _ _ _ ty hP hS hTX (lv_sub hl [4, 5, 6, 7, 8, 9, 10, 11, 12, 13, 1, 2, 0] rfl)
set_option maxHeartbeats 4000000 in
set_option maxRecDepth 100000 in
theorem rC1 {tx : Nat} {T : List Nat} (E0 : LE p l s m c args b L xs D cy xq) (hA : LA9 s.heap.size ad) (hbr : BR σ f B n t pi ro) (hB : B < 1000000) {R C mny : Nat} {v2 v5 v6 v8 : Int32} (hR : R < 10) (hC : C < 20) (hw : ¬ nI R < f 4) (hm : m_cell f n (nI R) (nI C) = none) (hT9 : T.length + 1 ≤ 90) (hc : cells + 14 ≤ 752875) (hs : slots + 1400 ≤ 6835470) (hP : va_P D vwCl (cW ad cy pm rj σ) H) (hS : va_S (fun q => s.heap.size ≤ q) s.heap H locs) (hTX : TXs tx T.length (fun j => T.getD j 0) (sp_A ad 459 H.size) s H) (hl : lv_has ls 21 [(0, .ref b), (1, .ref (ad (429))), (2, .int v2), (3, .int (nI t)), (4, .int (nI n)), (5, .int v5), (6, .int v6), (7, .int (f 4)), (8, .int v8), (9, .int (nI R)), (10, .ref tx), (11, .int (nI mny)), (12, .int (nI C))]) (kk : ∀ (H1 : Heap) (locs1 : List Loc) (ls1 : Array Slot) (ty : Nat), va_P D vwCl (cW ad cy pm rj σ) H1 → va_S (fun q => s.heap.size ≤ q) s.heap H1 locs1 → TXs ty (T ++ [sgR f n R C]).length (fun j => (T ++ [sgR f n R C]).getD j 0) (sp_A ad 459 H1.size) s H1 → lv_has ls1 21 [(0, .ref b), (1, .ref (ad (429))), (2, .int v2), (3, .int (nI t)), (4, .int (nI n)), (5, .int v5), (6, .int v6), (7, .int (f 4)), (8, .int v8), (9, .int (nI R)), (10, .ref ty), (11, .int (nI (mny + 0))), (12, .int (nI (C + 1)))] → W p l e room_1 s m args below meth c H1 locs1 (cells + 14) (slots + 1400) Q (F0 m 759 ls1 [])) : W p l e room_1 s m args below meth c H locs (cells) (slots) Q (F0 m 766 ls []) := by
  have hE := E0
  obtain ⟨hx, hb, hml, hown, hts, htb, hX, hbl, hst, hK, hE0, hL⟩ := hE
  have hi := hA.1
  have hsg : [sgR f n R C] = [46] := by unfold sgR; rw [if_neg hw, hm]; rfl
  have heI : eI f n R C = -30000 := by unfold eI; rw [hm]; rfl
  refine lv_aload_n hx hb dL_law_766 rfl (lv_at hl 1 rfl) ?_
  refine lv_iload hx hb dL_law_767 (lv_at hl 9 rfl) ?_
  refine lv_iload hx hb dL_law_769 (lv_at hl 12 rfl) ?_
  refine sp_callm (vx_runSW (As := [.ref (ad (429)), .int (nI R), .int (nI C)]) (rest := []) ⟨hx, hb, hml, hown, hts⟩ (k_L_printIn l D ad cy pm rj σ xq hst _ hA.1 hbr hB hR hC) (vx_cwSW 3 hts gL_law_L_printIn rfl rfl rfl (by decide +kernel) ⟨Nat.le_of_ble_eq_true rfl, Nat.le_of_ble_eq_true rfl⟩) (sp_preSmx hK hP (lwEX hE0 hA hS)) rfl rfl hl.1 rfl (lv_room (Nat.le_of_ble_eq_true rfl)) dL_law_771 ⟨by show _ ≤ 752875; omega, by show _ ≤ 6835470; omega⟩) hS (fun q _ h => lwAd hA hS q h) (fun q h => lwAd hA hS q h) (fun H locs hP hle hfr hS => ?_)
  have hTX := hTX.call hle hfr
  refine W.eq (g2 := F0 m 774 ls [.int (eI f n R C)]) rfl ?_
  refine W.eq (g2 := F0 m 774 ls [.int ((-30000))]) (by rw [heI]) ?_
  refine lv_istore (lv' := [(13, .int ((-30000))), (0, .ref b), (1, .ref (ad (429))), (2, .int v2), (3, .int (nI t)), (4, .int (nI n)), (5, .int v5), (6, .int v6), (7, .int (f 4)), (8, .int v8), (9, .int (nI R)), (10, .ref tx), (11, .int (nI mny)), (12, .int (nI C))]) hx hb dL_law_774 hl (by decide) rfl (fun ls hl => ?_)
  refine lv_iload hx hb dL_law_776 (lv_at hl 12 rfl) ?_
  refine lv_iload hx hb dL_law_778 (lv_at hl 0 rfl) ?_
  refine lv_if_lt (tgt := 787) hx hb dL_law_780 (by decide) (fun c_1 => ?_) (fun c_1 => absurd (by decide) c_1)
  refine lv_iconst (v := 0) hx hb dL_law_787 (by decide) ?_
  refine lv_iadd hx hb dL_law_788 ?_
  refine W.eq (g2 := F0 m 789 ls [.int (nI (mny + 0))]) (by rw [Int32.add_zero]; rfl) ?_
  refine lv_istore (lv' := [(11, .int (nI (mny + 0))), (13, .int ((-30000))), (0, .ref b), (1, .ref (ad (429))), (2, .int v2), (3, .int (nI t)), (4, .int (nI n)), (5, .int v5), (6, .int v6), (7, .int (f 4)), (8, .int v8), (9, .int (nI R)), (10, .ref tx), (12, .int (nI C))]) hx hb dL_law_789 hl (by decide) rfl (fun ls hl => ?_)
  obtain ⟨z0, hz0⟩ : ∃ z0, z0 = H.size := ⟨_, rfl⟩
  have had : ∀ k, k < 459 → ad k < z0 := fun k hk9 => by rw [hz0]; exact (sp_P_at hP hk9).lt
  have hzs : s.heap.size ≤ z0 := by rw [hz0]; exact hS.1
  have hTo : TXs tx T.length (fun j => T.getD j 0) (fun x => z0 ≤ x) s H := hTX.narrow (fun x hx9 => Or.inr (by rw [← hz0]; exact hx9))
  refine lt_new (rest := []) E0 dL_law_791 dL_law_794 dL_law_795 hl.1 hS (by decide) (by omega) (by omega) (fun qb vb H1 locs1 hBT hk1 hle1 hS1 => ?_)
  rw [← hz0] at hBT
  have hP := sp_P_ext hP hk1
  have hTo := hTo.kept (fun x hx9 _ => hk1 x hx9)
  clear hS hle1 hk1
  have hS := hS1
  refine W.eq (g2 := F0 m 798 ls [.ref qb]) rfl ?_
  refine lv_aload hx hb dL_law_798 (lv_at hl 12 rfl) ?_
  refine lt_app (t := tx) (M := T) (rest := []) E0 dL_law_800 hl.1 hS hBT hzs (hTo.narrow (fun x z9 => z9.elim (fun z9 => by have := hBT.lt; omega) (fun z9 => z9.elim (fun z9 => by have := hBT.lt; omega) (fun z9 => by have := hBT.lt; omega)))) (by show 0 + T.length ≤ 100; omega) (by decide) (by omega) (by omega) (fun v_2 H_2 locs_2 hBT9 hk9 hle9 hS9 => ?_)
  obtain ⟨hq1, hv1, hq2, hv2⟩ := hBT.lt
  have hP := sp_K2 hP had hq2 hv2 hk9
  clear hBT hS
  have hBT := hBT9
  have hS := hS9
  clear hBT9 hS9
  refine W.eq (g2 := F0 m 803 ls [.ref qb]) rfl ?_
  refine lv_iload hx hb dL_law_803 (lv_at hl 11 rfl) ?_
  refine lv_iload hx hb dL_law_805 (lv_at hl 9 rfl) ?_
  refine lv_icmp_ge (tgt := 816) hx hb dL_law_807 (by decide) (fun c_3 => ?_) (fun c_3 => absurd (Int32.not_lt.mp hw) c_3)
  refine lv_iload hx hb dL_law_816 (lv_at hl 1 rfl) ?_
  refine lv_if_ge (tgt := 827) hx hb dL_law_818 (by decide) (fun c_4 => absurd c_4 (by decide)) (fun c_4 => ?_)
  refine lv_ldcwS hx hb hown (hE0.lx 6 rfl) dL_law_821 ?_
  refine lv_goto (tgt := 850) hx hb dL_law_824 (by decide) ?_
  refine lt_app (t := xq 36) (M := exN9.getD 6 []) (rest := []) E0 dL_law_850 hl.1 hS hBT hzs ((lt_ex hE0 hS (Nat.le_trans hzs hBT.lt.2.2.1) (Nat.le_trans hzs hBT.lt.2.2.2)).tx (i := 6) (by decide)) (by show ([] ++ T).length + 1 ≤ 100; rw [List.nil_append]; omega) (by decide) (by omega) (by omega) (fun v_5 H_5 locs_5 hBT9 hk9 hle9 hS9 => ?_)
  obtain ⟨hq1, hv1, hq2, hv2⟩ := hBT.lt
  have hP := sp_K2 hP had hq2 hv2 hk9
  clear hBT hS
  have hBT := hBT9
  have hS := hS9
  clear hBT9 hS9
  refine W.eq (g2 := F0 m 853 ls [.ref qb]) rfl ?_
  have hBT : BT D cy z0 qb v_5 (T ++ [sgR f n R C]) H_5 := by rw [hsg]; exact hBT
  refine lt_str (rest := []) E0 dL_law_853 hl.1 hS hBT hzs (by rw [List.length_append]; show T.length + 1 ≤ 100; omega) (by decide) (by omega) (by omega) (fun ty H_6 locs_6 hTY9 hk9 hle9 hS9 => ?_)
  obtain ⟨hq1, hv1, hq2, hv2⟩ := hBT.lt
  have hTX := hTY9.narrow (B := sp_A ad 459 H_6.size) (fun x z9 => z9.elim (fun ⟨k9, h1, h2⟩ => Or.inl (by have := had k9 h1; omega)) Or.inr)
  have hP := sp_K2 hP had hq2 hv2 hk9
  clear hS
  have hS := hS9
  refine W.eq (g2 := F0 m 856 ls [.ref ty]) rfl ?_
  refine lv_astore (lv' := [(10, .ref ty), (11, .int (nI (mny + 0))), (13, .int ((-30000))), (0, .ref b), (1, .ref (ad (429))), (2, .int v2), (3, .int (nI t)), (4, .int (nI n)), (5, .int v5), (6, .int v6), (7, .int (f 4)), (8, .int v8), (9, .int (nI R)), (12, .int (nI C))]) hx hb dL_law_856 hl (by decide) rfl (fun ls hl => ?_)
  refine lv_iinc (v := nI (C + 1)) (lv' := [(12, .int (nI (C + 1))), (10, .ref ty), (11, .int (nI (mny + 0))), (13, .int ((-30000))), (0, .ref b), (1, .ref (ad (429))), (2, .int v2), (3, .int (nI t)), (4, .int (nI n)), (5, .int v5), (6, .int v6), (7, .int (f 4)), (8, .int v8), (9, .int (nI R))]) hx hb dL_law_858 hl (k := 13) rfl (nI_1 _) (by decide) rfl (fun ls hl => ?_)
  refine lv_goto (tgt := 759) hx hb dL_law_861 (by decide) ?_
  refine W.widen (k := cells + 14) (n := slots + 1400) (by omega) (by omega) ?_
  exact kk _ _ _ ty hP hS hTX (lv_sub hl [4, 5, 6, 7, 8, 9, 10, 11, 12, 13, 1, 2, 0] rfl)
set_option maxHeartbeats 4000000 in
set_option maxRecDepth 100000 in
theorem rC2 {tx : Nat} {T : List Nat} (E0 : LE p l s m c args b L xs D cy xq) (hA : LA9 s.heap.size ad) (hbr : BR σ f B n t pi ro) (hB : B < 1000000) {R C mny : Nat} {v2 v5 v6 v8 : Int32} (hR : R < 10) (hC : C < 20) {k : Nat} (hw : ¬ nI R < f 4) (hm : m_cell f n (nI R) (nI C) = some k) (hT9 : T.length + 1 ≤ 90) (hc : cells + 14 ≤ 752875) (hs : slots + 1400 ≤ 6835470) (hP : va_P D vwCl (cW ad cy pm rj σ) H) (hS : va_S (fun q => s.heap.size ≤ q) s.heap H locs) (hTX : TXs tx T.length (fun j => T.getD j 0) (sp_A ad 459 H.size) s H) (hl : lv_has ls 21 [(0, .ref b), (1, .ref (ad (429))), (2, .int v2), (3, .int (nI t)), (4, .int (nI n)), (5, .int v5), (6, .int v6), (7, .int (f 4)), (8, .int v8), (9, .int (nI R)), (10, .ref tx), (11, .int (nI mny)), (12, .int (nI C))]) (kk : ∀ (H1 : Heap) (locs1 : List Loc) (ls1 : Array Slot) (ty : Nat), va_P D vwCl (cW ad cy pm rj σ) H1 → va_S (fun q => s.heap.size ≤ q) s.heap H1 locs1 → TXs ty (T ++ [sgR f n R C]).length (fun j => (T ++ [sgR f n R C]).getD j 0) (sp_A ad 459 H1.size) s H1 → lv_has ls1 21 [(0, .ref b), (1, .ref (ad (429))), (2, .int v2), (3, .int (nI t)), (4, .int (nI n)), (5, .int v5), (6, .int v6), (7, .int (f 4)), (8, .int v8), (9, .int (nI R)), (10, .ref ty), (11, .int (nI (mny + 1))), (12, .int (nI (C + 1)))] → W p l e room_1 s m args below meth c H1 locs1 (cells + 14) (slots + 1400) Q (F0 m 759 ls1 [])) : W p l e room_1 s m args below meth c H locs (cells) (slots) Q (F0 m 766 ls []) := by
  have hE := E0
  obtain ⟨hx, hb, hml, hown, hts, htb, hX, hbl, hst, hK, hE0, hL⟩ := hE
  have hi := hA.1
  have hsg : [sgR f n R C] = [48 + tn (gP f k 0) % 10] := by unfold sgR; rw [if_neg hw, hm]; rfl
  have hk := m_cell_lt hm
  have h0 := (hbr.vp hk).2.2.2.2.2.2.2.2.1
  have heI : eI f n R C = gP f k 0 := by unfold eI; rw [hm]; rfl
  refine lv_aload_n hx hb dL_law_766 rfl (lv_at hl 1 rfl) ?_
  refine lv_iload hx hb dL_law_767 (lv_at hl 9 rfl) ?_
  refine lv_iload hx hb dL_law_769 (lv_at hl 12 rfl) ?_
  refine sp_callm (vx_runSW (As := [.ref (ad (429)), .int (nI R), .int (nI C)]) (rest := []) ⟨hx, hb, hml, hown, hts⟩ (k_L_printIn l D ad cy pm rj σ xq hst _ hA.1 hbr hB hR hC) (vx_cwSW 3 hts gL_law_L_printIn rfl rfl rfl (by decide +kernel) ⟨Nat.le_of_ble_eq_true rfl, Nat.le_of_ble_eq_true rfl⟩) (sp_preSmx hK hP (lwEX hE0 hA hS)) rfl rfl hl.1 rfl (lv_room (Nat.le_of_ble_eq_true rfl)) dL_law_771 ⟨by show _ ≤ 752875; omega, by show _ ≤ 6835470; omega⟩) hS (fun q _ h => lwAd hA hS q h) (fun q h => lwAd hA hS q h) (fun H locs hP hle hfr hS => ?_)
  have hTX := hTX.call hle hfr
  refine W.eq (g2 := F0 m 774 ls [.int (eI f n R C)]) rfl ?_
  refine W.eq (g2 := F0 m 774 ls [.int (gP f k 0)]) (by rw [heI]) ?_
  refine lv_istore (lv' := [(13, .int (gP f k 0)), (0, .ref b), (1, .ref (ad (429))), (2, .int v2), (3, .int (nI t)), (4, .int (nI n)), (5, .int v5), (6, .int v6), (7, .int (f 4)), (8, .int v8), (9, .int (nI R)), (10, .ref tx), (11, .int (nI mny)), (12, .int (nI C))]) hx hb dL_law_774 hl (by decide) rfl (fun ls hl => ?_)
  refine lv_iload hx hb dL_law_776 (lv_at hl 12 rfl) ?_
  refine lv_iload hx hb dL_law_778 (lv_at hl 0 rfl) ?_
  refine lv_if_lt (tgt := 787) hx hb dL_law_780 (by decide) (fun c_1 => absurd c_1 (Int32.not_lt.mpr h0)) (fun c_1 => ?_)
  refine lv_iconst (v := 1) hx hb dL_law_783 (by decide) ?_
  refine lv_goto (tgt := 788) hx hb dL_law_784 (by decide) ?_
  refine lv_iadd hx hb dL_law_788 ?_
  refine W.eq (g2 := F0 m 789 ls [.int (nI (mny + 1))]) (by rw [nI_1 mny]) ?_
  refine lv_istore (lv' := [(11, .int (nI (mny + 1))), (13, .int (gP f k 0)), (0, .ref b), (1, .ref (ad (429))), (2, .int v2), (3, .int (nI t)), (4, .int (nI n)), (5, .int v5), (6, .int v6), (7, .int (f 4)), (8, .int v8), (9, .int (nI R)), (10, .ref tx), (12, .int (nI C))]) hx hb dL_law_789 hl (by decide) rfl (fun ls hl => ?_)
  obtain ⟨z0, hz0⟩ : ∃ z0, z0 = H.size := ⟨_, rfl⟩
  have had : ∀ k, k < 459 → ad k < z0 := fun k hk9 => by rw [hz0]; exact (sp_P_at hP hk9).lt
  have hzs : s.heap.size ≤ z0 := by rw [hz0]; exact hS.1
  have hTo : TXs tx T.length (fun j => T.getD j 0) (fun x => z0 ≤ x) s H := hTX.narrow (fun x hx9 => Or.inr (by rw [← hz0]; exact hx9))
  refine lt_new (rest := []) E0 dL_law_791 dL_law_794 dL_law_795 hl.1 hS (by decide) (by omega) (by omega) (fun qb vb H1 locs1 hBT hk1 hle1 hS1 => ?_)
  rw [← hz0] at hBT
  have hP := sp_P_ext hP hk1
  have hTo := hTo.kept (fun x hx9 _ => hk1 x hx9)
  clear hS hle1 hk1
  have hS := hS1
  refine W.eq (g2 := F0 m 798 ls [.ref qb]) rfl ?_
  refine lv_aload hx hb dL_law_798 (lv_at hl 12 rfl) ?_
  refine lt_app (t := tx) (M := T) (rest := []) E0 dL_law_800 hl.1 hS hBT hzs (hTo.narrow (fun x z9 => z9.elim (fun z9 => by have := hBT.lt; omega) (fun z9 => z9.elim (fun z9 => by have := hBT.lt; omega) (fun z9 => by have := hBT.lt; omega)))) (by show 0 + T.length ≤ 100; omega) (by decide) (by omega) (by omega) (fun v_2 H_2 locs_2 hBT9 hk9 hle9 hS9 => ?_)
  obtain ⟨hq1, hv1, hq2, hv2⟩ := hBT.lt
  have hP := sp_K2 hP had hq2 hv2 hk9
  clear hBT hS
  have hBT := hBT9
  have hS := hS9
  clear hBT9 hS9
  refine W.eq (g2 := F0 m 803 ls [.ref qb]) rfl ?_
  refine lv_iload hx hb dL_law_803 (lv_at hl 11 rfl) ?_
  refine lv_iload hx hb dL_law_805 (lv_at hl 9 rfl) ?_
  refine lv_icmp_ge (tgt := 816) hx hb dL_law_807 (by decide) (fun c_3 => ?_) (fun c_3 => absurd (Int32.not_lt.mp hw) c_3)
  refine lv_iload hx hb dL_law_816 (lv_at hl 1 rfl) ?_
  refine lv_if_ge (tgt := 827) hx hb dL_law_818 (by decide) (fun c_4 => ?_) (fun c_4 => absurd h0 c_4)
  obtain ⟨z1, hz1⟩ : ∃ z1, z1 = H_2.size := ⟨_, rfl⟩
  have hzs1 : s.heap.size ≤ z1 := by rw [hz1]; exact hS.1
  have had1 : ∀ k9, k9 < 459 → ad k9 < z1 := fun k9 h9 => by rw [hz1]; exact (sp_P_at hP h9).lt
  have hBO := hBT
  have hbz : qb < z1 ∧ v_2 < z1 := by rw [hz1]; exact ⟨hBO.lt.1, hBO.lt.2.1⟩
  refine lt_new (rest := [.ref qb]) E0 dL_law_827 dL_law_830 dL_law_831 hl.1 hS (by show 1 ≤ 6; decide) (by omega) (by omega) (fun qc vc H7 locs7 hBT hk1 hle1 hS1 => ?_)
  rw [← hz1] at hBT
  have hP := sp_P_ext hP hk1
  have hBO := hBO.kept hle1 (hk1 _ hBO.lt.1) (hk1 _ hBO.lt.2.1)
  have hb1 : qb < H7.size ∧ v_2 < H7.size := ⟨hBO.lt.1, hBO.lt.2.1⟩
  skip
  clear hS
  have hS := hS1
  refine W.eq (g2 := F0 m 834 ls [.ref qc, .ref qb]) rfl ?_
  refine va_ldcS hx hb hown (hE0.lx 0 rfl) dL_law_834 ?_
  refine lt_app (t := xq 30) (M := exN9.getD 0 []) (rest := [.ref qb]) E0 dL_law_836 hl.1 hS hBT hzs1 ((lt_ex hE0 hS (Nat.le_trans hzs1 hBT.lt.2.2.1) (Nat.le_trans hzs1 hBT.lt.2.2.2)).tx (i := 0) (by decide)) (by decide) (by show 1 ≤ 6; decide) (by omega) (by omega) (fun v_5 H_5 locs_5 hBT9 hk9 hle9 hS9 => ?_)
  have hP := sp_K2 hP had1 hBT.lt.2.2.1 hBT.lt.2.2.2 hk9
  have hBO := hBO.kept hle9 (hk9 _ hBO.lt.1 (by have := hBT.lt; omega) (by have := hBT.lt; omega)) (hk9 _ hBO.lt.2.1 (by have := hBT.lt; omega) (by have := hBT.lt; omega))
  clear hS
  have hBT := hBT9
  have hS := hS9
  refine W.eq (g2 := F0 m 839 ls [.ref qc, .ref qb]) rfl ?_
  refine lv_iload hx hb dL_law_839 (lv_at hl 1 rfl) ?_
  refine lv_bipush (v := 10) hx hb dL_law_841 (by decide) ?_
  refine lv_irem hx hb dL_law_843 (by decide) ?_
  refine W.eq (g2 := F0 m 844 ls [.int (nI (tn (gP f k 0) % 10)), .ref qc, .ref qb]) (by rw [digit h0]) ?_
  refine lt_appI (d := tn (gP f k 0) % 10) (rest := [.ref qb]) E0 dL_law_844 hl.1 hS hBT hzs1 (Nat.mod_lt _ (by decide)) (by decide) (by show 1 ≤ 6; decide) (by omega) (by omega) (fun v_6 H_6 locs_6 hBT9 hk9 hle9 hS9 => ?_)
  have hP := sp_K2 hP had1 hBT.lt.2.2.1 hBT.lt.2.2.2 hk9
  have hBO := hBO.kept hle9 (hk9 _ hBO.lt.1 (by have := hBT.lt; omega) (by have := hBT.lt; omega)) (hk9 _ hBO.lt.2.1 (by have := hBT.lt; omega) (by have := hBT.lt; omega))
  clear hS
  have hBT := hBT9
  have hS := hS9
  refine W.eq (g2 := F0 m 847 ls [.ref qc, .ref qb]) rfl ?_
  have hb6 := hBO.lt
  refine lt_str (rest := [.ref qb]) E0 dL_law_847 hl.1 hS hBT hzs1 (by show 1 ≤ 100; decide) (by show 1 ≤ 6; decide) (by omega) (by omega) (fun yd H_7 locs_7 hTY hk9 hle9 hS9 => ?_)
  have hP := sp_K2 hP had1 hBT.lt.2.2.1 hBT.lt.2.2.2 hk9
  have hBO := hBO.kept hle9 (hk9 _ hBO.lt.1 (by have := hBT.lt; omega) (by have := hBT.lt; omega)) (hk9 _ hBO.lt.2.1 (by have := hBT.lt; omega) (by have := hBT.lt; omega))
  have hbH := hBT.lt
  clear hS
  have hS := hS9
  have hBT := hBO
  refine W.eq (g2 := F0 m 850 ls [.ref yd, .ref qb]) rfl ?_
  refine lt_app (t := yd) (M := [48 + tn (gP f k 0) % 10]) (rest := []) E0 dL_law_850 hl.1 hS hBT hzs (hTY.narrow (fun x z9 => z9.elim (fun z9 => Or.inl (by omega)) (fun z9 => z9.elim (fun z9 => Or.inl (by omega)) (fun z9 => Or.inr z9)))) (by show ([] ++ T).length + 1 ≤ 100; rw [List.nil_append]; omega) (by decide) (by omega) (by omega) (fun v_8 H_8 locs_8 hBT9 hk9 hle9 hS9 => ?_)
  obtain ⟨hq1, hv1, hq2, hv2⟩ := hBT.lt
  have hP := sp_K2 hP had hq2 hv2 hk9
  clear hBT hS
  have hBT := hBT9
  have hS := hS9
  clear hBT9 hS9
  refine W.eq (g2 := F0 m 853 ls [.ref qb]) rfl ?_
  have hBT : BT D cy z0 qb v_8 (T ++ [sgR f n R C]) H_8 := by rw [hsg]; exact hBT
  refine lt_str (rest := []) E0 dL_law_853 hl.1 hS hBT hzs (by rw [List.length_append]; show T.length + 1 ≤ 100; omega) (by decide) (by omega) (by omega) (fun ty H_9 locs_9 hTY9 hk9 hle9 hS9 => ?_)
  obtain ⟨hq1, hv1, hq2, hv2⟩ := hBT.lt
  have hTX := hTY9.narrow (B := sp_A ad 459 H_9.size) (fun x z9 => z9.elim (fun ⟨k9, h1, h2⟩ => Or.inl (by have := had k9 h1; omega)) Or.inr)
  have hP := sp_K2 hP had hq2 hv2 hk9
  clear hS
  have hS := hS9
  refine W.eq (g2 := F0 m 856 ls [.ref ty]) rfl ?_
  refine lv_astore (lv' := [(10, .ref ty), (11, .int (nI (mny + 1))), (13, .int (gP f k 0)), (0, .ref b), (1, .ref (ad (429))), (2, .int v2), (3, .int (nI t)), (4, .int (nI n)), (5, .int v5), (6, .int v6), (7, .int (f 4)), (8, .int v8), (9, .int (nI R)), (12, .int (nI C))]) hx hb dL_law_856 hl (by decide) rfl (fun ls hl => ?_)
  refine lv_iinc (v := nI (C + 1)) (lv' := [(12, .int (nI (C + 1))), (10, .ref ty), (11, .int (nI (mny + 1))), (13, .int (gP f k 0)), (0, .ref b), (1, .ref (ad (429))), (2, .int v2), (3, .int (nI t)), (4, .int (nI n)), (5, .int v5), (6, .int v6), (7, .int (f 4)), (8, .int v8), (9, .int (nI R))]) hx hb dL_law_858 hl (k := 13) rfl (nI_1 _) (by decide) rfl (fun ls hl => ?_)
  refine lv_goto (tgt := 759) hx hb dL_law_861 (by decide) ?_
  refine W.widen (k := cells + 14) (n := slots + 1400) (by omega) (by omega) ?_
  exact kk _ _ _ ty hP hS hTX (lv_sub hl [4, 5, 6, 7, 8, 9, 10, 11, 12, 13, 1, 2, 0] rfl)
set_option maxHeartbeats 4000000 in
set_option maxRecDepth 100000 in
theorem rD0 {tx : Nat} (E0 : LE p l s m c args b L xs D cy xq) (hA : LA9 s.heap.size ad) (hbr : BR σ f B n t pi ro) (hB : B < 1000000) {R : Nat} {v2 v5 v6 : Int32} (hR9 : R < 9) (hc : cells + 100 ≤ 752875) (hs : slots + 700 ≤ 6835470) (hP : va_P D vwCl (cW ad cy pm rj σ) H) (hS : va_S (fun q => s.heap.size ≤ q) s.heap H locs) (hTX : TXs tx (lnR f n R 20).length (fun j => (lnR f n R 20).getD j 0) (sp_A ad 459 H.size) s H) (hl : lv_has ls 21 [(0, .ref b), (1, .ref (ad (429))), (2, .int v2), (3, .int (nI t)), (4, .int (nI n)), (5, .int v5), (6, .int v6), (7, .int (f 4)), (8, .int (nI (blN f n R))), (9, .int (nI R)), (10, .ref tx), (11, .int (nI (cntN (inW f R 20) n)))]) (kk : ∀ (H1 : Heap) (locs1 : List Loc) (ls1 : Array Slot), va_P D vwCl (cW ad cy pm rj (f_wrR σ (nI R) 20)) H1 → va_S (fun q => s.heap.size ≤ q) s.heap H1 locs1 → lv_has ls1 21 [(0, .ref b), (1, .ref (ad (429))), (2, .int v2), (3, .int (nI t)), (4, .int (nI n)), (5, .int v5), (6, .int v6), (7, .int (f 4)), (8, .int (nI (blN f n (R + 1)))), (9, .int (nI (R + 1)))] → W p l e room_1 s m args below meth c H1 locs1 (cells + 100) (slots + 700) Q (F0 m 742 ls1 [])) : W p l e room_1 s m args below meth c H locs (cells) (slots) Q (F0 m 864 ls []) := by
  have hE := E0
  obtain ⟨hx, hb, hml, hown, hts, htb, hX, hbl, hst, hK, hE0, hL⟩ := hE
  have hi := hA.1
  refine lv_aload_n hx hb dL_law_864 rfl (lv_at hl 1 rfl) ?_
  refine lv_iload hx hb dL_law_865 (lv_at hl 9 rfl) ?_
  refine sp_callm (va_runV (As := [.int (nI R)]) (rest := []) ⟨hx, hb, hml, hown, hts⟩ (k_printsInRow l D ad cy pm rj σ xq hst _ hA.1 hbr (show R < 10 by omega)) (cwV 1 hts gL_law_X9_printsInRow rfl rfl rfl (by decide +kernel) ⟨Nat.le_of_ble_eq_true rfl, Nat.le_of_ble_eq_true rfl⟩) (sp_preVmx hK hP (lwEX hE0 hA hS) (κ := 429) (by decide) cE_sp rfl) rfl rfl hl.1 rfl (lv_room (Nat.le_of_ble_eq_true rfl)) dL_law_867 ⟨by show _ ≤ 752875; omega, by show _ ≤ 6835470; omega⟩) hS (fun q _ h => lwAd hA hS q h) (fun q h => lwAd hA hS q h) (fun H locs hP hle hfr hS => ?_)
  have hTX := hTX.call hle hfr
  refine W.eq (g2 := F0 m 870 ls [.int (nI (cntN (inW f R 20) n))]) rfl ?_
  refine lv_iload hx hb dL_law_870 (lv_at hl 11 rfl) ?_
  refine lv_icmp_ne (tgt := 908) hx hb dL_law_872 (by decide) (fun c_1 => absurd rfl c_1) (fun c_1 => ?_)
  refine lv_iload hx hb dL_law_875 (lv_at hl 9 rfl) ?_
  refine lv_bipush (v := 9) hx hb dL_law_877 (by decide) ?_
  refine lv_icmp_ge (tgt := 893) hx hb dL_law_879 (by decide) (fun c_2 => absurd ((nI_leI (a := 9) (b := R) (by decide) (by omega)).mp c_2) (by omega)) (fun c_2 => ?_)
  refine lv_aload_n hx hb dL_law_882 rfl (lv_at hl 1 rfl) ?_
  refine lv_iload hx hb dL_law_883 (lv_at hl 9 rfl) ?_
  refine sp_callm (va_runV (As := [.int (nI R)]) (rest := []) ⟨hx, hb, hml, hown, hts⟩ (k_erasedBy l D ad cy pm rj σ xq hst _ hA.1 hbr hR9) (cwV 1 hts gL_law_X9_erasedBy rfl rfl rfl (by decide +kernel) ⟨Nat.le_of_ble_eq_true rfl, Nat.le_of_ble_eq_true rfl⟩) (sp_preVmx hK hP (lwEX hE0 hA hS) (κ := 429) (by decide) cE_sp rfl) rfl rfl hl.1 rfl (lv_room (Nat.le_of_ble_eq_true rfl)) dL_law_885 ⟨by show _ ≤ 752875; omega, by show _ ≤ 6835470; omega⟩) hS (fun q _ h => lwAd hA hS q h) (fun q h => lwAd hA hS q h) (fun H locs hP hle hfr hS => ?_)
  have hTX := hTX.call hle hfr
  refine W.eq (g2 := F0 m 888 ls [.int (nI (blN f n R))]) rfl ?_
  refine lv_iload hx hb dL_law_888 (lv_at hl 8 rfl) ?_
  refine lv_icmp_ne (tgt := 908) hx hb dL_law_890 (by decide) (fun c_3 => absurd rfl c_3) (fun c_3 => ?_)
  have hw := OL.row hbr hB (r := R) 20 (Nat.le_refl _)
  refine lv_aload_n hx hb dL_law_893 rfl (lv_at hl 1 rfl) ?_
  refine lv_aload_n hx hb dL_law_894 rfl (lv_at hl 1 rfl) ?_
  refine lv_iload hx hb dL_law_895 (lv_at hl 9 rfl) ?_
  refine sp_callm (va_runV (As := [.int (nI R)]) (rest := [.ref (ad (429))]) ⟨hx, hb, hml, hown, hts⟩ (k_writeRow l D ad cy pm rj σ xq hst _ hA.1 hbr hB (show R < 10 by omega)) (cwV 1 hts gL_law_X9_writeRow rfl rfl rfl (by decide +kernel) ⟨Nat.le_of_ble_eq_true rfl, Nat.le_of_ble_eq_true rfl⟩) (sp_preVmx hK hP (lwEX hE0 hA hS) (κ := 429) (by decide) cE_sp rfl) rfl rfl hl.1 rfl (lv_room (Nat.le_of_ble_eq_true rfl)) dL_law_897 ⟨by show _ ≤ 752875; omega, by show _ ≤ 6835470; omega⟩) hS (fun q _ h => lwAd hA hS q h) (fun q h => lwAd hA hS q h) (fun H locs hP hle hfr hS => ?_)
  have hTX := hTX.call hle hfr
  refine W.eq (g2 := F0 m 900 ls [.int (nI 20), .ref (ad (429))]) rfl ?_
  refine W.eq (g2 := F0 m 900 ls [.int (nI (lnR f n R 20).length), .ref (ad (429))]) (by rw [lnR_len]) ?_
  refine lv_aload hx hb dL_law_900 (lv_at hl 10 rfl) ?_
  refine sp_callm (va_runS (As := [.ref (ad (429)), .int (nI (lnR f n R 20).length), .ref tx]) (rest := []) ⟨hx, hb, hml, hown, hts⟩ (k_L_isLine l D ad cy pm rj (f_wrR σ (nI R) 20) xq hst _ hA.1 tx (lnR f n R 20) hw.2.1 hw.1 hw.2.2.1) (va_cwS 3 hts gL_law_L_isLine rfl rfl rfl (by decide +kernel) ⟨Nat.le_of_ble_eq_true rfl, Nat.le_of_ble_eq_true rfl⟩) (lPre hK hP (lwEX hE0 hA hS) hTX) rfl rfl hl.1 rfl (lv_room (Nat.le_of_ble_eq_true rfl)) dL_law_902 ⟨by show _ ≤ 752875; omega, by show _ ≤ 6835470; omega⟩) hS (fun q _ h => lwAd hA hS q h) (fun q h => lwAd hA hS q h) (fun H locs hP hle hfr hS => ?_)
  have hTX := hTX.call hle hfr
  refine W.eq (g2 := F0 m 905 ls [.int 1]) rfl ?_
  refine lv_if_ne (tgt := 910) hx hb dL_law_905 (by decide) (fun c_4 => ?_) (fun c_4 => absurd c_4 (by decide))
  refine lv_iload hx hb dL_law_910 (lv_at hl 8 rfl) ?_
  refine lv_iload hx hb dL_law_912 (lv_at hl 11 rfl) ?_
  refine lv_iadd hx hb dL_law_914 ?_
  refine W.eq (g2 := F0 m 915 ls [.int (nI (blN f n (R + 1)))]) (by rw [bl_succ hbr.vx (by omega), show nI (blN f n R) + nI (cntN (inW f R 20) n) = nI (blN f n R + cntN (inW f R 20) n) from nI_addE rfl rfl]) ?_
  refine lv_istore (lv' := [(8, .int (nI (blN f n (R + 1)))), (0, .ref b), (1, .ref (ad (429))), (2, .int v2), (3, .int (nI t)), (4, .int (nI n)), (5, .int v5), (6, .int v6), (7, .int (f 4)), (9, .int (nI R)), (10, .ref tx), (11, .int (nI (cntN (inW f R 20) n)))]) hx hb dL_law_915 hl (by decide) rfl (fun ls hl => ?_)
  refine lv_iinc (v := nI (R + 1)) (lv' := [(9, .int (nI (R + 1))), (8, .int (nI (blN f n (R + 1)))), (0, .ref b), (1, .ref (ad (429))), (2, .int v2), (3, .int (nI t)), (4, .int (nI n)), (5, .int v5), (6, .int v6), (7, .int (f 4)), (10, .ref tx), (11, .int (nI (cntN (inW f R 20) n)))]) hx hb dL_law_917 hl (k := 9) rfl (nI_1 _) (by decide) rfl (fun ls hl => ?_)
  refine lv_goto (tgt := 742) hx hb dL_law_920 (by decide) ?_
  refine W.widen (k := cells + 100) (n := slots + 700) (by omega) (by omega) ?_
  exact kk _ _ _ hP hS (lv_sub hl [2, 3, 4, 5, 6, 7, 8, 9, 1, 0] rfl)
set_option maxHeartbeats 4000000 in
set_option maxRecDepth 100000 in
theorem rD1 {tx : Nat} (E0 : LE p l s m c args b L xs D cy xq) (hA : LA9 s.heap.size ad) (hbr : BR σ f B n t pi ro) (hB : B < 1000000) {R : Nat} {v2 v5 v6 : Int32} (hR9 : R = 9) (hc : cells + 100 ≤ 752875) (hs : slots + 700 ≤ 6835470) (hP : va_P D vwCl (cW ad cy pm rj σ) H) (hS : va_S (fun q => s.heap.size ≤ q) s.heap H locs) (hTX : TXs tx (lnR f n R 20).length (fun j => (lnR f n R 20).getD j 0) (sp_A ad 459 H.size) s H) (hl : lv_has ls 21 [(0, .ref b), (1, .ref (ad (429))), (2, .int v2), (3, .int (nI t)), (4, .int (nI n)), (5, .int v5), (6, .int v6), (7, .int (f 4)), (8, .int (nI (blN f n R))), (9, .int (nI R)), (10, .ref tx), (11, .int (nI (cntN (inW f R 20) n)))]) (kk : ∀ (H1 : Heap) (locs1 : List Loc) (ls1 : Array Slot), va_P D vwCl (cW ad cy pm rj (f_wrR σ (nI R) 20)) H1 → va_S (fun q => s.heap.size ≤ q) s.heap H1 locs1 → lv_has ls1 21 [(0, .ref b), (1, .ref (ad (429))), (2, .int v2), (3, .int (nI t)), (4, .int (nI n)), (5, .int v5), (6, .int v6), (7, .int (f 4)), (8, .int (nI (blN f n (R + 1)))), (9, .int (nI (R + 1)))] → W p l e room_1 s m args below meth c H1 locs1 (cells + 100) (slots + 700) Q (F0 m 742 ls1 [])) : W p l e room_1 s m args below meth c H locs (cells) (slots) Q (F0 m 864 ls []) := by
  have hE := E0
  obtain ⟨hx, hb, hml, hown, hts, htb, hX, hbl, hst, hK, hE0, hL⟩ := hE
  have hi := hA.1
  refine lv_aload_n hx hb dL_law_864 rfl (lv_at hl 1 rfl) ?_
  refine lv_iload hx hb dL_law_865 (lv_at hl 9 rfl) ?_
  refine sp_callm (va_runV (As := [.int (nI R)]) (rest := []) ⟨hx, hb, hml, hown, hts⟩ (k_printsInRow l D ad cy pm rj σ xq hst _ hA.1 hbr (show R < 10 by omega)) (cwV 1 hts gL_law_X9_printsInRow rfl rfl rfl (by decide +kernel) ⟨Nat.le_of_ble_eq_true rfl, Nat.le_of_ble_eq_true rfl⟩) (sp_preVmx hK hP (lwEX hE0 hA hS) (κ := 429) (by decide) cE_sp rfl) rfl rfl hl.1 rfl (lv_room (Nat.le_of_ble_eq_true rfl)) dL_law_867 ⟨by show _ ≤ 752875; omega, by show _ ≤ 6835470; omega⟩) hS (fun q _ h => lwAd hA hS q h) (fun q h => lwAd hA hS q h) (fun H locs hP hle hfr hS => ?_)
  have hTX := hTX.call hle hfr
  refine W.eq (g2 := F0 m 870 ls [.int (nI (cntN (inW f R 20) n))]) rfl ?_
  refine lv_iload hx hb dL_law_870 (lv_at hl 11 rfl) ?_
  refine lv_icmp_ne (tgt := 908) hx hb dL_law_872 (by decide) (fun c_1 => absurd rfl c_1) (fun c_1 => ?_)
  refine lv_iload hx hb dL_law_875 (lv_at hl 9 rfl) ?_
  refine lv_bipush (v := 9) hx hb dL_law_877 (by decide) ?_
  refine lv_icmp_ge (tgt := 893) hx hb dL_law_879 (by decide) (fun c_2 => ?_) (fun c_2 => absurd (show (9 : Int32) ≤ nI R by rw [hR9]; decide) c_2)
  have hw := OL.row hbr hB (r := R) 20 (Nat.le_refl _)
  refine lv_aload_n hx hb dL_law_893 rfl (lv_at hl 1 rfl) ?_
  refine lv_aload_n hx hb dL_law_894 rfl (lv_at hl 1 rfl) ?_
  refine lv_iload hx hb dL_law_895 (lv_at hl 9 rfl) ?_
  refine sp_callm (va_runV (As := [.int (nI R)]) (rest := [.ref (ad (429))]) ⟨hx, hb, hml, hown, hts⟩ (k_writeRow l D ad cy pm rj σ xq hst _ hA.1 hbr hB (show R < 10 by omega)) (cwV 1 hts gL_law_X9_writeRow rfl rfl rfl (by decide +kernel) ⟨Nat.le_of_ble_eq_true rfl, Nat.le_of_ble_eq_true rfl⟩) (sp_preVmx hK hP (lwEX hE0 hA hS) (κ := 429) (by decide) cE_sp rfl) rfl rfl hl.1 rfl (lv_room (Nat.le_of_ble_eq_true rfl)) dL_law_897 ⟨by show _ ≤ 752875; omega, by show _ ≤ 6835470; omega⟩) hS (fun q _ h => lwAd hA hS q h) (fun q h => lwAd hA hS q h) (fun H locs hP hle hfr hS => ?_)
  have hTX := hTX.call hle hfr
  refine W.eq (g2 := F0 m 900 ls [.int (nI 20), .ref (ad (429))]) rfl ?_
  refine W.eq (g2 := F0 m 900 ls [.int (nI (lnR f n R 20).length), .ref (ad (429))]) (by rw [lnR_len]) ?_
  refine lv_aload hx hb dL_law_900 (lv_at hl 10 rfl) ?_
  refine sp_callm (va_runS (As := [.ref (ad (429)), .int (nI (lnR f n R 20).length), .ref tx]) (rest := []) ⟨hx, hb, hml, hown, hts⟩ (k_L_isLine l D ad cy pm rj (f_wrR σ (nI R) 20) xq hst _ hA.1 tx (lnR f n R 20) hw.2.1 hw.1 hw.2.2.1) (va_cwS 3 hts gL_law_L_isLine rfl rfl rfl (by decide +kernel) ⟨Nat.le_of_ble_eq_true rfl, Nat.le_of_ble_eq_true rfl⟩) (lPre hK hP (lwEX hE0 hA hS) hTX) rfl rfl hl.1 rfl (lv_room (Nat.le_of_ble_eq_true rfl)) dL_law_902 ⟨by show _ ≤ 752875; omega, by show _ ≤ 6835470; omega⟩) hS (fun q _ h => lwAd hA hS q h) (fun q h => lwAd hA hS q h) (fun H locs hP hle hfr hS => ?_)
  have hTX := hTX.call hle hfr
  refine W.eq (g2 := F0 m 905 ls [.int 1]) rfl ?_
  refine lv_if_ne (tgt := 910) hx hb dL_law_905 (by decide) (fun c_3 => ?_) (fun c_3 => absurd c_3 (by decide))
  refine lv_iload hx hb dL_law_910 (lv_at hl 8 rfl) ?_
  refine lv_iload hx hb dL_law_912 (lv_at hl 11 rfl) ?_
  refine lv_iadd hx hb dL_law_914 ?_
  refine W.eq (g2 := F0 m 915 ls [.int (nI (blN f n (R + 1)))]) (by rw [bl_succ hbr.vx (by omega), show nI (blN f n R) + nI (cntN (inW f R 20) n) = nI (blN f n R + cntN (inW f R 20) n) from nI_addE rfl rfl]) ?_
  refine lv_istore (lv' := [(8, .int (nI (blN f n (R + 1)))), (0, .ref b), (1, .ref (ad (429))), (2, .int v2), (3, .int (nI t)), (4, .int (nI n)), (5, .int v5), (6, .int v6), (7, .int (f 4)), (9, .int (nI R)), (10, .ref tx), (11, .int (nI (cntN (inW f R 20) n)))]) hx hb dL_law_915 hl (by decide) rfl (fun ls hl => ?_)
  refine lv_iinc (v := nI (R + 1)) (lv' := [(9, .int (nI (R + 1))), (8, .int (nI (blN f n (R + 1)))), (0, .ref b), (1, .ref (ad (429))), (2, .int v2), (3, .int (nI t)), (4, .int (nI n)), (5, .int v5), (6, .int v6), (7, .int (f 4)), (10, .ref tx), (11, .int (nI (cntN (inW f R 20) n)))]) hx hb dL_law_917 hl (k := 9) rfl (nI_1 _) (by decide) rfl (fun ls hl => ?_)
  refine lv_goto (tgt := 742) hx hb dL_law_920 (by decide) ?_
  refine W.widen (k := cells + 100) (n := slots + 700) (by omega) (by omega) ?_
  exact kk _ _ _ hP hS (lv_sub hl [2, 3, 4, 5, 6, 7, 8, 9, 1, 0] rfl)
end LSR
