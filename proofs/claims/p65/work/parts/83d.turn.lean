/-! A TURN OF THE LAW -/
section LTN
variable {p : Program} {l : Launch} {e : Env} {s : State} {m : MethodId} {args : Array Value} {below : List Frame} {meth : Method} {c : Code} {Q : State → Prop} {b L : Nat} {xs : Nat → Int32} {D : va_G} {cy : Nat → ClassId} {xq ad : Nat → Nat} {pm : Nat → Nat} {rj : Option Nat} {σ : Nat → Nat → Int32} {f : Nat → Int32} {B n t : Nat} {pi ro : Nat → Nat} {H : Heap} {locs : List Loc} {cells slots : Nat} {ls : Array Slot}
set_option maxHeartbeats 4000000 in
set_option maxRecDepth 100000 in
theorem turn_loop {c0 s0 : Nat} (E0 : LE p l s m c args b L xs D cy xq) (hA : LA9 s.heap.size ad) (hL260 : L ≤ 260) (hc0 : c0 + 40000 * 4 ≤ 752875) (hs0 : s0 + 900000 * 4 ≤ 6835470) (hend : ∀ (H : Heap) (locs : List Loc) (cells slots : Nat) (ls : Array Slot), va_S (fun q => s.heap.size ≤ q) s.heap H locs → cells ≤ 752875 → slots ≤ 6835470 → W p l e room_1 s m args below meth c H locs (cells) (slots) Q (F0 m 1357 ls [])) : ∀ (fu T9 : Nat), T9 ≤ 3 → 3 - T9 < fu → ∀ (H : Heap) (locs : List Loc) (ls : Array Slot) (pm : Nat → Nat) (rj : Option Nat) (σ : Nat → Nat → Int32), GS (22 + T9) σ pm → va_P D vwCl (cW ad cy pm rj σ) H → va_S (fun q => s.heap.size ≤ q) s.heap H locs → lv_has ls 21 [(0, .ref b), (1, .ref (ad (429))), (2, .int (nI T9))] → W p l e room_1 s m args below meth c H locs (c0 + 40000 * T9) (s0 + 900000 * T9) Q (F0 m 15 ls []) := by
  have hE := E0
  obtain ⟨hx, hb, hml, hown, hts, htb, hX, hbl, hst, hK, hE0, hL⟩ := hE
  have hnb : ∀ k, k < 459 → ad k ≠ b := fun k hk h => by have := hA.2 k hk; omega
  have hbA : ¬ (fun q : Nat => s.heap.size ≤ q) b := Nat.not_le.mpr hbl
  intro fu
  induction fu with
  | zero => intro T9 _ h; exact absurd h (Nat.not_lt_zero _)
  | succ fu ih =>
    intro T9 hT hfu H locs ls pm rj σ hG hP hS hl
    refine lv_iload_n hx hb dL_law_15 rfl (lv_at hl 2 rfl) ?_
    refine lv_iconst (v := 3) hx hb dL_law_16 (by decide) ?_
    refine lv_icmp_ge (tgt := 1357) hx hb dL_law_17 (by decide) (fun c_1 => ?_) (fun c_1 => ?_)
    · exact hend H locs _ _ ls hS (by omega) (by omega)
    · have hT3 : T9 < 3 := Nat.lt_of_not_le (fun z => c_1 (nI_le (a := 3) z (by omega)))
      obtain ⟨f, n, t, pi, ro, hbr⟩ := hG.be
      have hB : 22 + T9 < 1000000 := by omega
      have h6 := hbr.t6
      refine tS E0 hA hbr hB (by omega) (by omega) hP hS hl (fun H1 locs1 ls1 hP hS hl => ?_)
      refine W.widen (k := (c0 + 40000 * T9 + 12) + 2700 * 0) (n := (s0 + 900000 * T9 + 80) + 60000 * 0) (by omega) (by omega) ?_
      refine t_loop (c0 := c0 + 40000 * T9 + 12) (s0 := s0 + 900000 * T9 + 80) E0 hA hbr hB (by omega) (by omega) (fun H2 locs2 ls2 τ hQ hP hS hl => ?_) (t + 1) 0 (Nat.zero_le _) (by omega) H1 locs1 ls1 σ (Or.inl rfl) hP hS (by rw [found_0, late_0]; exact hl)
      have hbt := hQ.br hbr hB
      refine rS E0 hA hbt hB (by omega) (by omega) hP hS hl (fun H3 locs3 ls3 hP hS hl => ?_)
      refine W.widen (k := (c0 + 40000 * T9 + 20000) + 400 * 0) (n := (s0 + 900000 * T9 + 421000) + 32000 * 0) (by omega) (by omega) ?_
      refine r_loop (c0 := c0 + 40000 * T9 + 20000) (s0 := s0 + 900000 * T9 + 421000) E0 hA hbt hB (by omega) (by omega) (fun H4 locs4 ls4 τ2 hQ2 hP hS hl => ?_) 11 0 (by omega) (by omega) H3 locs3 ls3 τ (Or.inl rfl) hP hS (by rw [bl_0]; exact hl)
      have hb2 := hQ2.br hbt hB
      have hG2 := (hG.out hB hQ).out hB hQ2
      have h9 : ∀ (H5 : Heap) (locs5 : List Loc) (ls5 : Array Slot), va_P D vwCl (cW ad cy pm rj τ2) H5 → va_S (fun q => s.heap.size ≤ q) s.heap H5 locs5 → lv_has ls5 21 [(0, .ref b), (1, .ref (ad (429))), (2, .int (nI T9)), (3, .int (nI t)), (4, .int (nI n)), (7, .int (f 4))] → W p l e room_1 s m args below meth c H5 locs5 (c0 + 40000 * T9 + 20000 + 400 * 10 + 10) (s0 + 900000 * T9 + 421000 + 32000 * 10 + 60) Q (F0 m 989 ls5 []) := by
        intro H5 locs5 ls5 hP hS hl
        refine oS E0 hA hb2 hB (by omega) (by omega) hP hS hl (fun H6 locs6 ls6 hP hS hl => ?_)
        refine W.widen (k := (c0 + 40000 * T9 + 24012) + 10 * (0 + 1)) (n := (s0 + 900000 * T9 + 741080) + 60 * (0 + 1)) (by omega) (by omega) ?_
        refine o_loop (c0 := c0 + 40000 * T9 + 24012) (s0 := s0 + 900000 * T9 + 741080) E0 hA hb2 hB (by omega) (by omega) (fun H7 locs7 ls7 hP hS hl => ?_) 31 0 (by omega) (by have := hb2.n30; omega) H6 locs6 ls6 hP hS hl
        refine W.widen (k := c0 + 40000 * T9 + 25000) (n := s0 + 900000 * T9 + 745000) (by omega) (by omega) ?_
        refine sug_all (c0 := c0 + 40000 * T9 + 25000) (s0 := s0 + 900000 * T9 + 745000) E0 hA hb2 hB hT3 (by omega) (by omega) (fun H8 locs8 ls8 hP hS hl => ?_) H7 locs7 ls7 hP hS hl
        refine lv_aload_n hx hb dL_law_1340 rfl (lv_at hl 1 rfl) ?_
        refine lv_aload_n hx hb dL_law_1341 rfl (lv_at hl 0 rfl) ?_
        refine lv_bipush (v := 115) hx hb dL_law_1342 (by decide) ?_
        refine lv_iconst (v := 4) hx hb dL_law_1344 (by decide) ?_
        refine lv_iload_n hx hb dL_law_1345 rfl (lv_at hl 2 rfl) ?_
        refine lv_imul hx hb dL_law_1346 ?_
        refine lv_iadd hx hb dL_law_1347 ?_
        refine W.eq (g2 := F0 m 1348 ls8 [.int (nI (115 + 4 * T9)), .ref b, .ref (ad (429))]) (by rw [show (115 : Int32) + 4 * nI T9 = nI (115 + 4 * T9) from nI_addE (a := 115) (b := 4 * T9) rfl (nI_mulE (a := 4) rfl rfl)]) ?_
        refine t_call (va_runS (As := [.ref (ad (429)), .ref b, .int (nI (115 + 4 * T9))]) (rest := []) ⟨hx, hb, hml, hown, hts⟩ (k_L_acts l D ad cy pm rj τ2 xq hst _ hA.1 hG2 (by omega) b L xs (by omega) (115 + 4 * T9) (by omega)) (va_cwS 3 hts gL_law_L_acts rfl rfl rfl (by decide +kernel) ⟨Nat.le_of_ble_eq_true rfl, Nat.le_of_ble_eq_true rfl⟩) (bPre hK hP (lwEX hE0 hA hS) hX hbl hbA hS hnb) rfl rfl hl.1 rfl (lv_room (Nat.le_of_ble_eq_true rfl)) dL_law_1348 ⟨by show _ ≤ 752875; omega, by show _ ≤ 6835470; omega⟩) hS (fun q _ h => lwAd hA hS q h) (fun q h => lwAd hA hS q h) (fun vr H9 locs9 hBv hle hfr hS => ?_)
        obtain ⟨pm9, rj9, σ9, rfl, hG9, hP9⟩ := hBv
        refine W.eq (g2 := F0 m 1351 ls8 []) rfl ?_
        refine lv_iinc (v := nI (T9 + 1)) (lv' := [(2, .int (nI (T9 + 1))), (0, .ref b), (1, .ref (ad (429)))]) hx hb dL_law_1351 hl (k := 2) rfl (nI_1 _) (by decide) rfl (fun ls9 hl => ?_)
        refine lv_goto (tgt := 15) hx hb dL_law_1354 (by decide) ?_
        refine W.widen (k := c0 + 40000 * (T9 + 1)) (n := s0 + 900000 * (T9 + 1)) (by omega) (by omega) ?_
        exact ih (T9 + 1) (by omega) (by omega) H9 locs9 ls9 pm9 rj9 σ9 hG9 hP9 hS (lv_sub hl [1, 2, 0] rfl)
      rcases Nat.eq_zero_or_pos n with hn0 | hn0
      · exact eA0 E0 hA hb2 hB hn0 (by omega) (by omega) hP hS hl h9
      · exact eA1 E0 hA hb2 hB hn0 (by omega) (by omega) hP hS hl h9
end LTN
