/-! EVERY TRACK -/
section LTL
variable {p : Program} {l : Launch} {e : Env} {s : State} {m : MethodId} {args : Array Value} {below : List Frame} {meth : Method} {c : Code} {Q : State → Prop} {b L : Nat} {xs : Nat → Int32} {D : va_G} {cy : Nat → ClassId} {xq ad : Nat → Nat} {pm : Nat → Nat} {rj : Option Nat} {σ : Nat → Nat → Int32} {f : Nat → Int32} {B n t : Nat} {pi ro : Nat → Nat} {H : Heap} {locs : List Loc} {cells slots : Nat} {ls : Array Slot}
set_option maxHeartbeats 4000000 in
set_option maxRecDepth 100000 in
theorem t_loop {c0 s0 : Nat} {v2 : Int32} (E0 : LE p l s m c args b L xs D cy xq) (hA : LA9 s.heap.size ad) (hbr : BR σ f B n t pi ro) (hB : B < 1000000) (hc0 : c0 + 2700 * 7 ≤ 752875) (hs0 : s0 + 60000 * 7 ≤ 6835470) (hend : ∀ (H : Heap) (locs : List Loc) (ls : Array Slot) (τ : Nat → Nat → Int32), QO σ τ → va_P D vwCl (cW ad cy pm rj τ) H → va_S (fun q => s.heap.size ≤ q) s.heap H locs → lv_has ls 21 [(0, .ref b), (1, .ref (ad (429))), (2, .int v2), (3, .int (nI t)), (4, .int (nI n)), (5, .int (nI n)), (6, .int (sumI (mF_late f) n)), (7, .int (f 4))] → W p l e room_1 s m args below meth c H locs (c0 + 2700 * t) (s0 + 60000 * t) Q (F0 m 736 ls [])) : ∀ (fu i : Nat), i ≤ t → t - i < fu → ∀ (H : Heap) (locs : List Loc) (ls : Array Slot) (τ : Nat → Nat → Int32), QO σ τ → va_P D vwCl (cW ad cy pm rj τ) H → va_S (fun q => s.heap.size ≤ q) s.heap H locs → lv_has ls 21 [(0, .ref b), (1, .ref (ad (429))), (2, .int v2), (3, .int (nI t)), (4, .int (nI n)), (5, .int (nI (cntN (fun k => decide (rT f n t k < i)) n))), (6, .int (lateS f n t (i))), (7, .int (f 4)), (8, .int (nI (i)))] → W p l e room_1 s m args below meth c H locs (c0 + 2700 * i) (s0 + 60000 * i) Q (F0 m 46 ls []) := by
  have hE := E0
  obtain ⟨hx, hb, hml, hown, hts, htb, hX, hbl, hst, hK, hE0, hL⟩ := hE
  have h30 := hbr.n30
  have h6 := hbr.t6
  intro fu
  induction fu with
  | zero => intro i _ h; exact absurd h (Nat.not_lt_zero _)
  | succ fu ih =>
    intro i hi8 hfu H locs ls τ hQ hP hS hl
    refine lv_iload hx hb dL_law_46 (lv_at hl 8 rfl) ?_
    refine lv_iload_n hx hb dL_law_48 rfl (lv_at hl 3 rfl) ?_
    refine lv_icmp_ge (tgt := 736) hx hb dL_law_49 (by decide) (fun c_1 => ?_) (fun c_1 => ?_)
    · have e9 : i = t := by
        have := (nI_leI (a := t) (b := i) (by omega) (by omega)).mp c_1
        omega
      subst e9
      have e1 := found_all hbr.vx h30 h6
      have e2 := late_all hbr.vx h30 h6
      rw [e1, e2] at hl
      exact hend H locs ls τ hQ hP hS (lv_sub hl [0, 1, 2, 3, 4, 5, 6, 7] rfl)
    · have hi9 : i < t := Nat.lt_of_not_le (fun z => c_1 (nI_le z (by omega)))
      have hbt := hQ.br hbr hB
      have hr := (plT_ok (f := f) h30 h6 hi9).2.1
      have hcl := cntN_le (tA f (gT f (plT f n t i))) n
      have hcE : cN f n (gT f (plT f n t i)) = cntN (tA f (gT f (plT f n t i))) n := rfl
      have ef := found_succ hbr.vx h30 h6 hi9
      have el := late_succ hbr.vx h30 h6 hi9
      have hw := OL.trkN hbt hB hr
      have hbw := hw.br hbt hB
      refine tHead E0 hA hbt hB hi9 (by omega) (by omega) hP hS hl (fun H1 locs1 ls1 hP hS hl => ?_)
      have hTX := (lwEX hE0 hA hS).tx (i := 0) (by decide)
      refine W.widen (k := (c0 + 2700 * i + 4) + 80 * 0) (n := (s0 + 60000 * i + 30) + 1800 * 0) (by omega) (by omega) ?_
      refine k_loop (c0 := c0 + 2700 * i + 4) (s0 := s0 + 60000 * i + 30) E0 hA hbt hB hr (by omega) (by omega) (fun H2 locs2 ls2 tx hP hS hTX hl => ?_) (cN f n (gT f (plT f n t i)) + 1) 0 (by omega) (by omega) H1 locs1 ls1 (xq 30) hP hS hTX hl
      have hl := lv_sub hl [0, 1, 2, 3, 4, 5, 6, 7, 8, 9, 10, 11, 12, 13, 14, 15] rfl
      have hD : ∀ (H3 : Heap) (locs3 : List Loc) (ls3 : Array Slot), va_P D vwCl (cW ad cy pm rj (f_wrTn τ (ro (plT f n t i)))) H3 → va_S (fun q => s.heap.size ≤ q) s.heap H3 locs3 → lv_has ls3 21 [(0, .ref b), (1, .ref (ad (429))), (2, .int v2), (3, .int (nI t)), (4, .int (nI n)), (5, .int (nI (cntN (fun k => decide (rT f n t k < i)) n + cN f n (gT f (plT f n t i))))), (6, .int (lateS f n t i + laS f n (gT f (plT f n t i)) (cN f n (gT f (plT f n t i))))), (7, .int (f 4)), (8, .int (nI i)), (9, .int (gT f (plT f n t i))), (10, .int (nI (cN f n (gT f (plT f n t i))))), (12, .int (m_errs f n t (gT f (plT f n t i))))] → W p l e room_1 s m args below meth c H3 locs3 (c0 + 2700 * i + 4 + 80 * cN f n (gT f (plT f n t i)) + 110) (s0 + 60000 * i + 30 + 1800 * cN f n (gT f (plT f n t i)) + 700) Q (F0 m 661 ls3 []) := by
        intro H3 locs3 ls3 hP hS hl
        have hfin : ∀ (H4 : Heap) (locs4 : List Loc) (ls4 : Array Slot), va_P D vwCl (cW ad cy pm rj (f_wrTn τ (ro (plT f n t i)))) H4 → va_S (fun q => s.heap.size ≤ q) s.heap H4 locs4 → lv_has ls4 21 [(0, .ref b), (1, .ref (ad (429))), (2, .int v2), (3, .int (nI t)), (4, .int (nI n)), (5, .int (nI (cntN (fun k => decide (rT f n t k < i)) n + cN f n (gT f (plT f n t i))))), (6, .int (lateS f n t i + laS f n (gT f (plT f n t i)) (cN f n (gT f (plT f n t i))))), (7, .int (f 4)), (8, .int (nI (i + 1)))] → W p l e room_1 s m args below meth c H4 locs4 (c0 + 2700 * i + 4 + 80 * cN f n (gT f (plT f n t i)) + 110 + 6) (s0 + 60000 * i + 30 + 1800 * cN f n (gT f (plT f n t i)) + 700 + 40) Q (F0 m 46 ls4 []) := by
          intro H4 locs4 ls4 hP hS hl
          refine W.widen (k := c0 + 2700 * (i + 1)) (n := s0 + 60000 * (i + 1)) (by omega) (by omega) ?_
          exact ih (i + 1) (by omega) (by omega) H4 locs4 ls4 (f_wrTn τ (ro (plT f n t i))) (hQ.then hw) hP hS (by rw [ef, el]; exact hl)
        rcases i with _ | i
        · exact tD0 E0 hA hbw hB (by omega) (by omega) hP hS hl hfin
        · exact tD1 E0 hA hbw hB hi9 (by omega) (by omega) hP hS hl hfin
      rcases (show cN f n (gT f (plT f n t i)) = 0 ∨ cN f n (gT f (plT f n t i)) = 1 ∨ 2 ≤ cN f n (gT f (plT f n t i)) by omega) with h0 | h0 | h0
      · exact tC0 E0 hA hbt hB hr h0 (by omega) (by omega) hP hS hTX (lv_sub hl [0, 1, 2, 3, 4, 5, 6, 7, 8, 9, 10, 11, 12, 13, 14, 15] rfl) hD
      · exact tC1 E0 hA hbt hB hr h0 (by omega) (by omega) hP hS hTX (lv_sub hl [0, 1, 2, 3, 4, 5, 6, 7, 8, 9, 10, 11, 12, 13, 14, 15] rfl) hD
      · exact tC2 E0 hA hbt hB hr h0 (by omega) (by omega) hP hS hTX (lv_sub hl [0, 1, 2, 3, 4, 5, 6, 7, 8, 9, 10, 11, 12, 13, 14, 15] rfl) hD
end LTL
