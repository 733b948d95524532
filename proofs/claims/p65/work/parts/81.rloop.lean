/-! EVERY ROW -/
section LRL
variable {p : Program} {l : Launch} {e : Env} {s : State} {m : MethodId} {args : Array Value} {below : List Frame} {meth : Method} {c : Code} {Q : State → Prop} {b L : Nat} {xs : Nat → Int32} {D : va_G} {cy : Nat → ClassId} {xq ad : Nat → Nat} {pm : Nat → Nat} {rj : Option Nat} {σ : Nat → Nat → Int32} {f : Nat → Int32} {B n t : Nat} {pi ro : Nat → Nat} {H : Heap} {locs : List Loc} {cells slots : Nat} {ls : Array Slot}
set_option maxHeartbeats 4000000 in
set_option maxRecDepth 100000 in
theorem c_loop {R c0 s0 : Nat} {v2 v5 v6 v8 : Int32} (E0 : LE p l s m c args b L xs D cy xq) (hA : LA9 s.heap.size ad) (hbr : BR σ f B n t pi ro) (hB : B < 1000000) (hR : R < 10) (hc0 : c0 + 14 * 21 ≤ 752875) (hs0 : s0 + 1400 * 21 ≤ 6835470) (hend : ∀ (H : Heap) (locs : List Loc) (ls : Array Slot) (tx : Nat), va_P D vwCl (cW ad cy pm rj σ) H → va_S (fun q => s.heap.size ≤ q) s.heap H locs → TXs tx (lnR f n R (20)).length (fun j => (lnR f n R (20)).getD j 0) (sp_A ad 459 H.size) s H → lv_has ls 21 [(0, .ref b), (1, .ref (ad (429))), (2, .int v2), (3, .int (nI t)), (4, .int (nI n)), (5, .int v5), (6, .int v6), (7, .int (f 4)), (8, .int v8), (9, .int (nI R)), (10, .ref tx), (11, .int (nI (cntN (inW f R 20) n)))] → W p l e room_1 s m args below meth c H locs (c0 + 14 * 20) (s0 + 1400 * 20) Q (F0 m 864 ls [])) : ∀ (fu C : Nat), C ≤ 20 → 20 - C < fu → ∀ (H : Heap) (locs : List Loc) (ls : Array Slot) (tx : Nat), va_P D vwCl (cW ad cy pm rj σ) H → va_S (fun q => s.heap.size ≤ q) s.heap H locs → TXs tx (lnR f n R (C)).length (fun j => (lnR f n R (C)).getD j 0) (sp_A ad 459 H.size) s H → lv_has ls 21 [(0, .ref b), (1, .ref (ad (429))), (2, .int v2), (3, .int (nI t)), (4, .int (nI n)), (5, .int v5), (6, .int v6), (7, .int (f 4)), (8, .int v8), (9, .int (nI R)), (10, .ref tx), (11, .int (nI (cntN (inW f R (C)) n))), (12, .int (nI (C)))] → W p l e room_1 s m args below meth c H locs (c0 + 14 * C) (s0 + 1400 * C) Q (F0 m 759 ls []) := by
  have hE := E0
  obtain ⟨hx, hb, hml, hown, hts, htb, hX, hbl, hst, hK, hE0, hL⟩ := hE
  intro fu
  induction fu with
  | zero => intro C _ h; exact absurd h (Nat.not_lt_zero _)
  | succ fu ih =>
    intro C hC8 hfu H locs ls tx hP hS hTX hl
    refine lv_iload hx hb dL_law_759 (lv_at hl 12 rfl) ?_
    refine lv_bipush (v := 20) hx hb dL_law_761 (by decide) ?_
    refine lv_icmp_ge (tgt := 864) hx hb dL_law_763 (by decide) (fun c_1 => ?_) (fun c_1 => ?_)
    · have e9 : C = 20 := by
        have := (nI_leI (a := 20) (b := C) (by decide) (by omega)).mp c_1
        omega
      subst e9
      exact hend H locs ls tx hP hS hTX (lv_sub hl [0, 1, 2, 3, 4, 5, 6, 7, 8, 9, 10, 11] rfl)
    · have hC : C < 20 := Nat.lt_of_not_le (fun z => c_1 (nI_le (a := 20) z (by omega)))
      have hlen := lnR_len (f := f) (n := n) R C
      have hrs := row_succ hbr.vx hB (r := R) (c := C) (by omega)
      by_cases hw : nI R < f 4
      · have hm : m_cell f n (nI R) (nI C) = none := by
          rcases opt_em (m_cell f n (nI R) (nI C)) with e | ⟨k, e⟩
          · exact e
          · exfalso
            obtain ⟨hk, hp, -⟩ := fstI_some e
            unfold mP_cell at hp
            rw [Bool.and_eq_true, beq_iff_eq] at hp
            have h9 := (hbr.vx.2.2.2.1 hB).2 k hk
            rw [hp.1] at h9
            exact absurd hw (Int32.not_lt.mpr h9)
        rw [hm] at hrs
        refine rC0 (T := lnR f n R C) E0 hA hbr hB hR hC hw hm (by omega) (by omega) (by omega) hP hS hTX hl (fun H1 locs1 ls1 ty hP hS hTX hl => ?_)
        refine W.widen (k := c0 + 14 * (C + 1)) (n := s0 + 1400 * (C + 1)) (by omega) (by omega) ?_
        exact ih (C + 1) (by omega) (by omega) H1 locs1 ls1 ty hP hS hTX (by rw [hrs]; exact hl)
      · rcases opt_em (m_cell f n (nI R) (nI C)) with hm | ⟨k, hm⟩
        · rw [hm] at hrs
          refine rC1 (T := lnR f n R C) E0 hA hbr hB hR hC hw hm (by omega) (by omega) (by omega) hP hS hTX hl (fun H1 locs1 ls1 ty hP hS hTX hl => ?_)
          refine W.widen (k := c0 + 14 * (C + 1)) (n := s0 + 1400 * (C + 1)) (by omega) (by omega) ?_
          exact ih (C + 1) (by omega) (by omega) H1 locs1 ls1 ty hP hS hTX (by rw [hrs]; exact hl)
        · rw [hm] at hrs
          refine rC2 (T := lnR f n R C) E0 hA hbr hB hR hC hw hm (by omega) (by omega) (by omega) hP hS hTX hl (fun H1 locs1 ls1 ty hP hS hTX hl => ?_)
          refine W.widen (k := c0 + 14 * (C + 1)) (n := s0 + 1400 * (C + 1)) (by omega) (by omega) ?_
          exact ih (C + 1) (by omega) (by omega) H1 locs1 ls1 ty hP hS hTX (by rw [hrs]; exact hl)
set_option maxHeartbeats 4000000 in
set_option maxRecDepth 100000 in
theorem r_loop {c0 s0 : Nat} {v2 v5 v6 : Int32} (E0 : LE p l s m c args b L xs D cy xq) (hA : LA9 s.heap.size ad) (hbr : BR σ f B n t pi ro) (hB : B < 1000000) (hc0 : c0 + 400 * 11 ≤ 752875) (hs0 : s0 + 32000 * 11 ≤ 6835470) (hend : ∀ (H : Heap) (locs : List Loc) (ls : Array Slot) (τ : Nat → Nat → Int32), QO σ τ → va_P D vwCl (cW ad cy pm rj τ) H → va_S (fun q => s.heap.size ≤ q) s.heap H locs → lv_has ls 21 [(0, .ref b), (1, .ref (ad (429))), (2, .int v2), (3, .int (nI t)), (4, .int (nI n)), (5, .int v5), (6, .int v6), (7, .int (f 4)), (8, .int (nI n))] → W p l e room_1 s m args below meth c H locs (c0 + 400 * 10) (s0 + 32000 * 10) Q (F0 m 923 ls [])) : ∀ (fu R : Nat), R ≤ 10 → 10 - R < fu → ∀ (H : Heap) (locs : List Loc) (ls : Array Slot) (τ : Nat → Nat → Int32), QO σ τ → va_P D vwCl (cW ad cy pm rj τ) H → va_S (fun q => s.heap.size ≤ q) s.heap H locs → lv_has ls 21 [(0, .ref b), (1, .ref (ad (429))), (2, .int v2), (3, .int (nI t)), (4, .int (nI n)), (5, .int v5), (6, .int v6), (7, .int (f 4)), (8, .int (nI (blN f n (R)))), (9, .int (nI (R)))] → W p l e room_1 s m args below meth c H locs (c0 + 400 * R) (s0 + 32000 * R) Q (F0 m 742 ls []) := by
  have hE := E0
  obtain ⟨hx, hb, hml, hown, hts, htb, hX, hbl, hst, hK, hE0, hL⟩ := hE
  intro fu
  induction fu with
  | zero => intro R _ h; exact absurd h (Nat.not_lt_zero _)
  | succ fu ih =>
    intro R hR8 hfu H locs ls τ hQ hP hS hl
    refine lv_iload hx hb dL_law_742 (lv_at hl 9 rfl) ?_
    refine lv_bipush (v := 10) hx hb dL_law_744 (by decide) ?_
    refine lv_icmp_ge (tgt := 923) hx hb dL_law_746 (by decide) (fun c_1 => ?_) (fun c_1 => ?_)
    · have e9 : R = 10 := by
        have := (nI_leI (a := 10) (b := R) (by decide) (by omega)).mp c_1
        omega
      subst e9
      have e1 := bl_10 hbr.vx
      rw [e1] at hl
      exact hend H locs ls τ hQ hP hS (lv_sub hl [0, 1, 2, 3, 4, 5, 6, 7, 8] rfl)
    · have hR : R < 10 := Nat.lt_of_not_le (fun z => c_1 (nI_le (a := 10) z (by omega)))
      have hbt := hQ.br hbr hB
      have hw := OL.row hbt hB (r := R) 20 (Nat.le_refl _)
      refine rwA E0 hA hbt hB (by omega) (by omega) hP hS hl (fun H1 locs1 ls1 hP hS hl => ?_)
      have hTX := (lwEX hE0 hA hS).tx (i := 0) (by decide)
      refine W.widen (k := (c0 + 400 * R) + 14 * 0) (n := (s0 + 32000 * R) + 1400 * 0) (by omega) (by omega) ?_
      refine c_loop (c0 := c0 + 400 * R) (s0 := s0 + 32000 * R) E0 hA hbt hB hR (by omega) (by omega) (fun H2 locs2 ls2 tx hP hS hTX hl => ?_) 21 0 (by omega) (by omega) H1 locs1 ls1 (xq 30) hP hS hTX (by rw [row_0]; exact hl)
      rcases (show R < 9 ∨ R = 9 by omega) with hR9 | hR9
      · refine rD0 E0 hA hbt hB hR9 (by omega) (by omega) hP hS hTX hl (fun H3 locs3 ls3 hP hS hl => ?_)
        refine W.widen (k := c0 + 400 * (R + 1)) (n := s0 + 32000 * (R + 1)) (by omega) (by omega) ?_
        exact ih (R + 1) (by omega) (by omega) H3 locs3 ls3 _ (hQ.then hw) hP hS hl
      · refine rD1 E0 hA hbt hB hR9 (by omega) (by omega) hP hS hTX hl (fun H3 locs3 ls3 hP hS hl => ?_)
        refine W.widen (k := c0 + 400 * (R + 1)) (n := s0 + 32000 * (R + 1)) (by omega) (by omega) ?_
        exact ih (R + 1) (by omega) (by omega) H3 locs3 ls3 _ (hQ.then hw) hP hS hl
end LRL
