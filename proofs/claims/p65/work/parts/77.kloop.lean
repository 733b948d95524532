/-! THE LOOP OVER A TRACK'S PRINTS -/
def lenS (f : Nat → Int32) (n : Nat) (x : Int32) (q : Nat) : Int32 := sumI (fun p => imax 0 (eS f n (plP f n x p))) q
def wrS (f : Nat → Int32) (n t : Nat) (x : Int32) (q : Nat) : Int32 := sumI (fun p => bc3 (eE f n t (plP f n x p))) q
def laS (f : Nat → Int32) (n : Nat) (x : Int32) (q : Nat) : Int32 := sumI (fun p => gP f (plP f n x p) 8) q
def fiS (f : Nat → Int32) (n : Nat) (x : Int32) (q : Nat) : Int32 := if q = 0 then 0 else gP f (plP f n x 0) 2
def laT (f : Nat → Int32) (n : Nat) (x : Int32) (q : Nat) : Int32 := if q = 0 then 0 else gP f (plP f n x (q - 1)) 2
section KLP
variable {f : Nat → Int32} {B n t : Nat}
theorem wrS_all (h : VX f n t B) (hn : n ≤ 30) (x : Int32) : wrS f n t x (cN f n x) = m_errs f n t x := (sumI_congr fun p _ => ee_c).trans (errs_sum h hn x).symm
theorem stride_0 {k : Nat} (hb : m_bes f n k false = none) : imax 0 (eS f n k) = m_stride f n k := by
  have e1 : eS f n k = -30000 := by unfold eS; rw [hb]; rfl
  have e2 : m_stride f n k = 0 := by unfold m_stride; rw [hb]
  rw [e1, e2]; decide
theorem stride_s (h : VX f n t B) {k j : Nat} (hk : k < n) (hb : m_bes f n k false = some j) : imax 0 (eS f n k) = m_stride f n k := by
  obtain ⟨d, hd, e⟩ := h.stride_nat hk
  have e1 : eS f n k = m_stride f n k := by unfold eS; rw [hb]; rfl
  rw [e1, e]
  unfold imax
  first
  | exact if_pos (nI_pos' (by omega))
  | exact if_neg (nI_nlt (a := d) (b := 0) (by decide) (by omega))
  | (by_cases w : d = 0
     · subst w; decide
     · simp [nI_pos' (show d < 2 ^ 31 by omega)]
       intro z; exact absurd ((nI_leI (a := d) (b := 0) (by omega) (by decide)).mp z) (by omega))
theorem lenS_all (h : VX f n t B) (hn : n ≤ 30) (x : Int32) : lenS f n x (cN f n x) = m_len f n x := (sumI_congr fun p hp => by
  have hk := (plP_ok h hn hp).2.1
  rcases p with _ | p
  · exact stride_0 (plP_bes0 h hn hp)
  · exact stride_s h hk (plP_besS h hn hp)).trans (len_sum h hn x).symm
end KLP
section LSK

variable {p : Program} {l : Launch} {e : Env} {s : State} {m : MethodId} {args : Array Value} {below : List Frame} {meth : Method} {c : Code} {Q : State → Prop} {b L : Nat} {xs : Nat → Int32} {D : va_G} {cy : Nat → ClassId} {xq ad : Nat → Nat} {pm : Nat → Nat} {rj : Option Nat} {σ : Nat → Nat → Int32} {f : Nat → Int32} {B n t : Nat} {pi ro : Nat → Nat} {H : Heap} {locs : List Loc} {cells slots : Nat} {ls : Array Slot}
set_option maxHeartbeats 4000000 in
set_option maxRecDepth 100000 in
theorem k_loop {r v5 c0 s0 : Nat} {v2 v6 v8 : Int32} (E0 : LE p l s m c args b L xs D cy xq) (hA : LA9 s.heap.size ad) (hbr : BR σ f B n t pi ro) (hB : B < 1000000) (hr : r < t) (hc0 : c0 + 80 * 31 ≤ 752875) (hs0 : s0 + 1800 * 31 ≤ 6835470) (hend : ∀ (H : Heap) (locs : List Loc) (ls : Array Slot) (tx : Nat), va_P D vwCl (cW ad cy pm rj σ) H → va_S (fun q => s.heap.size ≤ q) s.heap H locs → TXs tx (lnT f n t (gT f r) (cN f n (gT f r))).length (fun j => (lnT f n t (gT f r) (cN f n (gT f r))).getD j 0) (sp_A ad 459 H.size) s H → lv_has ls 21 [(0, .ref b), (1, .ref (ad (429))), (2, .int v2), (3, .int (nI t)), (4, .int (nI n)), (5, .int (nI (v5 + (cN f n (gT f r))))), (6, .int (v6 + laS f n (gT f r) (cN f n (gT f r)))), (7, .int (f 4)), (8, .int v8), (9, .int (gT f r)), (10, .int (nI (cN f n (gT f r)))), (11, .int (lenS f n (gT f r) (cN f n (gT f r)))), (12, .int (wrS f n t (gT f r) (cN f n (gT f r)))), (13, .int (fiS f n (gT f r) (cN f n (gT f r)))), (14, .int (laT f n (gT f r) (cN f n (gT f r)))), (15, .ref tx), (16, .int (nI (cN f n (gT f r))))] → W p l e room_1 s m args below meth c H locs (c0 + 80 * cN f n (gT f r)) (s0 + 1800 * cN f n (gT f r)) Q (F0 m 536 ls [])) : ∀ (fu q : Nat), q ≤ cN f n (gT f r) → cN f n (gT f r) - q < fu → ∀ (H : Heap) (locs : List Loc) (ls : Array Slot) (tx : Nat), va_P D vwCl (cW ad cy pm rj σ) H → va_S (fun q => s.heap.size ≤ q) s.heap H locs → TXs tx (lnT f n t (gT f r) q).length (fun j => (lnT f n t (gT f r) q).getD j 0) (sp_A ad 459 H.size) s H → lv_has ls 21 [(0, .ref b), (1, .ref (ad (429))), (2, .int v2), (3, .int (nI t)), (4, .int (nI n)), (5, .int (nI (v5 + q))), (6, .int (v6 + laS f n (gT f r) q)), (7, .int (f 4)), (8, .int v8), (9, .int (gT f r)), (10, .int (nI (cN f n (gT f r)))), (11, .int (lenS f n (gT f r) q)), (12, .int (wrS f n t (gT f r) q)), (13, .int (fiS f n (gT f r) q)), (14, .int (laT f n (gT f r) q)), (15, .ref tx), (16, .int (nI q))] → W p l e room_1 s m args below meth c H locs (c0 + 80 * q) (s0 + 1800 * q) Q (F0 m 87 ls []) := by
  have hE := E0
  obtain ⟨hx, hb, hml, hown, hts, htb, hX, hbl, hst, hK, hE0, hL⟩ := hE
  have hcl := cntN_le (tA f (gT f r)) n
  have h30 := hbr.n30
  have hcE : cN f n (gT f r) = cntN (tA f (gT f r)) n := rfl
  intro fu
  induction fu with
  | zero => intro q _ h; exact absurd h (Nat.not_lt_zero _)
  | succ fu ih =>
    intro q hq9 hfu H locs ls tx hP hS hTX hl
    refine lv_iload hx hb dL_law_87 (lv_at hl 16 rfl) ?_
    refine lv_iload hx hb dL_law_89 (lv_at hl 10 rfl) ?_
    refine lv_icmp_ge (tgt := 536) hx hb dL_law_91 (by decide) (fun c_1 => ?_) (fun c_1 => ?_)
    · have e9 : q = cN f n (gT f r) := by
        have := (nI_leI (a := cN f n (gT f r)) (b := q) (by omega) (by omega)).mp c_1
        omega
      subst e9
      exact hend H locs ls tx hP hS hTX hl
    · have hq : q < cN f n (gT f r) := Nat.lt_of_not_le (fun z => c_1 (nI_le z (by omega)))
      have hlen := lnT_len (f := f) (n := n) (t := t) (gT f r) q
      have hk := (plP_ok hbr.vx hbr.n30 hq).2.1
      have hkx := (plP_ok hbr.vx hbr.n30 hq).2.2.1
      rcases q with _ | q
      · have hkq : True := trivial
        refine kA0 E0 hA hbr hB hr hq (by omega) (by omega) hP hS hTX hl (fun H1 locs1 ls1 hP hS hTX hl => ?_)
        refine kB0 E0 hA hbr hB hk hkx hr (by omega) (by omega) hP hS hTX hl (fun H2 locs2 ls2 hP hS hTX hl => ?_)
        have hCD : ∀ (H3 : Heap) (locs3 : List Loc) (ls3 : Array Slot), va_P D vwCl (cW ad cy pm rj σ) H3 → va_S (fun q => s.heap.size ≤ q) s.heap H3 locs3 → TXs tx (lnT f n t (gT f r) (0)).length (fun j => (lnT f n t (gT f r) (0)).getD j 0) (sp_A ad 459 H3.size) s H3 → lv_has ls3 21 [(0, .ref b), (1, .ref (ad (429))), (2, .int v2), (3, .int (nI t)), (4, .int (nI n)), (5, .int (nI (v5 + 0))), (6, .int (v6 + laS f n (gT f r) 0)), (7, .int (f 4)), (8, .int v8), (9, .int (gT f r)), (10, .int (nI (cN f n (gT f r)))), (11, .int (lenS f n (gT f r) 0)), (12, .int (wrS f n t (gT f r) 0)), (13, .int (fiS f n (gT f r) 0)), (14, .int (laT f n (gT f r) 0)), (15, .ref tx), (16, .int (nI 0)), (17, .int (gP f (plP f n (gT f r) 0) 0)), (18, .int (eB f n (plP f n (gT f r) 0))), (19, .int (nI (eE f n t (plP f n (gT f r) 0)))), (20, .int (eS f n (plP f n (gT f r) 0)))] → W p l e room_1 s m args below meth c H3 locs3 (c0 + 80 * (0) + 20 + 6 + 30) (s0 + 1800 * (0) + 140 + 40 + 200) Q (F0 m 391 ls3 []) := by
          intro H3 locs3 ls3 hP hS hTX hl
          refine kText (T := lnT f n t (gT f r) 0) E0 hA hbr hB hk (by omega) (by omega) (by omega) hP hS hTX hl (fun H3b locs3b ls3b ty hP hS hTX hl => ?_)
          refine kD0 (T := lnT f n t (gT f r) (0 + 1)) E0 hA hbr hB hk (by omega) (by omega) hP hS hTX hl (fun H4 locs4 ls4 hP hS hTX hl => ?_)
          have e6 : v6 + laS f n (gT f r) 0 + gP f (plP f n (gT f r) 0) 8 = v6 + laS f n (gT f r) (0 + 1) := Int32.add_assoc _ _ _
          have hl : lv_has ls4 21 [(0, .ref b), (1, .ref (ad (429))), (2, .int v2), (3, .int (nI t)), (4, .int (nI n)), (5, .int (nI (v5 + (0 + 1)))), (6, .int (v6 + laS f n (gT f r) (0 + 1))), (7, .int (f 4)), (8, .int v8), (9, .int (gT f r)), (10, .int (nI (cN f n (gT f r)))), (11, .int (lenS f n (gT f r) (0 + 1))), (12, .int (wrS f n t (gT f r) (0 + 1))), (13, .int (fiS f n (gT f r) (0 + 1))), (14, .int (laT f n (gT f r) (0 + 1))), (15, .ref ty), (16, .int (nI (0 + 1)))] := by rw [← e6]; exact lv_sub hl [0, 1, 2, 3, 4, 5, 6, 7, 8, 9, 10, 11, 12, 13, 14, 15, 16] rfl
          refine W.widen (k := c0 + 80 * (0 + 1)) (n := s0 + 1800 * (0 + 1)) (by omega) (by omega) ?_
          exact ih (0 + 1) (by omega) (by omega) H4 locs4 ls4 ty hP hS hTX hl
        by_cases hlast : 0 + 1 = cN f n (gT f r)
        · exact kB3 E0 hA hbr hB hr hlast (by omega) (by omega) hP hS hTX hl hCD
        · exact kB2 E0 hA hbr hB hr (by omega) (by omega) (by omega) hP hS hTX hl hCD
      · have hkq : True := trivial
        refine kA1 E0 hA hbr hB hr hq (by omega) (by omega) hP hS hTX hl (fun H1 locs1 ls1 hP hS hTX hl => ?_)
        refine kB1 (j := plP f n (gT f r) q) E0 hA hbr hB hk hkx hr (plP_ok hbr.vx hbr.n30 (x := gT f r) (q := q) (by omega)).2.1 (by omega) (plP_besS hbr.vx hbr.n30 hq) (plP_time hbr.vx hbr.n30 (p := q) (by omega) hq) (by omega) (by omega) hP hS hTX hl (fun H2 locs2 ls2 hP hS hTX hl => ?_)
        have hCD : ∀ (H3 : Heap) (locs3 : List Loc) (ls3 : Array Slot), va_P D vwCl (cW ad cy pm rj σ) H3 → va_S (fun q => s.heap.size ≤ q) s.heap H3 locs3 → TXs tx (lnT f n t (gT f r) (q + 1)).length (fun j => (lnT f n t (gT f r) (q + 1)).getD j 0) (sp_A ad 459 H3.size) s H3 → lv_has ls3 21 [(0, .ref b), (1, .ref (ad (429))), (2, .int v2), (3, .int (nI t)), (4, .int (nI n)), (5, .int (nI (v5 + (q + 1)))), (6, .int (v6 + laS f n (gT f r) (q + 1))), (7, .int (f 4)), (8, .int v8), (9, .int (gT f r)), (10, .int (nI (cN f n (gT f r)))), (11, .int (lenS f n (gT f r) (q + 1))), (12, .int (wrS f n t (gT f r) (q + 1))), (13, .int (fiS f n (gT f r) (q + 1))), (14, .int (laT f n (gT f r) (q + 1))), (15, .ref tx), (16, .int (nI (q + 1))), (17, .int (gP f (plP f n (gT f r) (q + 1)) 0)), (18, .int (eB f n (plP f n (gT f r) (q + 1)))), (19, .int (nI (eE f n t (plP f n (gT f r) (q + 1))))), (20, .int (eS f n (plP f n (gT f r) (q + 1))))] → W p l e room_1 s m args below meth c H3 locs3 (c0 + 80 * (q + 1) + 20 + 6 + 30) (s0 + 1800 * (q + 1) + 140 + 40 + 200) Q (F0 m 391 ls3 []) := by
          intro H3 locs3 ls3 hP hS hTX hl
          refine kText (T := lnT f n t (gT f r) (q + 1)) E0 hA hbr hB hk (by omega) (by omega) (by omega) hP hS hTX hl (fun H3b locs3b ls3b ty hP hS hTX hl => ?_)
          refine kD1 (T := lnT f n t (gT f r) (q + 1 + 1)) E0 hA hbr hB hk (by omega) (by omega) (by omega) hP hS hTX hl (fun H4 locs4 ls4 hP hS hTX hl => ?_)
          have e6 : v6 + laS f n (gT f r) (q + 1) + gP f (plP f n (gT f r) (q + 1)) 8 = v6 + laS f n (gT f r) (q + 1 + 1) := Int32.add_assoc _ _ _
          have hl : lv_has ls4 21 [(0, .ref b), (1, .ref (ad (429))), (2, .int v2), (3, .int (nI t)), (4, .int (nI n)), (5, .int (nI (v5 + (q + 1 + 1)))), (6, .int (v6 + laS f n (gT f r) (q + 1 + 1))), (7, .int (f 4)), (8, .int v8), (9, .int (gT f r)), (10, .int (nI (cN f n (gT f r)))), (11, .int (lenS f n (gT f r) (q + 1 + 1))), (12, .int (wrS f n t (gT f r) (q + 1 + 1))), (13, .int (fiS f n (gT f r) (q + 1 + 1))), (14, .int (laT f n (gT f r) (q + 1 + 1))), (15, .ref ty), (16, .int (nI (q + 1 + 1)))] := by rw [← e6]; exact lv_sub hl [0, 1, 2, 3, 4, 5, 6, 7, 8, 9, 10, 11, 12, 13, 14, 15, 16] rfl
          refine W.widen (k := c0 + 80 * (q + 1 + 1)) (n := s0 + 1800 * (q + 1 + 1)) (by omega) (by omega) ?_
          exact ih (q + 1 + 1) (by omega) (by omega) H4 locs4 ls4 ty hP hS hTX hl
        by_cases hlast : (q + 1) + 1 = cN f n (gT f r)
        · exact kB3 E0 hA hbr hB hr hlast (by omega) (by omega) hP hS hTX hl hCD
        · exact kB2 E0 hA hbr hB hr (by omega) (by omega) (by omega) hP hS hTX hl hCD
end LSK
