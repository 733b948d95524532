/-! THE LOOPS OVER THE CELLS ABOUT A PRINT -/
section LVP
variable {f : Nat → Int32} {B n t a R C e0 N N1 N2 j : Nat}
def bst (f : Nat → Int32) (n t a R C N : Nat) : Int32 := atO (fbS f n t a N) (nI (20 * R + C)) (fun c => nI c)
def lst9 (f : Nat → Int32) (n t a e0 N : Nat) : Nat := atO (fbS f n t a N) (10 * e0) (K10 f n t a)
theorem fbS_ok (h : fbS f n t a N = some j) : mV f n a j = true := (fb_key (V := mV f n a) (K := K10 f n t a) (K2 := K10 f n t a) (fun _ _ => Iff.rfl) (fun _ _ _ _ => Iff.rfl) N).2 j h
theorem lst_lt (hn : n ≤ 30) (h0 : e0 ≤ 90) (N : Nat) : lst9 f n t a e0 N < 1000 := by
  unfold lst9
  rcases h : fbS f n t a N with _ | j
  · show 10 * e0 < 1000
    omega
  · have h3 := (price_nat (t := t) hn (fbS_ok h)).2.2
    show K10 f n t a j < 1000
    unfold K10
    omega
theorem fb_at {r c9 e9 : Nat} (hR : gP f a 3 = nI R) (hC : gP f a 4 = nI C) (hR1 : R < 10) (hC1 : C < 20) (hr : r < 10) (hc : c9 < 20) (he : e9 ≤ 90) (hth : m_there f n t a (nI r) (nI c9) = nI e9) : mV f n a (20 * r + c9) = m_may f n a (nI r) (nI c9) ∧ K10 f n t a (20 * r + c9) = 10 * e9 + ((R - r + (r - R)) + (C - c9 + (c9 - C))) := by
  have h1 : (20 * r + c9) / 20 = r := by omega
  have h2 : (20 * r + c9) % 20 = c9 := by omega
  unfold mV K10 mE9 mD9
  rw [h1, h2, hth, dist_nat hR hC hR1 hC1 (by omega) (by omega), tn_nI (by omega), tn_nI (by omega)]
  exact ⟨rfl, rfl⟩
theorem fbS_succ (he0 : m_errs f n t (gP f a 1) = nI e0) (h0 : e0 ≤ 90) {N : Nat} : fbS f n t a (N + 1) = if mV f n a N = true ∧ K10 f n t a N < lst9 f n t a e0 N then some N else fbS f n t a N := by
  unfold lst9
  show S_fb (mV f n a) (K10 f n t a) (10 * tn (m_errs f n t (gP f a 1))) (fbS f n t a N) N = _
  unfold S_fb
  rw [he0, tn_nI (by omega)]
theorem fb_stay (h : fbS f n t a N1 = fbS f n t a N2) : bst f n t a R C N1 = bst f n t a R C N2 ∧ lst9 f n t a e0 N1 = lst9 f n t a e0 N2 := by
  unfold bst lst9
  rw [h]
  exact ⟨rfl, rfl⟩
theorem fb_far (h : VX f n t B) (hn : n ≤ 30) (hk : a < n) (hR : gP f a 3 = nI R) (hC : gP f a 4 = nI C) (hR1 : R < 10) (hC1 : C < 20) (N d : Nat) (hf : ∀ i, N ≤ i → i < N + d → i < 200 ∧ (R + 3 ≤ i / 20 ∨ i / 20 + 3 ≤ R ∨ C + 3 ≤ i % 20 ∨ i % 20 + 3 ≤ C)) : fbS f n t a (N + d) = fbS f n t a N :=
  fb_skip d (fun i h1 h2 => mV_far h hn hk hR hC hR1 hC1 (hf i h1 h2).1 (hf i h1 h2).2)
theorem bst_200 (hn : n ≤ 30) (hR : gP f a 3 = nI R) (hC : gP f a 4 = nI C) : bst f n t a R C 200 = m_sug f n t a := by
  rw [sug_val hn, hR, hC, show (20 : Int32) * nI R + nI C = nI (20 * R + C) from nI_addE (a := 20 * R) (nI_mulE (a := 20) rfl rfl) rfl]
  rfl
end LVP
section LVL
variable {p : Program} {l : Launch} {e : Env} {s : State} {m : MethodId} {args : Array Value} {below : List Frame} {meth : Method} {c : Code} {Q : State → Prop} {b L : Nat} {xs : Nat → Int32} {D : va_G} {cy : Nat → ClassId} {xq ad : Nat → Nat} {pm : Nat → Nat} {rj : Option Nat} {σ : Nat → Nat → Int32} {f : Nat → Int32} {B n t : Nat} {pi ro : Nat → Nat} {H : Heap} {locs : List Loc} {cells slots : Nat} {ls : Array Slot}
set_option maxHeartbeats 4000000 in
set_option maxRecDepth 100000 in
theorem w_loop {a R C T9 e0 r c0 s0 : Nat} (E0 : LE p l s m c args b L xs D cy xq) (hA : LA9 s.heap.size ad) (hbr : BR σ f B n t pi ro) (hB : B < 1000000) (hk : a < n) (hR : gP f a 3 = nI R) (hC : gP f a 4 = nI C) (hR1 : R < 10) (hC1 : C < 20) (he0 : m_errs f n t (gP f a 1) = nI e0) (he9 : e0 ≤ 90) (hr : r < 10) (hc0 : c0 + 16 * 21 ≤ 752875) (hs0 : s0 + 100 * 21 ≤ 6835470) (hend : ∀ (H : Heap) (locs : List Loc) (ls : Array Slot), va_P D vwCl (cW ad cy pm rj σ) H → va_S (fun q => s.heap.size ≤ q) s.heap H locs → lv_has ls 21 [(0, .ref b), (1, .ref (ad (429))), (2, .int (nI T9)), (3, .int (nI t)), (4, .int (nI n)), (7, .int (f 4)), (9, .int (gP f a 0)), (10, .int (nI R)), (11, .int (nI C)), (12, .int (bst f n t a R C (20 * (r + 1)))), (13, .int (nI (lst9 f n t a e0 (20 * (r + 1))))), (14, .int (nI r))] → W p l e room_1 s m args below meth c H locs (c0 + 16 * 21) (s0 + 100 * 21) Q (F0 m 1321 ls [])) : ∀ (fu c9 : Nat), c9 ≤ 20 → c9 ≤ C + 3 → 20 - c9 < fu → ∀ (H : Heap) (locs : List Loc) (ls : Array Slot), va_P D vwCl (cW ad cy pm rj σ) H → va_S (fun q => s.heap.size ≤ q) s.heap H locs → lv_has ls 21 [(0, .ref b), (1, .ref (ad (429))), (2, .int (nI T9)), (3, .int (nI t)), (4, .int (nI n)), (7, .int (f 4)), (9, .int (gP f a 0)), (10, .int (nI R)), (11, .int (nI C)), (12, .int (bst f n t a R C (20 * r + c9))), (13, .int (nI (lst9 f n t a e0 (20 * r + c9)))), (14, .int (nI r)), (15, .int (nI c9))] → W p l e room_1 s m args below meth c H locs (c0 + 16 * c9) (s0 + 100 * c9) Q (F0 m 1178 ls []) := by
  have hE := E0
  obtain ⟨hx, hb, hml, hown, hts, htb, hX, hbl, hst, hK, hE0, hL⟩ := hE
  have h30 := hbr.n30
  intro fu
  induction fu with
  | zero => intro c9 _ _ h; exact absurd h (Nat.not_lt_zero _)
  | succ fu ih =>
    intro c9 hc20 hcC hfu H locs ls hP hS hl
    refine wH E0 hA hbr hB (a := a) (T9 := T9) hk hR hC hR1 hC1 hr hc20 (by omega) (by omega) hP hS hl (fun H1 locs1 ls1 hP hS hin hl => ?_) (fun H1 locs1 ls1 hP hS hout hl => ?_)
    · have hlt := lst_lt (f := f) (t := t) (a := a) h30 he9 (20 * r + c9)
      have hsu := fbS_succ (f := f) (n := n) (t := t) (a := a) he0 he9 (N := 20 * r + c9)
      obtain ⟨e9, he, hth⟩ := there_nat (f := f) (n := n) (t := t) h30 (a := a) (r := nI r) (c1 := nI c9)
      obtain ⟨hv, hk10⟩ := fb_at (f := f) (n := n) (t := t) hR hC hR1 hC1 hr hin.1 he hth
      rw [hv, hk10] at hsu
      refine sgA E0 hA hbr hB (a := a) (T9 := T9) hk hR hC hR1 hC1 hr hin.1 (by omega) (by omega) hP hS hl (fun H2 locs2 ls2 hP hS hl => ?_)
      have hdd : (R - r + (r - R)) + (C - c9 + (c9 - C)) < 100 := by omega
      generalize hD9 : (R - r + (r - R)) + (C - c9 + (c9 - C)) = dd at *
      have hgo : ∀ (H3 : Heap) (locs3 : List Loc) (ls3 : Array Slot), va_P D vwCl (cW ad cy pm rj σ) H3 → va_S (fun q => s.heap.size ≤ q) s.heap H3 locs3 → lv_has ls3 21 [(0, .ref b), (1, .ref (ad (429))), (2, .int (nI T9)), (3, .int (nI t)), (4, .int (nI n)), (7, .int (f 4)), (9, .int (gP f a 0)), (10, .int (nI R)), (11, .int (nI C)), (12, .int (bst f n t a R C (20 * r + (c9 + 1)))), (13, .int (nI (lst9 f n t a e0 (20 * r + (c9 + 1))))), (14, .int (nI r)), (15, .int (nI (c9 + 1)))] → W p l e room_1 s m args below meth c H3 locs3 (c0 + 16 * c9 + 16) (s0 + 100 * c9 + 100) Q (F0 m 1178 ls3 []) := by
        intro H3 locs3 ls3 hP hS hl
        refine W.widen (k := c0 + 16 * (c9 + 1)) (n := s0 + 100 * (c9 + 1)) (by omega) (by omega) ?_
        exact ih (c9 + 1) (by omega) (by omega) (by omega) H3 locs3 ls3 hP hS hl
      by_cases hmv : m_may f n a (nI r) (nI c9) = true
      · by_cases hpr : 10 * e9 + dd < lst9 f n t a e0 (20 * r + c9)
        · rw [if_pos ⟨hmv, hpr⟩] at hsu
          refine sgB2 E0 hA hbr hB (a := a) (T9 := T9) hk hR hC hR1 hC1 hr hin.1 hdd he (by omega) hth hmv hpr (by omega) (by omega) hP hS hl (fun H3 locs3 ls3 hP hS hl => ?_)
          refine W.widen (k := c0 + 16 * c9 + 16) (n := s0 + 100 * c9 + 100) (by omega) (by omega) ?_
          refine hgo H3 locs3 ls3 hP hS ?_
          have b1 : bst f n t a R C (20 * r + (c9 + 1)) = nI (20 * r + c9) := by unfold bst; rw [show 20 * r + (c9 + 1) = 20 * r + c9 + 1 by omega, hsu]; rfl
          have b2 : lst9 f n t a e0 (20 * r + (c9 + 1)) = 10 * e9 + dd := by unfold lst9; rw [show 20 * r + (c9 + 1) = 20 * r + c9 + 1 by omega, hsu]; exact hk10
          rw [b1, b2]
          exact hl
        · rw [if_neg (fun z => hpr z.2)] at hsu
          obtain ⟨b1, b2⟩ := fb_stay (R := R) (C := C) (e0 := e0) hsu
          refine sgB1 E0 hA hbr hB (a := a) (T9 := T9) hk hR hC hR1 hC1 hr hin.1 hdd he (by omega) hth hmv (Nat.le_of_not_lt hpr) (by omega) (by omega) hP hS hl (fun H3 locs3 ls3 hP hS hl => ?_)
          refine W.widen (k := c0 + 16 * c9 + 16) (n := s0 + 100 * c9 + 100) (by omega) (by omega) ?_
          refine hgo H3 locs3 ls3 hP hS ?_
          rw [show 20 * r + (c9 + 1) = 20 * r + c9 + 1 by omega, b1, b2]
          exact hl
      · rw [if_neg (fun z => hmv z.1)] at hsu
        obtain ⟨b1, b2⟩ := fb_stay (R := R) (C := C) (e0 := e0) hsu
        refine sgB0 E0 hA hbr hB (a := a) (T9 := T9) hk hR hC hR1 hC1 hr hin.1 hdd he (by omega) hth (by simpa using hmv) (by omega) (by omega) hP hS hl (fun H3 locs3 ls3 hP hS hl => ?_)
        refine W.widen (k := c0 + 16 * c9 + 16) (n := s0 + 100 * c9 + 100) (by omega) (by omega) ?_
        refine hgo H3 locs3 ls3 hP hS ?_
        rw [show 20 * r + (c9 + 1) = 20 * r + c9 + 1 by omega, b1, b2]
        exact hl
    · have hsk := fb_far (t := t) hbr.vx h30 hk hR hC hR1 hC1 (20 * r + c9) (20 - c9) (fun i h1 h2 => by omega)
      rw [show 20 * r + c9 + (20 - c9) = 20 * (r + 1) by omega] at hsk
      obtain ⟨b1, b2⟩ := fb_stay (R := R) (C := C) (e0 := e0) hsk
      refine W.widen (k := c0 + 16 * 21) (n := s0 + 100 * 21) (by omega) (by omega) ?_
      refine hend H1 locs1 ls1 hP hS ?_
      rw [b1, b2]
      exact hl
set_option maxHeartbeats 4000000 in
set_option maxRecDepth 100000 in
theorem v_loop {a R C T9 e0 c0 s0 : Nat} (E0 : LE p l s m c args b L xs D cy xq) (hA : LA9 s.heap.size ad) (hbr : BR σ f B n t pi ro) (hB : B < 1000000) (hk : a < n) (hR : gP f a 3 = nI R) (hC : gP f a 4 = nI C) (hR1 : R < 10) (hC1 : C < 20) (he0 : m_errs f n t (gP f a 1) = nI e0) (he9 : e0 ≤ 90) (hc0 : c0 + 400 * 11 ≤ 752875) (hs0 : s0 + 2400 * 11 ≤ 6835470) (hend : ∀ (H : Heap) (locs : List Loc) (ls : Array Slot), va_P D vwCl (cW ad cy pm rj σ) H → va_S (fun q => s.heap.size ≤ q) s.heap H locs → lv_has ls 21 [(0, .ref b), (1, .ref (ad (429))), (2, .int (nI T9)), (3, .int (nI t)), (4, .int (nI n)), (7, .int (f 4)), (9, .int (gP f a 0)), (10, .int (nI R)), (11, .int (nI C)), (12, .int (m_sug f n t a)), (13, .int (nI (lst9 f n t a e0 (200))))] → W p l e room_1 s m args below meth c H locs (c0 + 400 * 11) (s0 + 2400 * 11) Q (F0 m 1327 ls [])) : ∀ (fu r : Nat), r ≤ 10 → R - 2 ≤ r → 10 - r < fu → ∀ (H : Heap) (locs : List Loc) (ls : Array Slot), va_P D vwCl (cW ad cy pm rj σ) H → va_S (fun q => s.heap.size ≤ q) s.heap H locs → lv_has ls 21 [(0, .ref b), (1, .ref (ad (429))), (2, .int (nI T9)), (3, .int (nI t)), (4, .int (nI n)), (7, .int (f 4)), (9, .int (gP f a 0)), (10, .int (nI R)), (11, .int (nI C)), (12, .int (bst f n t a R C (20 * r))), (13, .int (nI (lst9 f n t a e0 (20 * r)))), (14, .int (nI r))] → W p l e room_1 s m args below meth c H locs (c0 + 400 * r) (s0 + 2400 * r) Q (F0 m 1154 ls []) := by
  have hE := E0
  obtain ⟨hx, hb, hml, hown, hts, htb, hX, hbl, hst, hK, hE0, hL⟩ := hE
  have h30 := hbr.n30
  intro fu
  induction fu with
  | zero => intro r _ _ h; exact absurd h (Nat.not_lt_zero _)
  | succ fu ih =>
    intro r hr10 hrR hfu H locs ls hP hS hl
    refine vH E0 hA hbr hB (a := a) (T9 := T9) hk hR hC hR1 hC1 hr10 (by omega) (by omega) hP hS hl (fun H1 locs1 ls1 hP hS hin hl => ?_) (fun H1 locs1 ls1 hP hS hout hl => ?_)
    · have hsk := fb_far (t := t) hbr.vx h30 hk hR hC hR1 hC1 (20 * r) (C - 2) (fun i h1 h2 => by omega)
      obtain ⟨b1, b2⟩ := fb_stay (R := R) (C := C) (e0 := e0) hsk
      refine W.widen (k := (c0 + 400 * r + 4) + 16 * (C - 2)) (n := (s0 + 2400 * r + 40) + 100 * (C - 2)) (by omega) (by omega) ?_
      refine w_loop (c0 := c0 + 400 * r + 4) (s0 := s0 + 2400 * r + 40) E0 hA hbr hB hk hR hC hR1 hC1 he0 he9 hin.1 (by omega) (by omega) (fun H2 locs2 ls2 hP hS hl => ?_) 21 (C - 2) (by omega) (by omega) (by omega) H1 locs1 ls1 hP hS (by rw [b1, b2]; exact hl)
      refine vE E0 hA hbr hB (a := a) (T9 := T9) hk hR hC hR1 hC1 (by omega) (by omega) hP hS hl (fun H3 locs3 ls3 hP hS hl => ?_)
      refine W.widen (k := c0 + 400 * (r + 1)) (n := s0 + 2400 * (r + 1)) (by omega) (by omega) ?_
      exact ih (r + 1) (by omega) (by omega) (by omega) H3 locs3 ls3 hP hS hl
    · have hsk := fb_far (t := t) hbr.vx h30 hk hR hC hR1 hC1 (20 * r) (200 - 20 * r) (fun i h1 h2 => by omega)
      rw [show 20 * r + (200 - 20 * r) = 200 by omega] at hsk
      obtain ⟨b1, b2⟩ := fb_stay (R := R) (C := C) (e0 := e0) hsk
      refine W.widen (k := c0 + 400 * 11) (n := s0 + 2400 * 11) (by omega) (by omega) ?_
      refine hend H1 locs1 ls1 hP hS ?_
      rw [← bst_200 h30 hR hC, b1, b2]
      exact hl
set_option maxHeartbeats 4000000 in
set_option maxRecDepth 100000 in
theorem sug_all {T9 c0 s0 : Nat} (E0 : LE p l s m c args b L xs D cy xq) (hA : LA9 s.heap.size ad) (hbr : BR σ f B n t pi ro) (hB : B < 1000000) (hT3 : T9 < 3) (hc0 : c0 + 5000 ≤ 752875) (hs0 : s0 + 30000 ≤ 6835470) (hend : ∀ (H : Heap) (locs : List Loc) (ls : Array Slot), va_P D vwCl (cW ad cy pm rj σ) H → va_S (fun q => s.heap.size ≤ q) s.heap H locs → lv_has ls 21 [(0, .ref b), (1, .ref (ad (429))), (2, .int (nI T9))] → W p l e room_1 s m args below meth c H locs (c0 + 5000) (s0 + 30000) Q (F0 m 1340 ls [])) : ∀ (H : Heap) (locs : List Loc) (ls : Array Slot), va_P D vwCl (cW ad cy pm rj σ) H → va_S (fun q => s.heap.size ≤ q) s.heap H locs → lv_has ls 21 [(0, .ref b), (1, .ref (ad (429))), (2, .int (nI T9)), (3, .int (nI t)), (4, .int (nI n)), (7, .int (f 4))] → W p l e room_1 s m args below meth c H locs (c0) (s0) Q (F0 m 1082 ls []) := by
  intro H locs ls hP hS hl
  have h30 := hbr.n30
  rcases Nat.eq_zero_or_pos n with hn0 | hn0
  · refine sZ0 E0 hA hbr hB hn0 (by omega) (by omega) hP hS hl (fun H1 locs1 ls1 hP hS hl => ?_)
    exact W.widen (by omega) (by omega) (hend H1 locs1 ls1 hP hS hl)
  · refine sZ1 E0 hA hbr hB hn0 (by omega) (by omega) hP hS hl (fun H1 locs1 ls1 hP hS hl => ?_)
    refine sg0 E0 hA hbr hB hn0 hT3 (by omega) (by omega) hP hS hl (fun H2 locs2 ls2 a R C e0 hP hS hh hl => ?_)
    obtain ⟨hk, hR, hC, hR1, hC1, he0, he9⟩ := hh
    have hsk := fb_far (t := t) hbr.vx h30 hk hR hC hR1 hC1 0 (20 * (R - 2)) (fun i h1 h2 => by omega)
    rw [Nat.zero_add] at hsk
    obtain ⟨b1, b2⟩ := fb_stay (R := R) (C := C) (e0 := e0) hsk
    have d1 : bst f n t a R C 0 = nI (20 * R + C) := rfl
    have d2 : lst9 f n t a e0 0 = 10 * e0 := rfl
    refine W.widen (k := (c0 + 20) + 400 * (R - 2)) (n := (s0 + 100) + 2400 * (R - 2)) (by omega) (by omega) ?_
    refine v_loop (c0 := c0 + 20) (s0 := s0 + 100) E0 hA hbr hB (T9 := T9) hk hR hC hR1 hC1 he0 he9 (by omega) (by omega) (fun H3 locs3 ls3 hP hS hl => ?_) 11 (R - 2) (by omega) (by omega) (by omega) H2 locs2 ls2 hP hS (by rw [b1, b2, d1, d2]; exact hl)
    refine sgF E0 hA hbr hB hk hR hC hR1 hC1 (by omega) (by omega) hP hS hl (fun H4 locs4 ls4 hP hS hl => ?_)
    exact W.widen (by omega) (by omega) (hend H4 locs4 ls4 hP hS hl)
end LVL
