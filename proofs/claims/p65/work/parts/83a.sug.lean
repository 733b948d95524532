/-! THE BEST CELL -/
theorem max_2 : ∀ R, R < 30 → imax 0 (nI R - 2) = nI (R - 2) := by decide +kernel
theorem min_10 : ∀ R, R < 10 → imin 10 (nI R + 3) = nI (min 10 (R + 3)) := by decide +kernel
theorem min_20 : ∀ R, R < 20 → imin 20 (nI R + 3) = nI (min 20 (R + 3)) := by decide +kernel
theorem far_nat {r c9 R C : Nat} (hr : r < 10) (hc : c9 < 20) (hR : R < 10) (hC : C < 20) : iabs (nI r - nI R) + iabs (nI c9 - nI C) = nI ((R - r + (r - R)) + (C - c9 + (c9 - C))) := by
  rw [iabs_nat (by omega) (by omega), iabs_nat (by omega) (by omega)]
  rw [show r - R + (R - r) = R - r + (r - R) by omega, show c9 - C + (C - c9) = C - c9 + (c9 - C) by omega]
  exact nI_addE rfl rfl
section SGP
variable {f : Nat → Int32} {B n t a R C : Nat}
theorem in_12 {d : Nat} (hd : d < 200) : m_in (nI d) 1 2 = (decide (0 < d) && decide (d < 3)) := by
  unfold m_in
  have h1 : (1 ≤ nI d) ↔ 0 < d := (nI_leI (a := 1) (b := d) (by decide) (by omega))
  have h2 : (nI d ≤ 2) ↔ d < 3 := (nI_leI (a := d) (b := 2) (by omega) (by decide)).trans ⟨fun z => by omega, fun z => by omega⟩
  rw [decide_eq_decide.mpr h1, decide_eq_decide.mpr h2]
theorem may_val (_h : VX f n t B) (_hn : n ≤ 30) (_hk : a < n) (hR : gP f a 3 = nI R) (hC : gP f a 4 = nI C) (hR1 : R < 10) (hC1 : C < 20) {r c9 : Nat} (hr : r < 100) (hc : c9 < 100) : m_may f n a (nI r) (nI c9) = (decide (0 < (R - r + (r - R)) + (C - c9 + (c9 - C))) && decide ((R - r + (r - R)) + (C - c9 + (c9 - C)) < 3) && decide (f 4 ≤ nI r) && (m_cell f n (nI r) (nI c9)).isNone) := by
  unfold m_may
  rw [dist_nat hR hC hR1 hC1 hr hc, in_12 (by omega)]
def K10 (f : Nat → Int32) (n t a c : Nat) : Nat := 10 * mE9 f n t a c + mD9 f a c
def fbS (f : Nat → Int32) (n t a N : Nat) : Option Nat := foldI (S_fb (mV f n a) (K10 f n t a) (10 * tn (m_errs f n t (gP f a 1)))) none N
theorem fb_skip {V : Nat → Bool} {K : Nat → Nat} {k0 N : Nat} : ∀ d : Nat, (∀ i, N ≤ i → i < N + d → V i = false) → foldI (S_fb V K k0) none (N + d) = foldI (S_fb V K k0) none N
  | 0, _ => rfl
  | d + 1, h => by
    rw [show N + (d + 1) = N + d + 1 by omega, foldI_succ, fb_skip d (fun i h1 h2 => h i h1 (by omega))]
    unfold S_fb
    rw [if_neg (fun z => by have h9 := h (N + d) (by omega) (by omega); rw [h9] at z; cases z.1)]
theorem mV_far (h : VX f n t B) (hn : n ≤ 30) (hk : a < n) (hR : gP f a 3 = nI R) (hC : gP f a 4 = nI C) (hR1 : R < 10) (hC1 : C < 20) {i : Nat} (hi : i < 200) (hf : R + 3 ≤ i / 20 ∨ i / 20 + 3 ≤ R ∨ C + 3 ≤ i % 20 ∨ i % 20 + 3 ≤ C) : mV f n a i = false := by
  unfold mV
  rw [may_val h hn hk hR hC hR1 hC1 (by omega) (by omega)]
  rw [decide_eq_false (show ¬ (R - i / 20 + (i / 20 - R)) + (C - i % 20 + (i % 20 - C)) < 3 by omega), Bool.and_false, Bool.false_and, Bool.false_and]
theorem sug_val (hn : n ≤ 30) : m_sug f n t a = atO (fbS f n t a 200) (20 * gP f a 3 + gP f a 4) (fun c => nI c) := by
  have h9 := m_sug_fb (f := f) (t := t) hn (a := a) 200 (Nat.le_refl _)
  have hkey := (fb_key (V := mV f n a) (K := mK f n t a) (K2 := K10 f n t a) (k0 := 1000 * tn (m_errs f n t (gP f a 1))) (k2 := 10 * tn (m_errs f n t (gP f a 1))) (fun i hi => by
    have h3 := (price_nat (t := t) hn hi).2.2.1
    unfold mK K10
    omega) (fun i j hi hj => by
    have h3 := (price_nat (t := t) hn hi).2.2.1
    have h4 := (price_nat (t := t) hn hj).2.2.1
    unfold mK K10
    omega) 200).1
  unfold m_sug fbS
  rw [h9, hkey]
end SGP

section LSS
variable {p : Program} {l : Launch} {e : Env} {s : State} {m : MethodId} {args : Array Value} {below : List Frame} {meth : Method} {c : Code} {Q : State → Prop} {b L : Nat} {xs : Nat → Int32} {D : va_G} {cy : Nat → ClassId} {xq ad : Nat → Nat} {pm : Nat → Nat} {rj : Option Nat} {σ : Nat → Nat → Int32} {f : Nat → Int32} {B n t : Nat} {pi ro : Nat → Nat} {H : Heap} {locs : List Loc} {cells slots : Nat} {ls : Array Slot}
set_option maxHeartbeats 4000000 in
set_option maxRecDepth 100000 in
theorem sg0 (E0 : LE p l s m c args b L xs D cy xq) (hA : LA9 s.heap.size ad) (hbr : BR σ f B n t pi ro) (hB : B < 1000000) {T9 : Nat} (hn0 : 0 < n) (hT3 : T9 < 3) (hc : cells + 8 ≤ 752875) (hs : slots + 50 ≤ 6835470) (hP : va_P D vwCl (cW ad cy pm rj σ) H) (hS : va_S (fun q => s.heap.size ≤ q) s.heap H locs) (hl : lv_has ls 21 [(0, .ref b), (1, .ref (ad (429))), (2, .int (nI T9)), (3, .int (nI t)), (4, .int (nI n)), (7, .int (f 4))]) (kk : ∀ (H1 : Heap) (locs1 : List Loc) (ls1 : Array Slot) (a R C e0 : Nat), va_P D vwCl (cW ad cy pm rj σ) H1 → va_S (fun q => s.heap.size ≤ q) s.heap H1 locs1 → (a < n ∧ gP f a 3 = nI R ∧ gP f a 4 = nI C ∧ R < 10 ∧ C < 20 ∧ m_errs f n t (gP f a 1) = nI e0 ∧ e0 ≤ 90) → lv_has ls1 21 [(0, .ref b), (1, .ref (ad (429))), (2, .int (nI T9)), (3, .int (nI t)), (4, .int (nI n)), (7, .int (f 4)), (9, .int (gP f a 0)), (10, .int (nI R)), (11, .int (nI C)), (12, .int (nI (20 * R + C))), (13, .int (nI (10 * e0))), (14, .int (nI (R - 2)))] → W p l e room_1 s m args below meth c H1 locs1 (cells + 8) (slots + 50) Q (F0 m 1154 ls1 [])) : W p l e room_1 s m args below meth c H locs (cells) (slots) Q (F0 m 1087 ls []) := by
  have hE := E0
  obtain ⟨hx, hb, hml, hown, hts, htb, hX, hbl, hst, hK, hE0, hL⟩ := hE
  have hi := hA.1
  have hbA : ¬ (fun q : Nat => s.heap.size ≤ q) b := Nat.not_le.mpr hbl
  have h30 := hbr.n30
  refine lv_aload_n hx hb dL_law_1087 rfl (lv_at hl 1 rfl) ?_
  refine lv_aload_n hx hb dL_law_1088 rfl (lv_at hl 0 rfl) ?_
  refine lv_bipush (v := 110) hx hb dL_law_1089 (by decide) ?_
  refine lv_iload_n hx hb dL_law_1091 rfl (lv_at hl 2 rfl) ?_
  refine lv_iadd hx hb dL_law_1092 ?_
  refine W.eq (g2 := F0 m 1093 ls [.int (nI (110 + T9)), .ref b, .ref (ad (429))]) (by rw [show (110 : Int32) + nI T9 = nI (110 + T9) from nI_addE (a := 110) rfl rfl]) ?_
  refine lv_bipush (v := 60) hx hb dL_law_1093 (by decide) ?_
  refine W.eq (g2 := F0 m 1095 ls [.int (nI 60), .int (nI (110 + T9)), .ref b, .ref (ad (429))]) rfl ?_
  refine sp_call (W.runS (As := [.ref b, .int (nI (110 + T9)), .int (nI 60)]) (rest := [.ref (ad (429))]) ⟨hx, hb, hml, hown, hts⟩ (c_L_some l b L xs (110 + T9) 60 (by omega) (by omega) (by decide) (by decide)) (va_cwS 3 hts gL_law_L_some rfl rfl rfl (by decide +kernel) ⟨Nat.le_of_ble_eq_true rfl, Nat.le_of_ble_eq_true rfl⟩) (cPre hX hbl hbA hS) rfl rfl hl.1 rfl (lv_room (Nat.le_of_ble_eq_true rfl)) dL_law_1095 ⟨by show _ ≤ 752875; omega, by show _ ≤ 6835470; omega⟩) ?_
  refine W.eq (g2 := F0 m 1098 ls [.int (nI (sv9 L xs (110 + T9) 60)), .ref (ad (429))]) rfl ?_
  obtain ⟨q, eq9, hq⟩ : ∃ q, sv9 L xs (110 + T9) 60 = q ∧ q < 60 := ⟨_, rfl, sv_lt (by decide)⟩
  refine W.eq (g2 := F0 m 1098 ls [.int (nI q), .ref (ad (429))]) (by rw [eq9]) ?_
  refine sp_callm (va_runS (As := [.ref (ad (429)), .int (nI q)]) (rest := []) ⟨hx, hb, hml, hown, hts⟩ (k_L_print l D ad cy pm rj σ xq hst _ hA.1 hbr q (show q < 2 ^ 31 by omega)) (va_cwS 2 hts gL_law_L_print rfl rfl rfl (by decide +kernel) ⟨Nat.le_of_ble_eq_true rfl, Nat.le_of_ble_eq_true rfl⟩) (sp_preSmx hK hP (lwEX hE0 hA hS)) rfl rfl hl.1 rfl (lv_room (Nat.le_of_ble_eq_true rfl)) dL_law_1098 ⟨by show _ ≤ 752875; omega, by show _ ≤ 6835470; omega⟩) hS (fun q _ h => lwAd hA hS q h) (fun q h => lwAd hA hS q h) (fun H locs hP hle hfr hS => ?_)
  refine W.eq (g2 := F0 m 1101 ls [.int (pA f n q)]) rfl ?_
  obtain ⟨a, ea, hk⟩ : ∃ a, plD f n (q % n) = a ∧ a < n := ⟨_, rfl, (plD_ok hbr.vx hbr.n30 (Nat.mod_lt q hn0)).2.1⟩
  refine W.eq (g2 := F0 m 1101 ls [.int (gP f a 0)]) (by rw [show pA f n q = gP f a 0 from by unfold pA; rw [if_neg (show ¬ n = 0 by omega), ea]]) ?_
  obtain ⟨R, C, hR, hC, hR1, hC1⟩ := hbr.vx.rc hk
  obtain ⟨r, hr, er1, er2⟩ := hbr.vx.limk hk
  obtain ⟨e0, he0, ee0⟩ := m_errs_nat (f := f) (t := t) h30 (gP f a 1)
  refine lv_istore (lv' := [(9, .int (gP f a 0)), (0, .ref b), (1, .ref (ad (429))), (2, .int (nI T9)), (3, .int (nI t)), (4, .int (nI n)), (7, .int (f 4))]) hx hb dL_law_1101 hl (by decide) rfl (fun ls hl => ?_)
  refine lv_aload_n hx hb dL_law_1103 rfl (lv_at hl 2 rfl) ?_
  refine lv_iload hx hb dL_law_1104 (lv_at hl 0 rfl) ?_
  refine sp_callm (va_runV (As := [.int (gP f a 0)]) (rest := []) ⟨hx, hb, hml, hown, hts⟩ (k_rowOf l D ad cy pm rj σ xq hst _ hA.1 hbr hk) (cwV 1 hts gL_law_X9_rowOf rfl rfl rfl (by decide +kernel) ⟨Nat.le_of_ble_eq_true rfl, Nat.le_of_ble_eq_true rfl⟩) (sp_preVmx hK hP (lwEX hE0 hA hS) (κ := 429) (by decide) cE_sp rfl) rfl rfl hl.1 rfl (lv_room (Nat.le_of_ble_eq_true rfl)) dL_law_1106 ⟨by show _ ≤ 752875; omega, by show _ ≤ 6835470; omega⟩) hS (fun q _ h => lwAd hA hS q h) (fun q h => lwAd hA hS q h) (fun H locs hP hle hfr hS => ?_)
  refine W.eq (g2 := F0 m 1109 ls [.int (gP f a 3)]) rfl ?_
  refine W.eq (g2 := F0 m 1109 ls [.int (nI R)]) (by rw [hR]) ?_
  refine lv_istore (lv' := [(10, .int (nI R)), (9, .int (gP f a 0)), (0, .ref b), (1, .ref (ad (429))), (2, .int (nI T9)), (3, .int (nI t)), (4, .int (nI n)), (7, .int (f 4))]) hx hb dL_law_1109 hl (by decide) rfl (fun ls hl => ?_)
  refine lv_aload_n hx hb dL_law_1111 rfl (lv_at hl 3 rfl) ?_
  refine lv_iload hx hb dL_law_1112 (lv_at hl 1 rfl) ?_
  refine sp_callm (va_runV (As := [.int (gP f a 0)]) (rest := []) ⟨hx, hb, hml, hown, hts⟩ (k_columnOf l D ad cy pm rj σ xq hst _ hA.1 hbr hk) (cwV 1 hts gL_law_X9_columnOf rfl rfl rfl (by decide +kernel) ⟨Nat.le_of_ble_eq_true rfl, Nat.le_of_ble_eq_true rfl⟩) (sp_preVmx hK hP (lwEX hE0 hA hS) (κ := 429) (by decide) cE_sp rfl) rfl rfl hl.1 rfl (lv_room (Nat.le_of_ble_eq_true rfl)) dL_law_1114 ⟨by show _ ≤ 752875; omega, by show _ ≤ 6835470; omega⟩) hS (fun q _ h => lwAd hA hS q h) (fun q h => lwAd hA hS q h) (fun H locs hP hle hfr hS => ?_)
  refine W.eq (g2 := F0 m 1117 ls [.int (gP f a 4)]) rfl ?_
  refine W.eq (g2 := F0 m 1117 ls [.int (nI C)]) (by rw [hC]) ?_
  refine lv_istore (lv' := [(11, .int (nI C)), (10, .int (nI R)), (9, .int (gP f a 0)), (0, .ref b), (1, .ref (ad (429))), (2, .int (nI T9)), (3, .int (nI t)), (4, .int (nI n)), (7, .int (f 4))]) hx hb dL_law_1117 hl (by decide) rfl (fun ls hl => ?_)
  refine lv_bipush (v := 20) hx hb dL_law_1119 (by decide) ?_
  refine lv_iload hx hb dL_law_1121 (lv_at hl 1 rfl) ?_
  refine lv_imul hx hb dL_law_1123 ?_
  refine lv_iload hx hb dL_law_1124 (lv_at hl 0 rfl) ?_
  refine lv_iadd hx hb dL_law_1126 ?_
  refine W.eq (g2 := F0 m 1127 ls [.int (nI (20 * R + C))]) (by rw [show (20 : Int32) * nI R + nI C = nI (20 * R + C) from nI_addE (a := 20 * R) (nI_mulE (a := 20) rfl rfl) rfl]) ?_
  refine lv_istore (lv' := [(12, .int (nI (20 * R + C))), (11, .int (nI C)), (10, .int (nI R)), (9, .int (gP f a 0)), (0, .ref b), (1, .ref (ad (429))), (2, .int (nI T9)), (3, .int (nI t)), (4, .int (nI n)), (7, .int (f 4))]) hx hb dL_law_1127 hl (by decide) rfl (fun ls hl => ?_)
  refine lv_bipush (v := 10) hx hb dL_law_1129 (by decide) ?_
  refine lv_aload_n hx hb dL_law_1131 rfl (lv_at hl 5 rfl) ?_
  refine lv_aload_n hx hb dL_law_1132 rfl (lv_at hl 5 rfl) ?_
  refine lv_iload hx hb dL_law_1133 (lv_at hl 3 rfl) ?_
  refine sp_callm (va_runV (As := [.int (gP f a 0)]) (rest := [.ref (ad (429)), .int (10)]) ⟨hx, hb, hml, hown, hts⟩ (k_trackOf l D ad cy pm rj σ xq hst _ hA.1 hbr hk) (cwV 1 hts gL_law_X9_trackOf rfl rfl rfl (by decide +kernel) ⟨Nat.le_of_ble_eq_true rfl, Nat.le_of_ble_eq_true rfl⟩) (sp_preVmx hK hP (lwEX hE0 hA hS) (κ := 429) (by decide) cE_sp rfl) rfl rfl hl.1 rfl (lv_room (Nat.le_of_ble_eq_true rfl)) dL_law_1135 ⟨by show _ ≤ 752875; omega, by show _ ≤ 6835470; omega⟩) hS (fun q _ h => lwAd hA hS q h) (fun q h => lwAd hA hS q h) (fun H locs hP hle hfr hS => ?_)
  refine W.eq (g2 := F0 m 1138 ls [.int (gP f a 1), .ref (ad (429)), .int (10)]) rfl ?_
  refine W.eq (g2 := F0 m 1138 ls [.int (gT f r), .ref (ad (429)), .int (10)]) (by rw [er1]) ?_
  refine sp_callm (va_runV (As := [.int (gT f r)]) (rest := [.int (10)]) ⟨hx, hb, hml, hown, hts⟩ (k_errorCount l D ad cy pm rj σ xq hst _ hA.1 hbr hr) (cwV 1 hts gL_law_X9_errorCount rfl rfl rfl (by decide +kernel) ⟨Nat.le_of_ble_eq_true rfl, Nat.le_of_ble_eq_true rfl⟩) (sp_preVmx hK hP (lwEX hE0 hA hS) (κ := 429) (by decide) cE_sp rfl) rfl rfl hl.1 rfl (lv_room (Nat.le_of_ble_eq_true rfl)) dL_law_1138 ⟨by show _ ≤ 752875; omega, by show _ ≤ 6835470; omega⟩) hS (fun q _ h => lwAd hA hS q h) (fun q h => lwAd hA hS q h) (fun H locs hP hle hfr hS => ?_)
  refine W.eq (g2 := F0 m 1141 ls [.int (m_errs f n t (gT f r)), .int (10)]) rfl ?_
  refine W.eq (g2 := F0 m 1141 ls [.int (nI e0), .int (10)]) (by rw [er1, ee0]) ?_
  refine lv_imul hx hb dL_law_1141 ?_
  refine W.eq (g2 := F0 m 1142 ls [.int (nI (10 * e0))]) (by rw [show (10 : Int32) * nI e0 = nI (10 * e0) from nI_mulE (a := 10) rfl rfl]) ?_
  refine lv_istore (lv' := [(13, .int (nI (10 * e0))), (12, .int (nI (20 * R + C))), (11, .int (nI C)), (10, .int (nI R)), (9, .int (gP f a 0)), (0, .ref b), (1, .ref (ad (429))), (2, .int (nI T9)), (3, .int (nI t)), (4, .int (nI n)), (7, .int (f 4))]) hx hb dL_law_1142 hl (by decide) rfl (fun ls hl => ?_)
  refine lv_iconst (v := 0) hx hb dL_law_1144 (by decide) ?_
  refine lv_iload hx hb dL_law_1145 (lv_at hl 3 rfl) ?_
  refine lv_iconst (v := 2) hx hb dL_law_1147 (by decide) ?_
  refine lv_isub hx hb dL_law_1148 ?_
  refine va_mmax hx hb (by rw [hml]; exact hl.1.symm) hown (hts _ (il_wsL_law0_r1 _ (List.mem_of_getElem? (i := 6) rfl))) (hts _ (il_wsL_law0_r1 _ (List.mem_of_getElem? (i := 7) rfl))) (hts _ (il_wsL_law0_r1 _ (List.mem_of_getElem? (i := 8) rfl))) (hts _ (il_wsL_law0_r1 _ (List.mem_of_getElem? (i := 9) rfl))) (Nat.le_of_ble_eq_true rfl) (Nat.le_of_ble_eq_true rfl) (by show _ ≤ 752875; omega) (by show _ ≤ 6835470; omega) dL_law_1149 ?_
  refine W.eq (g2 := F0 m 1152 ls [.int (imax 0 ((nI R) - 2))]) rfl ?_
  refine W.eq (g2 := F0 m 1152 ls [.int (nI (R - 2))]) (by rw [max_2 R (by omega)]) ?_
  refine lv_istore (lv' := [(14, .int (nI (R - 2))), (13, .int (nI (10 * e0))), (12, .int (nI (20 * R + C))), (11, .int (nI C)), (10, .int (nI R)), (9, .int (gP f a 0)), (0, .ref b), (1, .ref (ad (429))), (2, .int (nI T9)), (3, .int (nI t)), (4, .int (nI n)), (7, .int (f 4))]) hx hb dL_law_1152 hl (by decide) rfl (fun ls hl => ?_)
  refine W.widen (k := cells + 8) (n := slots + 50) (by omega) (by omega) ?_
  exact kk _ _ _ a R C e0 hP hS ⟨hk, hR, hC, hR1, hC1, ee0, he0⟩ (lv_sub hl [6, 7, 8, 9, 10, 11, 5, 4, 3, 2, 1, 0] rfl)
set_option maxHeartbeats 4000000 in
set_option maxRecDepth 100000 in
theorem sgA (E0 : LE p l s m c args b L xs D cy xq) (hA : LA9 s.heap.size ad) (hbr : BR σ f B n t pi ro) (hB : B < 1000000) {a R C T9 : Nat} (hk : a < n) (hR : gP f a 3 = nI R) (hC : gP f a 4 = nI C) (hR1 : R < 10) (hC1 : C < 20) {r c9 : Nat} {v12 v13 : Int32} (hr : r < 10) (hc9 : c9 < 20) (hc : cells + 8 ≤ 752875) (hs : slots + 50 ≤ 6835470) (hP : va_P D vwCl (cW ad cy pm rj σ) H) (hS : va_S (fun q => s.heap.size ≤ q) s.heap H locs) (hl : lv_has ls 21 [(0, .ref b), (1, .ref (ad (429))), (2, .int (nI T9)), (3, .int (nI t)), (4, .int (nI n)), (7, .int (f 4)), (9, .int (gP f a 0)), (10, .int (nI R)), (11, .int (nI C)), (12, .int v12), (13, .int v13), (14, .int (nI r)), (15, .int (nI c9))]) (kk : ∀ (H1 : Heap) (locs1 : List Loc) (ls1 : Array Slot), va_P D vwCl (cW ad cy pm rj σ) H1 → va_S (fun q => s.heap.size ≤ q) s.heap H1 locs1 → lv_has ls1 21 [(0, .ref b), (1, .ref (ad (429))), (2, .int (nI T9)), (3, .int (nI t)), (4, .int (nI n)), (7, .int (f 4)), (9, .int (gP f a 0)), (10, .int (nI R)), (11, .int (nI C)), (12, .int v12), (13, .int v13), (14, .int (nI r)), (15, .int (nI c9)), (16, .int (nI ((R - r + (r - R)) + (C - c9 + (c9 - C)))))] → W p l e room_1 s m args below meth c H1 locs1 (cells + 8) (slots + 50) Q (F0 m 1260 ls1 [])) : W p l e room_1 s m args below meth c H locs (cells) (slots) Q (F0 m 1192 ls []) := by
  have hE := E0
  obtain ⟨hx, hb, hml, hown, hts, htb, hX, hbl, hst, hK, hE0, hL⟩ := hE
  have hi := hA.1
  have hdd := may_val hbr.vx hbr.n30 hk hR hC hR1 hC1 (r := r) (c9 := c9) (by omega) (by omega)
  refine lv_iload hx hb dL_law_1192 (lv_at hl 11 rfl) ?_
  refine lv_iload hx hb dL_law_1194 (lv_at hl 7 rfl) ?_
  refine lv_isub hx hb dL_law_1196 ?_
  refine va_mabs hx hb (by rw [hml]; exact hl.1.symm) hown (hts _ (il_wsL_law0_r1 _ (List.mem_of_getElem? (i := 13) rfl))) (hts _ (il_wsL_law0_r1 _ (List.mem_of_getElem? (i := 14) rfl))) (hts _ (il_wsL_law0_r1 _ (List.mem_of_getElem? (i := 8) rfl))) (hts _ (il_wsL_law0_r1 _ (List.mem_of_getElem? (i := 15) rfl))) (Nat.le_of_ble_eq_true rfl) (Nat.le_of_ble_eq_true rfl) (by show _ ≤ 752875; omega) (by show _ ≤ 6835470; omega) dL_law_1197 ?_
  refine W.eq (g2 := F0 m 1200 ls [.int (iabs ((nI r) - (nI R)))]) rfl ?_
  refine lv_iload hx hb dL_law_1200 (lv_at hl 12 rfl) ?_
  refine lv_iload hx hb dL_law_1202 (lv_at hl 8 rfl) ?_
  refine lv_isub hx hb dL_law_1204 ?_
  refine va_mabs hx hb (by rw [hml]; exact hl.1.symm) hown (hts _ (il_wsL_law0_r1 _ (List.mem_of_getElem? (i := 13) rfl))) (hts _ (il_wsL_law0_r1 _ (List.mem_of_getElem? (i := 14) rfl))) (hts _ (il_wsL_law0_r1 _ (List.mem_of_getElem? (i := 8) rfl))) (hts _ (il_wsL_law0_r1 _ (List.mem_of_getElem? (i := 15) rfl))) (Nat.le_of_ble_eq_true rfl) (Nat.le_of_ble_eq_true rfl) (by show _ ≤ 752875; omega) (by show _ ≤ 6835470; omega) dL_law_1205 ?_
  refine W.eq (g2 := F0 m 1208 ls [.int (iabs ((nI c9) - (nI C))), .int (iabs ((nI r) - (nI R)))]) rfl ?_
  refine lv_iadd hx hb dL_law_1208 ?_
  refine W.eq (g2 := F0 m 1209 ls [.int (nI ((R - r + (r - R)) + (C - c9 + (c9 - C))))]) (by rw [show iabs (nI r - nI R) + iabs (nI c9 - nI C) = nI ((R - r + (r - R)) + (C - c9 + (c9 - C))) from far_nat hr hc9 hR1 hC1]) ?_
  refine lv_istore (lv' := [(16, .int (nI ((R - r + (r - R)) + (C - c9 + (c9 - C))))), (0, .ref b), (1, .ref (ad (429))), (2, .int (nI T9)), (3, .int (nI t)), (4, .int (nI n)), (7, .int (f 4)), (9, .int (gP f a 0)), (10, .int (nI R)), (11, .int (nI C)), (12, .int v12), (13, .int v13), (14, .int (nI r)), (15, .int (nI c9))]) hx hb dL_law_1209 hl (by decide) rfl (fun ls hl => ?_)
  refine lv_aload_n hx hb dL_law_1211 rfl (lv_at hl 2 rfl) ?_
  refine lv_iload hx hb dL_law_1212 (lv_at hl 7 rfl) ?_
  refine lv_iload hx hb dL_law_1214 (lv_at hl 12 rfl) ?_
  refine lv_iload hx hb dL_law_1216 (lv_at hl 13 rfl) ?_
  refine sp_callm (va_runV (As := [.int (gP f a 0), .int (nI r), .int (nI c9)]) (rest := []) ⟨hx, hb, hml, hown, hts⟩ (k_canMove l D ad cy pm rj σ xq hst _ hA.1 hbr hB hk (cell_in hr hc9)) (cwV 3 hts gL_law_X9_canMove rfl rfl rfl (by decide +kernel) ⟨Nat.le_of_ble_eq_true rfl, Nat.le_of_ble_eq_true rfl⟩) (sp_preVmx hK hP (lwEX hE0 hA hS) (κ := 429) (by decide) cE_sp rfl) rfl rfl hl.1 rfl (lv_room (Nat.le_of_ble_eq_true rfl)) dL_law_1218 ⟨by show _ ≤ 752875; omega, by show _ ≤ 6835470; omega⟩) hS (fun q _ h => lwAd hA hS q h) (fun q h => lwAd hA hS q h) (fun H locs hP hle hfr hS => ?_)
  refine W.eq (g2 := F0 m 1221 ls [.int (b2i (m_may f n a (nI r) (nI c9)))]) rfl ?_
  refine lv_iload hx hb dL_law_1221 (lv_at hl 0 rfl) ?_
  generalize hD9 : ((R - r + (r - R)) + (C - c9 + (c9 - C))) = dd at *
  have hdl : dd < 100 := by rw [← hD9]; omega
  refine lv_if_le (tgt := 1254) hx hb dL_law_1223 (by decide) (fun c_1 => ?_) (fun c_1 => ?_)
  · skip
    refine lv_iconst (v := 0) hx hb dL_law_1254 (by decide) ?_
    refine W.eq (g2 := F0 m 1255 ls [.int (0), .int (b2i false)]) (by rw [hdd]; exact congrArg (fun z9 => F0 m 1255 ls [.int (0), .int z9]) (congrArg b2i (by rw [decide_eq_false (show ¬ 0 < dd by have := (nI_leI (a := dd) (b := 0) (by omega) (by decide)).mp c_1; omega)]; rfl))) ?_
    refine lv_icmp_eq (tgt := 1260) hx hb dL_law_1255 (by decide) (fun c_2 => ?_) (fun c_2 => absurd rfl c_2)
    refine W.widen (k := cells + 8) (n := slots + 50) (by omega) (by omega) ?_
    exact kk _ _ _ hP hS (lv_sub hl [1, 2, 3, 4, 5, 6, 7, 8, 9, 10, 11, 12, 13, 0] rfl)
  · skip
    have hp : 0 < dd := Nat.pos_of_ne_zero (fun z9 => c_1 (by rw [z9]; decide))
    refine lv_iload hx hb dL_law_1226 (lv_at hl 0 rfl) ?_
    refine lv_iconst (v := 3) hx hb dL_law_1228 (by decide) ?_
    refine lv_icmp_ge (tgt := 1254) hx hb dL_law_1229 (by decide) (fun c_3 => ?_) (fun c_3 => ?_)
    · skip
      refine lv_iconst (v := 0) hx hb dL_law_1254 (by decide) ?_
      refine W.eq (g2 := F0 m 1255 ls [.int (0), .int (b2i false)]) (by rw [hdd]; exact congrArg (fun z9 => F0 m 1255 ls [.int (0), .int z9]) (congrArg b2i (by rw [decide_eq_false (show ¬ dd < 3 by have := (nI_leI (a := 3) (b := dd) (by decide) (by omega)).mp c_3; omega), Bool.and_false]; rfl))) ?_
      refine lv_icmp_eq (tgt := 1260) hx hb dL_law_1255 (by decide) (fun c_4 => ?_) (fun c_4 => absurd rfl c_4)
      refine W.widen (k := cells + 8) (n := slots + 50) (by omega) (by omega) ?_
      exact kk _ _ _ hP hS (lv_sub hl [1, 2, 3, 4, 5, 6, 7, 8, 9, 10, 11, 12, 13, 0] rfl)
    · skip
      have hs3 : dd < 3 := Nat.lt_of_not_le (fun z9 => c_3 (nI_le (a := 3) z9 (by omega)))
      refine lv_iload hx hb dL_law_1232 (lv_at hl 12 rfl) ?_
      refine lv_iload hx hb dL_law_1234 (lv_at hl 6 rfl) ?_
      refine lv_icmp_lt (tgt := 1254) hx hb dL_law_1236 (by decide) (fun c_5 => ?_) (fun c_5 => ?_)
      · skip
        refine lv_iconst (v := 0) hx hb dL_law_1254 (by decide) ?_
        refine W.eq (g2 := F0 m 1255 ls [.int (0), .int (b2i false)]) (by rw [hdd]; exact congrArg (fun z9 => F0 m 1255 ls [.int (0), .int z9]) (congrArg b2i (by rw [decide_eq_false (show ¬ f 4 ≤ nI r from Int32.not_le.mpr c_5), Bool.and_false]; rfl))) ?_
        refine lv_icmp_eq (tgt := 1260) hx hb dL_law_1255 (by decide) (fun c_6 => ?_) (fun c_6 => absurd rfl c_6)
        refine W.widen (k := cells + 8) (n := slots + 50) (by omega) (by omega) ?_
        exact kk _ _ _ hP hS (lv_sub hl [1, 2, 3, 4, 5, 6, 7, 8, 9, 10, 11, 12, 13, 0] rfl)
      · skip
        have hdr : f 4 ≤ nI r := Int32.not_lt.mp c_5
        refine lv_aload_n hx hb dL_law_1239 rfl (lv_at hl 2 rfl) ?_
        refine lv_iload hx hb dL_law_1240 (lv_at hl 12 rfl) ?_
        refine lv_iload hx hb dL_law_1242 (lv_at hl 13 rfl) ?_
        refine sp_callm (vx_runSW (As := [.ref (ad (429)), .int (nI r), .int (nI c9)]) (rest := [.int (b2i (m_may f n a (nI r) (nI c9)))]) ⟨hx, hb, hml, hown, hts⟩ (k_L_printIn l D ad cy pm rj σ xq hst _ hA.1 hbr hB hr hc9) (vx_cwSW 3 hts gL_law_L_printIn rfl rfl rfl (by decide +kernel) ⟨Nat.le_of_ble_eq_true rfl, Nat.le_of_ble_eq_true rfl⟩) (sp_preSmx hK hP (lwEX hE0 hA hS)) rfl rfl hl.1 rfl (lv_room (Nat.le_of_ble_eq_true rfl)) dL_law_1244 ⟨by show _ ≤ 752875; omega, by show _ ≤ 6835470; omega⟩) hS (fun q _ h => lwAd hA hS q h) (fun q h => lwAd hA hS q h) (fun H locs hP hle hfr hS => ?_)
        refine W.eq (g2 := F0 m 1247 ls [.int (eI f n r c9), .int (b2i (m_may f n a (nI r) (nI c9)))]) rfl ?_
        refine lv_if_ge (tgt := 1254) hx hb dL_law_1247 (by decide) (fun c_7 => ?_) (fun c_7 => ?_)
        · skip
          obtain ⟨k9, ek9⟩ : ∃ k9, m_cell f n (nI r) (nI c9) = some k9 := by
            rcases opt_em (m_cell f n (nI r) (nI c9)) with e | e
            · exfalso
              have h9 : eI f n r c9 = -30000 := by unfold eI; rw [e]; rfl
              rw [h9] at c_7
              exact absurd c_7 (by decide)
            · exact e
          refine lv_iconst (v := 0) hx hb dL_law_1254 (by decide) ?_
          refine W.eq (g2 := F0 m 1255 ls [.int (0), .int (b2i false)]) (by rw [hdd]; exact congrArg (fun z9 => F0 m 1255 ls [.int (0), .int z9]) (congrArg b2i (by rw [ek9, show (some k9).isNone = false from rfl, Bool.and_false]))) ?_
          refine lv_icmp_eq (tgt := 1260) hx hb dL_law_1255 (by decide) (fun c_8 => ?_) (fun c_8 => absurd rfl c_8)
          refine W.widen (k := cells + 8) (n := slots + 50) (by omega) (by omega) ?_
          exact kk _ _ _ hP hS (lv_sub hl [1, 2, 3, 4, 5, 6, 7, 8, 9, 10, 11, 12, 13, 0] rfl)
        · skip
          have ek9 : m_cell f n (nI r) (nI c9) = none := by
            rcases opt_em (m_cell f n (nI r) (nI c9)) with e | ⟨k9, e⟩
            · exact e
            · exfalso
              have h9 : eI f n r c9 = gP f k9 0 := by unfold eI; rw [e]; rfl
              have h8 := (hbr.vp (m_cell_lt e)).2.2.2.2.2.2.2.2.1
              rw [h9] at c_7
              exact c_7 h8
          refine lv_iconst (v := 1) hx hb dL_law_1250 (by decide) ?_
          refine lv_goto (tgt := 1255) hx hb dL_law_1251 (by decide) ?_
          refine W.eq (g2 := F0 m 1255 ls [.int (1), .int (b2i true)]) (by rw [hdd]; exact congrArg (fun z9 => F0 m 1255 ls [.int (1), .int z9]) (congrArg b2i (by rw [ek9, decide_eq_true hp, decide_eq_true hs3, decide_eq_true hdr]; rfl))) ?_
          refine lv_icmp_eq (tgt := 1260) hx hb dL_law_1255 (by decide) (fun c_9 => ?_) (fun c_9 => absurd rfl c_9)
          refine W.widen (k := cells + 8) (n := slots + 50) (by omega) (by omega) ?_
          exact kk _ _ _ hP hS (lv_sub hl [1, 2, 3, 4, 5, 6, 7, 8, 9, 10, 11, 12, 13, 0] rfl)
set_option maxHeartbeats 4000000 in
set_option maxRecDepth 100000 in
theorem sgB0 (E0 : LE p l s m c args b L xs D cy xq) (hA : LA9 s.heap.size ad) (hbr : BR σ f B n t pi ro) (hB : B < 1000000) {a R C T9 : Nat} (hk : a < n) (hR : gP f a 3 = nI R) (hC : gP f a 4 = nI C) (hR1 : R < 10) (hC1 : C < 20) {r c9 dd e9 ls9 : Nat} {v12 : Int32} (hr : r < 10) (hc9 : c9 < 20) (hdd : dd < 100) (he9 : e9 ≤ 90) (hl9 : ls9 < 2 ^ 31) (hth : m_there f n t a (nI r) (nI c9) = nI e9) (hmv : m_may f n a (nI r) (nI c9) = false) (hc : cells + 6 ≤ 752875) (hs : slots + 30 ≤ 6835470) (hP : va_P D vwCl (cW ad cy pm rj σ) H) (hS : va_S (fun q => s.heap.size ≤ q) s.heap H locs) (hl : lv_has ls 21 [(0, .ref b), (1, .ref (ad (429))), (2, .int (nI T9)), (3, .int (nI t)), (4, .int (nI n)), (7, .int (f 4)), (9, .int (gP f a 0)), (10, .int (nI R)), (11, .int (nI C)), (12, .int v12), (13, .int (nI ls9)), (14, .int (nI r)), (15, .int (nI c9)), (16, .int (nI dd))]) (kk : ∀ (H1 : Heap) (locs1 : List Loc) (ls1 : Array Slot), va_P D vwCl (cW ad cy pm rj σ) H1 → va_S (fun q => s.heap.size ≤ q) s.heap H1 locs1 → lv_has ls1 21 [(0, .ref b), (1, .ref (ad (429))), (2, .int (nI T9)), (3, .int (nI t)), (4, .int (nI n)), (7, .int (f 4)), (9, .int (gP f a 0)), (10, .int (nI R)), (11, .int (nI C)), (12, .int v12), (13, .int (nI ls9)), (14, .int (nI r)), (15, .int (nI (c9 + 1)))] → W p l e room_1 s m args below meth c H1 locs1 (cells + 6) (slots + 30) Q (F0 m 1178 ls1 [])) : W p l e room_1 s m args below meth c H locs (cells) (slots) Q (F0 m 1260 ls []) := by
  have hE := E0
  obtain ⟨hx, hb, hml, hown, hts, htb, hX, hbl, hst, hK, hE0, hL⟩ := hE
  have hi := hA.1
  refine lv_bipush (v := 10) hx hb dL_law_1260 (by decide) ?_
  refine lv_aload_n hx hb dL_law_1262 rfl (lv_at hl 1 rfl) ?_
  refine lv_iload hx hb dL_law_1263 (lv_at hl 6 rfl) ?_
  refine lv_iload hx hb dL_law_1265 (lv_at hl 11 rfl) ?_
  refine lv_iload hx hb dL_law_1267 (lv_at hl 12 rfl) ?_
  refine sp_callm (va_runV (As := [.int (gP f a 0), .int (nI r), .int (nI c9)]) (rest := [.int (10)]) ⟨hx, hb, hml, hown, hts⟩ (k_errorsIfMoved l D ad cy pm rj σ xq hst _ hA.1 hbr hB hk (cell_in hr hc9) ⟨nI_pos' (by omega), nI_le (b := 9) (by omega) (by decide)⟩ ⟨nI_pos' (by omega), nI_le (b := 19) (by omega) (by decide)⟩) (cwV 3 hts gL_law_X9_errorsIfMoved rfl rfl rfl (by decide +kernel) ⟨Nat.le_of_ble_eq_true rfl, Nat.le_of_ble_eq_true rfl⟩) (sp_preVmx hK hP (lwEX hE0 hA hS) (κ := 429) (by decide) cE_sp rfl) rfl rfl hl.1 rfl (lv_room (Nat.le_of_ble_eq_true rfl)) dL_law_1269 ⟨by show _ ≤ 752875; omega, by show _ ≤ 6835470; omega⟩) hS (fun q _ h => lwAd hA hS q h) (fun q h => lwAd hA hS q h) (fun H locs hP hle hfr hS => ?_)
  refine W.eq (g2 := F0 m 1272 ls [.int (m_there f n t a (nI r) (nI c9)), .int (10)]) rfl ?_
  refine W.eq (g2 := F0 m 1272 ls [.int (nI e9), .int (10)]) (by rw [hth]) ?_
  refine lv_imul hx hb dL_law_1272 ?_
  refine lv_iload hx hb dL_law_1273 (lv_at hl 13 rfl) ?_
  refine lv_iadd hx hb dL_law_1275 ?_
  refine W.eq (g2 := F0 m 1276 ls [.int (nI (10 * e9 + dd))]) (by rw [show (10 : Int32) * nI e9 + nI dd = nI (10 * e9 + dd) from nI_addE (a := 10 * e9) (nI_mulE (a := 10) rfl rfl) rfl]) ?_
  refine lv_istore (lv' := [(17, .int (nI (10 * e9 + dd))), (0, .ref b), (1, .ref (ad (429))), (2, .int (nI T9)), (3, .int (nI t)), (4, .int (nI n)), (7, .int (f 4)), (9, .int (gP f a 0)), (10, .int (nI R)), (11, .int (nI C)), (12, .int v12), (13, .int (nI ls9)), (14, .int (nI r)), (15, .int (nI c9)), (16, .int (nI dd))]) hx hb dL_law_1276 hl (by decide) rfl (fun ls hl => ?_)
  refine lv_aload_n hx hb dL_law_1278 rfl (lv_at hl 2 rfl) ?_
  refine lv_iload hx hb dL_law_1279 (lv_at hl 7 rfl) ?_
  refine lv_iload hx hb dL_law_1281 (lv_at hl 12 rfl) ?_
  refine lv_iload hx hb dL_law_1283 (lv_at hl 13 rfl) ?_
  refine sp_callm (va_runV (As := [.int (gP f a 0), .int (nI r), .int (nI c9)]) (rest := []) ⟨hx, hb, hml, hown, hts⟩ (k_canMove l D ad cy pm rj σ xq hst _ hA.1 hbr hB hk (cell_in hr hc9)) (cwV 3 hts gL_law_X9_canMove rfl rfl rfl (by decide +kernel) ⟨Nat.le_of_ble_eq_true rfl, Nat.le_of_ble_eq_true rfl⟩) (sp_preVmx hK hP (lwEX hE0 hA hS) (κ := 429) (by decide) cE_sp rfl) rfl rfl hl.1 rfl (lv_room (Nat.le_of_ble_eq_true rfl)) dL_law_1285 ⟨by show _ ≤ 752875; omega, by show _ ≤ 6835470; omega⟩) hS (fun q _ h => lwAd hA hS q h) (fun q h => lwAd hA hS q h) (fun H locs hP hle hfr hS => ?_)
  refine W.eq (g2 := F0 m 1288 ls [.int (b2i (m_may f n a (nI r) (nI c9)))]) rfl ?_
  refine W.eq (g2 := F0 m 1288 ls [.int (0)]) (by rw [hmv]; rfl) ?_
  refine lv_if_eq (tgt := 1315) hx hb dL_law_1288 (by decide) (fun c_1 => ?_) (fun c_1 => absurd rfl c_1)
  refine lv_iinc (v := nI (c9 + 1)) (lv' := [(15, .int (nI (c9 + 1))), (17, .int (nI (10 * e9 + dd))), (0, .ref b), (1, .ref (ad (429))), (2, .int (nI T9)), (3, .int (nI t)), (4, .int (nI n)), (7, .int (f 4)), (9, .int (gP f a 0)), (10, .int (nI R)), (11, .int (nI C)), (12, .int v12), (13, .int (nI ls9)), (14, .int (nI r)), (16, .int (nI dd))]) hx hb dL_law_1315 hl (k := 13) rfl (nI_1 _) (by decide) rfl (fun ls hl => ?_)
  refine lv_goto (tgt := 1178) hx hb dL_law_1318 (by decide) ?_
  refine W.widen (k := cells + 6) (n := slots + 30) (by omega) (by omega) ?_
  exact kk _ _ _ hP hS (lv_sub hl [2, 3, 4, 5, 6, 7, 8, 9, 10, 11, 12, 13, 0] rfl)
set_option maxHeartbeats 4000000 in
set_option maxRecDepth 100000 in
theorem sgB1 (E0 : LE p l s m c args b L xs D cy xq) (hA : LA9 s.heap.size ad) (hbr : BR σ f B n t pi ro) (hB : B < 1000000) {a R C T9 : Nat} (hk : a < n) (hR : gP f a 3 = nI R) (hC : gP f a 4 = nI C) (hR1 : R < 10) (hC1 : C < 20) {r c9 dd e9 ls9 : Nat} {v12 : Int32} (hr : r < 10) (hc9 : c9 < 20) (hdd : dd < 100) (he9 : e9 ≤ 90) (hl9 : ls9 < 2 ^ 31) (hth : m_there f n t a (nI r) (nI c9) = nI e9) (hmv : m_may f n a (nI r) (nI c9) = true) (hpr : ls9 ≤ 10 * e9 + dd) (hc : cells + 6 ≤ 752875) (hs : slots + 30 ≤ 6835470) (hP : va_P D vwCl (cW ad cy pm rj σ) H) (hS : va_S (fun q => s.heap.size ≤ q) s.heap H locs) (hl : lv_has ls 21 [(0, .ref b), (1, .ref (ad (429))), (2, .int (nI T9)), (3, .int (nI t)), (4, .int (nI n)), (7, .int (f 4)), (9, .int (gP f a 0)), (10, .int (nI R)), (11, .int (nI C)), (12, .int v12), (13, .int (nI ls9)), (14, .int (nI r)), (15, .int (nI c9)), (16, .int (nI dd))]) (kk : ∀ (H1 : Heap) (locs1 : List Loc) (ls1 : Array Slot), va_P D vwCl (cW ad cy pm rj σ) H1 → va_S (fun q => s.heap.size ≤ q) s.heap H1 locs1 → lv_has ls1 21 [(0, .ref b), (1, .ref (ad (429))), (2, .int (nI T9)), (3, .int (nI t)), (4, .int (nI n)), (7, .int (f 4)), (9, .int (gP f a 0)), (10, .int (nI R)), (11, .int (nI C)), (12, .int v12), (13, .int (nI ls9)), (14, .int (nI r)), (15, .int (nI (c9 + 1)))] → W p l e room_1 s m args below meth c H1 locs1 (cells + 6) (slots + 30) Q (F0 m 1178 ls1 [])) : W p l e room_1 s m args below meth c H locs (cells) (slots) Q (F0 m 1260 ls []) := by
  have hE := E0
  obtain ⟨hx, hb, hml, hown, hts, htb, hX, hbl, hst, hK, hE0, hL⟩ := hE
  have hi := hA.1
  refine lv_bipush (v := 10) hx hb dL_law_1260 (by decide) ?_
  refine lv_aload_n hx hb dL_law_1262 rfl (lv_at hl 1 rfl) ?_
  refine lv_iload hx hb dL_law_1263 (lv_at hl 6 rfl) ?_
  refine lv_iload hx hb dL_law_1265 (lv_at hl 11 rfl) ?_
  refine lv_iload hx hb dL_law_1267 (lv_at hl 12 rfl) ?_
  refine sp_callm (va_runV (As := [.int (gP f a 0), .int (nI r), .int (nI c9)]) (rest := [.int (10)]) ⟨hx, hb, hml, hown, hts⟩ (k_errorsIfMoved l D ad cy pm rj σ xq hst _ hA.1 hbr hB hk (cell_in hr hc9) ⟨nI_pos' (by omega), nI_le (b := 9) (by omega) (by decide)⟩ ⟨nI_pos' (by omega), nI_le (b := 19) (by omega) (by decide)⟩) (cwV 3 hts gL_law_X9_errorsIfMoved rfl rfl rfl (by decide +kernel) ⟨Nat.le_of_ble_eq_true rfl, Nat.le_of_ble_eq_true rfl⟩) (sp_preVmx hK hP (lwEX hE0 hA hS) (κ := 429) (by decide) cE_sp rfl) rfl rfl hl.1 rfl (lv_room (Nat.le_of_ble_eq_true rfl)) dL_law_1269 ⟨by show _ ≤ 752875; omega, by show _ ≤ 6835470; omega⟩) hS (fun q _ h => lwAd hA hS q h) (fun q h => lwAd hA hS q h) (fun H locs hP hle hfr hS => ?_)
  refine W.eq (g2 := F0 m 1272 ls [.int (m_there f n t a (nI r) (nI c9)), .int (10)]) rfl ?_
  refine W.eq (g2 := F0 m 1272 ls [.int (nI e9), .int (10)]) (by rw [hth]) ?_
  refine lv_imul hx hb dL_law_1272 ?_
  refine lv_iload hx hb dL_law_1273 (lv_at hl 13 rfl) ?_
  refine lv_iadd hx hb dL_law_1275 ?_
  refine W.eq (g2 := F0 m 1276 ls [.int (nI (10 * e9 + dd))]) (by rw [show (10 : Int32) * nI e9 + nI dd = nI (10 * e9 + dd) from nI_addE (a := 10 * e9) (nI_mulE (a := 10) rfl rfl) rfl]) ?_
  refine lv_istore (lv' := [(17, .int (nI (10 * e9 + dd))), (0, .ref b), (1, .ref (ad (429))), (2, .int (nI T9)), (3, .int (nI t)), (4, .int (nI n)), (7, .int (f 4)), (9, .int (gP f a 0)), (10, .int (nI R)), (11, .int (nI C)), (12, .int v12), (13, .int (nI ls9)), (14, .int (nI r)), (15, .int (nI c9)), (16, .int (nI dd))]) hx hb dL_law_1276 hl (by decide) rfl (fun ls hl => ?_)
  refine lv_aload_n hx hb dL_law_1278 rfl (lv_at hl 2 rfl) ?_
  refine lv_iload hx hb dL_law_1279 (lv_at hl 7 rfl) ?_
  refine lv_iload hx hb dL_law_1281 (lv_at hl 12 rfl) ?_
  refine lv_iload hx hb dL_law_1283 (lv_at hl 13 rfl) ?_
  refine sp_callm (va_runV (As := [.int (gP f a 0), .int (nI r), .int (nI c9)]) (rest := []) ⟨hx, hb, hml, hown, hts⟩ (k_canMove l D ad cy pm rj σ xq hst _ hA.1 hbr hB hk (cell_in hr hc9)) (cwV 3 hts gL_law_X9_canMove rfl rfl rfl (by decide +kernel) ⟨Nat.le_of_ble_eq_true rfl, Nat.le_of_ble_eq_true rfl⟩) (sp_preVmx hK hP (lwEX hE0 hA hS) (κ := 429) (by decide) cE_sp rfl) rfl rfl hl.1 rfl (lv_room (Nat.le_of_ble_eq_true rfl)) dL_law_1285 ⟨by show _ ≤ 752875; omega, by show _ ≤ 6835470; omega⟩) hS (fun q _ h => lwAd hA hS q h) (fun q h => lwAd hA hS q h) (fun H locs hP hle hfr hS => ?_)
  refine W.eq (g2 := F0 m 1288 ls [.int (b2i (m_may f n a (nI r) (nI c9)))]) rfl ?_
  refine W.eq (g2 := F0 m 1288 ls [.int (1)]) (by rw [hmv]; rfl) ?_
  refine lv_if_eq (tgt := 1315) hx hb dL_law_1288 (by decide) (fun c_1 => absurd c_1 (by decide)) (fun c_1 => ?_)
  refine lv_iload hx hb dL_law_1291 (lv_at hl 0 rfl) ?_
  refine lv_iload hx hb dL_law_1293 (lv_at hl 11 rfl) ?_
  refine lv_icmp_lt (tgt := 1301) hx hb dL_law_1295 (by decide) (fun c_2 => absurd ((nI_ltI (a := 10 * e9 + dd) (b := ls9) (by omega) hl9).mp c_2) (by omega)) (fun c_2 => ?_)
  refine lv_goto (tgt := 1315) hx hb dL_law_1298 (by decide) ?_
  refine lv_iinc (v := nI (c9 + 1)) (lv' := [(15, .int (nI (c9 + 1))), (17, .int (nI (10 * e9 + dd))), (0, .ref b), (1, .ref (ad (429))), (2, .int (nI T9)), (3, .int (nI t)), (4, .int (nI n)), (7, .int (f 4)), (9, .int (gP f a 0)), (10, .int (nI R)), (11, .int (nI C)), (12, .int v12), (13, .int (nI ls9)), (14, .int (nI r)), (16, .int (nI dd))]) hx hb dL_law_1315 hl (k := 13) rfl (nI_1 _) (by decide) rfl (fun ls hl => ?_)
  refine lv_goto (tgt := 1178) hx hb dL_law_1318 (by decide) ?_
  refine W.widen (k := cells + 6) (n := slots + 30) (by omega) (by omega) ?_
  exact kk _ _ _ hP hS (lv_sub hl [2, 3, 4, 5, 6, 7, 8, 9, 10, 11, 12, 13, 0] rfl)
set_option maxHeartbeats 4000000 in
set_option maxRecDepth 100000 in
theorem sgB2 (E0 : LE p l s m c args b L xs D cy xq) (hA : LA9 s.heap.size ad) (hbr : BR σ f B n t pi ro) (hB : B < 1000000) {a R C T9 : Nat} (hk : a < n) (hR : gP f a 3 = nI R) (hC : gP f a 4 = nI C) (hR1 : R < 10) (hC1 : C < 20) {r c9 dd e9 ls9 : Nat} {v12 : Int32} (hr : r < 10) (hc9 : c9 < 20) (hdd : dd < 100) (he9 : e9 ≤ 90) (hl9 : ls9 < 2 ^ 31) (hth : m_there f n t a (nI r) (nI c9) = nI e9) (hmv : m_may f n a (nI r) (nI c9) = true) (hpr : 10 * e9 + dd < ls9) (hc : cells + 6 ≤ 752875) (hs : slots + 30 ≤ 6835470) (hP : va_P D vwCl (cW ad cy pm rj σ) H) (hS : va_S (fun q => s.heap.size ≤ q) s.heap H locs) (hl : lv_has ls 21 [(0, .ref b), (1, .ref (ad (429))), (2, .int (nI T9)), (3, .int (nI t)), (4, .int (nI n)), (7, .int (f 4)), (9, .int (gP f a 0)), (10, .int (nI R)), (11, .int (nI C)), (12, .int v12), (13, .int (nI ls9)), (14, .int (nI r)), (15, .int (nI c9)), (16, .int (nI dd))]) (kk : ∀ (H1 : Heap) (locs1 : List Loc) (ls1 : Array Slot), va_P D vwCl (cW ad cy pm rj σ) H1 → va_S (fun q => s.heap.size ≤ q) s.heap H1 locs1 → lv_has ls1 21 [(0, .ref b), (1, .ref (ad (429))), (2, .int (nI T9)), (3, .int (nI t)), (4, .int (nI n)), (7, .int (f 4)), (9, .int (gP f a 0)), (10, .int (nI R)), (11, .int (nI C)), (12, .int (nI (20 * r + c9))), (13, .int (nI (10 * e9 + dd))), (14, .int (nI r)), (15, .int (nI (c9 + 1)))] → W p l e room_1 s m args below meth c H1 locs1 (cells + 6) (slots + 30) Q (F0 m 1178 ls1 [])) : W p l e room_1 s m args below meth c H locs (cells) (slots) Q (F0 m 1260 ls []) := by
  have hE := E0
  obtain ⟨hx, hb, hml, hown, hts, htb, hX, hbl, hst, hK, hE0, hL⟩ := hE
  have hi := hA.1
  refine lv_bipush (v := 10) hx hb dL_law_1260 (by decide) ?_
  refine lv_aload_n hx hb dL_law_1262 rfl (lv_at hl 1 rfl) ?_
  refine lv_iload hx hb dL_law_1263 (lv_at hl 6 rfl) ?_
  refine lv_iload hx hb dL_law_1265 (lv_at hl 11 rfl) ?_
  refine lv_iload hx hb dL_law_1267 (lv_at hl 12 rfl) ?_
  refine sp_callm (va_runV (As := [.int (gP f a 0), .int (nI r), .int (nI c9)]) (rest := [.int (10)]) ⟨hx, hb, hml, hown, hts⟩ (k_errorsIfMoved l D ad cy pm rj σ xq hst _ hA.1 hbr hB hk (cell_in hr hc9) ⟨nI_pos' (by omega), nI_le (b := 9) (by omega) (by decide)⟩ ⟨nI_pos' (by omega), nI_le (b := 19) (by omega) (by decide)⟩) (cwV 3 hts gL_law_X9_errorsIfMoved rfl rfl rfl (by decide +kernel) ⟨Nat.le_of_ble_eq_true rfl, Nat.le_of_ble_eq_true rfl⟩) (sp_preVmx hK hP (lwEX hE0 hA hS) (κ := 429) (by decide) cE_sp rfl) rfl rfl hl.1 rfl (lv_room (Nat.le_of_ble_eq_true rfl)) dL_law_1269 ⟨by show _ ≤ 752875; omega, by show _ ≤ 6835470; omega⟩) hS (fun q _ h => lwAd hA hS q h) (fun q h => lwAd hA hS q h) (fun H locs hP hle hfr hS => ?_)
  refine W.eq (g2 := F0 m 1272 ls [.int (m_there f n t a (nI r) (nI c9)), .int (10)]) rfl ?_
  refine W.eq (g2 := F0 m 1272 ls [.int (nI e9), .int (10)]) (by rw [hth]) ?_
  refine lv_imul hx hb dL_law_1272 ?_
  refine lv_iload hx hb dL_law_1273 (lv_at hl 13 rfl) ?_
  refine lv_iadd hx hb dL_law_1275 ?_
  refine W.eq (g2 := F0 m 1276 ls [.int (nI (10 * e9 + dd))]) (by rw [show (10 : Int32) * nI e9 + nI dd = nI (10 * e9 + dd) from nI_addE (a := 10 * e9) (nI_mulE (a := 10) rfl rfl) rfl]) ?_
  refine lv_istore (lv' := [(17, .int (nI (10 * e9 + dd))), (0, .ref b), (1, .ref (ad (429))), (2, .int (nI T9)), (3, .int (nI t)), (4, .int (nI n)), (7, .int (f 4)), (9, .int (gP f a 0)), (10, .int (nI R)), (11, .int (nI C)), (12, .int v12), (13, .int (nI ls9)), (14, .int (nI r)), (15, .int (nI c9)), (16, .int (nI dd))]) hx hb dL_law_1276 hl (by decide) rfl (fun ls hl => ?_)
  refine lv_aload_n hx hb dL_law_1278 rfl (lv_at hl 2 rfl) ?_
  refine lv_iload hx hb dL_law_1279 (lv_at hl 7 rfl) ?_
  refine lv_iload hx hb dL_law_1281 (lv_at hl 12 rfl) ?_
  refine lv_iload hx hb dL_law_1283 (lv_at hl 13 rfl) ?_
  refine sp_callm (va_runV (As := [.int (gP f a 0), .int (nI r), .int (nI c9)]) (rest := []) ⟨hx, hb, hml, hown, hts⟩ (k_canMove l D ad cy pm rj σ xq hst _ hA.1 hbr hB hk (cell_in hr hc9)) (cwV 3 hts gL_law_X9_canMove rfl rfl rfl (by decide +kernel) ⟨Nat.le_of_ble_eq_true rfl, Nat.le_of_ble_eq_true rfl⟩) (sp_preVmx hK hP (lwEX hE0 hA hS) (κ := 429) (by decide) cE_sp rfl) rfl rfl hl.1 rfl (lv_room (Nat.le_of_ble_eq_true rfl)) dL_law_1285 ⟨by show _ ≤ 752875; omega, by show _ ≤ 6835470; omega⟩) hS (fun q _ h => lwAd hA hS q h) (fun q h => lwAd hA hS q h) (fun H locs hP hle hfr hS => ?_)
  refine W.eq (g2 := F0 m 1288 ls [.int (b2i (m_may f n a (nI r) (nI c9)))]) rfl ?_
  refine W.eq (g2 := F0 m 1288 ls [.int (1)]) (by rw [hmv]; rfl) ?_
  refine lv_if_eq (tgt := 1315) hx hb dL_law_1288 (by decide) (fun c_1 => absurd c_1 (by decide)) (fun c_1 => ?_)
  refine lv_iload hx hb dL_law_1291 (lv_at hl 0 rfl) ?_
  refine lv_iload hx hb dL_law_1293 (lv_at hl 11 rfl) ?_
  refine lv_icmp_lt (tgt := 1301) hx hb dL_law_1295 (by decide) (fun c_2 => ?_) (fun c_2 => absurd (nI_lt hpr hl9) c_2)
  refine lv_iload hx hb dL_law_1301 (lv_at hl 0 rfl) ?_
  refine lv_istore (lv' := [(13, .int (nI (10 * e9 + dd))), (17, .int (nI (10 * e9 + dd))), (0, .ref b), (1, .ref (ad (429))), (2, .int (nI T9)), (3, .int (nI t)), (4, .int (nI n)), (7, .int (f 4)), (9, .int (gP f a 0)), (10, .int (nI R)), (11, .int (nI C)), (12, .int v12), (14, .int (nI r)), (15, .int (nI c9)), (16, .int (nI dd))]) hx hb dL_law_1303 hl (by decide) rfl (fun ls hl => ?_)
  refine lv_bipush (v := 20) hx hb dL_law_1305 (by decide) ?_
  refine lv_iload hx hb dL_law_1307 (lv_at hl 12 rfl) ?_
  refine lv_imul hx hb dL_law_1309 ?_
  refine lv_iload hx hb dL_law_1310 (lv_at hl 13 rfl) ?_
  refine lv_iadd hx hb dL_law_1312 ?_
  refine W.eq (g2 := F0 m 1313 ls [.int (nI (20 * r + c9))]) (by rw [show (20 : Int32) * nI r + nI c9 = nI (20 * r + c9) from nI_addE (a := 20 * r) (nI_mulE (a := 20) rfl rfl) rfl]) ?_
  refine lv_istore (lv' := [(12, .int (nI (20 * r + c9))), (13, .int (nI (10 * e9 + dd))), (17, .int (nI (10 * e9 + dd))), (0, .ref b), (1, .ref (ad (429))), (2, .int (nI T9)), (3, .int (nI t)), (4, .int (nI n)), (7, .int (f 4)), (9, .int (gP f a 0)), (10, .int (nI R)), (11, .int (nI C)), (14, .int (nI r)), (15, .int (nI c9)), (16, .int (nI dd))]) hx hb dL_law_1313 hl (by decide) rfl (fun ls hl => ?_)
  refine lv_iinc (v := nI (c9 + 1)) (lv' := [(15, .int (nI (c9 + 1))), (12, .int (nI (20 * r + c9))), (13, .int (nI (10 * e9 + dd))), (17, .int (nI (10 * e9 + dd))), (0, .ref b), (1, .ref (ad (429))), (2, .int (nI T9)), (3, .int (nI t)), (4, .int (nI n)), (7, .int (f 4)), (9, .int (gP f a 0)), (10, .int (nI R)), (11, .int (nI C)), (14, .int (nI r)), (16, .int (nI dd))]) hx hb dL_law_1315 hl (k := 13) rfl (nI_1 _) (by decide) rfl (fun ls hl => ?_)
  refine lv_goto (tgt := 1178) hx hb dL_law_1318 (by decide) ?_
  refine W.widen (k := cells + 6) (n := slots + 30) (by omega) (by omega) ?_
  exact kk _ _ _ hP hS (lv_sub hl [4, 5, 6, 7, 8, 9, 10, 11, 12, 1, 2, 13, 0] rfl)
end LSS
