/-! FROM THE ENTRY TO THE TURNS -/
set_option maxHeartbeats 4000000 in
set_option maxRecDepth 100000 in
theorem whole_start {p : Program} {e : Env} {s : State} {m : MethodId} {below : List Frame} {meth : Method} {c : Code} (l : Launch) (hflags : l.flags = flags0) {b L : Nat} {xs : Nat → Int32} (hL : L ≤ 260) (C0 : lw_At p s m meth c b L xs) : W p l e room_1 s m #[Value.ref b] below meth c s.heap [] 0 0 (lw_Z below #[Value.ref b] s) (entryFrame m ([Value.ref b] : List Value).toArray 21) := by
  obtain ⟨hx, hb, hr, hml, hown, hts0, hX, hbl, hlocks, hgv⟩ := id C0
  have hst : l.stackTraces = false := by unfold Launch.stackTraces; rw [hflags]; decide +kernel
  have hts : ∀ w ∈ wsL_law, w.before #[Value.ref b] s = true := wsL_law_hold hts0
  have hd0 := Drawn.sameBut.refl s.drawn lw_cs
  obtain ⟨dC, dI, hC⟩ := ls_C hts0
  obtain ⟨cy, hK⟩ := ls_A (D := (dC, dI)) hts0 hC
  obtain ⟨xq, hE⟩ := ls_EX hts0 hgv
  have hIX := ls_I hts0
  have hS : va_S (fun q : Nat => s.heap.size ≤ q) s.heap s.heap [] := va_S.rf
  have E0 : LE p l s m c #[Value.ref b] b L xs (dC, dI) cy xq := ⟨hx, hb, hml, hown, hts, hts0, hX, hbl, hst, hK, hE, hL⟩
  have hl := lv_entry ([.ref b]) (n := 21) (Nat.le_of_ble_eq_true rfl)
  refine W.eq (lg_entry_eq _ ([.ref b]) _) ?_
  generalize (lg_sl ([.ref b]) ++ List.replicate (21 - (lg_sl ([.ref b])).length) Slot.unset).toArray = ls at hl ⊢
  have hl : lv_has ls 21 [(0, .ref b)] := hl
  refine sp_new (D := (dC, dI)) (tys := tyG cy) (ci := 12) (C := RX9) (T := TX9) (N := 10) (fs := [.null, .null, .null, .null, .null, .int 0, .null, .null, .null, .int 0]) hx hb hts0 inX9 tyX9 tyX9_ok hown (hts0 _ (List.mem_of_getElem? (i := 44) (by decide +kernel))) (hts0 _ (List.mem_of_getElem? (i := 45) (by decide +kernel))) (hts0 _ (List.mem_of_getElem? (i := 13) (by decide +kernel))) hK hS rfl (fun j hj => by rcases (show j = 0 ∨ j = 1 ∨ j = 2 ∨ j = 3 ∨ j = 4 ∨ j = 5 ∨ j = 6 ∨ j = 7 ∨ j = 8 ∨ j = 9 by omega) with rfl | rfl | rfl | rfl | rfl | rfl | rfl | rfl | rfl | rfl <;> rfl) (Nat.le_of_ble_eq_true rfl) (Nat.le_of_ble_eq_true rfl) dL_law_0 (fun q1 H1 hq1 hz1 hk1 hat1 hS1 => ?_)
  refine lv_dup hx hb dL_law_3 rfl ?_
  refine lw_i9 (q := q1) (va_runI (As := []) (rest := [.ref q1]) ⟨hx, hb, hml, hown, hts⟩ (c_X9_init l (dC, dI) cy q1 _) (cwI 0 hts gL_law_X9_init rfl rfl rfl (hts0 _ (List.mem_of_getElem? (i := 13) (by decide +kernel))) (hts0 _ (List.mem_of_getElem? (i := 46) (by decide +kernel))) (hts0 _ (List.mem_of_getElem? (i := 47) (by decide +kernel))) rfl (by decide +kernel) ⟨Nat.le_of_ble_eq_true rfl, Nat.le_of_ble_eq_true rfl⟩) ⟨iB_blind, fun U hU hW => ⟨rfl, by rw [hU], by rw [hU]; exact hat1, va_K.moved hW.alike hK, hIX.warm hW⟩⟩ rfl rfl hl.1 rfl (lv_room (Nat.le_of_ble_eq_true rfl)) dL_law_4 ⟨Nat.le_of_ble_eq_true rfl, Nat.le_of_ble_eq_true rfl⟩) hS1 (by omega) (fun H2 locs2 ad hia ha9 had hP hk2 hz2 hS2 => ?_)
  refine W.eq (g2 := F0 m 7 ls [.ref q1]) rfl ?_
  refine lv_astore_n (lv' := [(1, .ref q1), (0, .ref b)]) hx hb dL_law_7 rfl hl (by decide) rfl (fun ls hl => ?_)
  have g1 := hS1.1
  have hA : LA9 s.heap.size ad := ⟨hia, fun k hk => by rcases had k hk with h | h <;> omega⟩
  have hnb : ∀ k, k < 459 → ad k ≠ b := fun k hk h => by have := hA.2 k hk; omega
  have hbA : ¬ (fun q : Nat => s.heap.size ≤ q) b := Nat.not_le.mpr hbl
  have hl : lv_has ls 21 [(0, .ref b), (1, .ref (ad (429)))] := by rw [ha9]; exact lv_sub hl [1, 0] rfl
  have hS := hS2
  refine lv_aload_n hx hb dL_law_8 rfl (lv_at hl 1 rfl) ?_
  refine lv_aload_n hx hb dL_law_9 rfl (lv_at hl 0 rfl) ?_
  refine t_call (va_runS (As := [.ref (ad (429)), .ref b]) (rest := []) ⟨hx, hb, hml, hown, hts⟩ (k_L_build l (dC, dI) ad cy (fun j => j + 1) none o0 xq hst _ hA.1 (B := 1) ⟨none, n0, rr_0⟩ (by omega) b L xs (by omega)) (va_cwS 2 hts gL_law_L_build rfl rfl rfl (by decide +kernel) ⟨Nat.le_of_ble_eq_true rfl, Nat.le_of_ble_eq_true rfl⟩) (bPre hK hP (lwEX hE hA hS) hX hbl hbA hS hnb) rfl rfl hl.1 rfl (lv_room (Nat.le_of_ble_eq_true rfl)) dL_law_10 ⟨Nat.le_of_ble_eq_true rfl, Nat.le_of_ble_eq_true rfl⟩) hS (fun q _ h => lwAd hA hS q h) (fun q h => lwAd hA hS q h) (fun vr H3 locs3 hBv hle hfr hS => ?_)
  obtain ⟨pm, rj, σ, rfl, hG, hP⟩ := hBv
  refine W.eq (g2 := F0 m 13 ls []) rfl ?_
  refine lv_iconst (v := 0) hx hb dL_law_13 (by decide) ?_
  refine W.eq (g2 := F0 m 14 ls [.int (nI 0)]) rfl ?_
  refine lv_istore_n (lv' := [(2, .int (nI 0)), (0, .ref b), (1, .ref (ad (429)))]) hx hb dL_law_14 rfl hl (by decide) rfl (fun ls hl => ?_)
  refine W.widen (k := 2000 + 40000 * 0) (n := 10000 + 900000 * 0) (Nat.le_of_ble_eq_true rfl) (Nat.le_of_ble_eq_true rfl) ?_
  refine turn_loop (c0 := 2000) (s0 := 10000) E0 hA hL (by decide) (by decide) (fun H locs cells slots ls hS h1 h2 => ?_) 4 0 (by decide) (by decide) H3 locs3 ls pm rj σ hG hP hS (lv_sub hl [1, 2, 0] rfl)
  refine lv_iconst (v := 1) hx hb dL_law_1357 (by decide) ?_
  refine va_forget (fun q hq => hS.2.2 q hq) ?_
  refine W.widen (k := 752875) (n := 6835470) h1 h2 ?_
  exact W.base (lw_ret hd0 hx hb hr hlocks dL_law_1358)
