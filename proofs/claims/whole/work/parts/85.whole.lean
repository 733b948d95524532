/-! FROM THE ENTRY TO THE LOOP -/
set_option maxHeartbeats 4000000 in
set_option maxRecDepth 100000 in
theorem whole_start {p : Program} {e : Env} {s : State} {m : MethodId} {below : List Frame} {meth : Method} {c : Code} (l : Launch) (hflags : l.flags = flags0) {b L : Nat} {xs : Nat → Int32} (hL : L ≤ 3584) (C0 : lw_At p s m meth c b L xs) : W p l e room_1 s m #[Value.ref b] below meth c s.heap [] 0 0 (lw_Z below #[Value.ref b] s) (entryFrame m ([Value.ref b] : List Value).toArray 9) := by
  obtain ⟨hx, hb, hr, hml, hown, hts0, hX, hbl, hlocks, hgv⟩ := id C0
  have hst : l.stackTraces = false := by unfold Launch.stackTraces; rw [hflags]; decide +kernel
  have hts : ∀ w ∈ wsL_law, w.before #[Value.ref b] s = true := fun w h => hts0 w (wsL_law_in w h)
  have hd0 := Drawn.sameBut.refl s.drawn lw_cs
  obtain ⟨dC, dI, hC⟩ := ls_C hts0
  obtain ⟨cy, hK⟩ := ls_A (D := (dC, dI)) hts0 hC
  obtain ⟨cl, pl, rl⟩ := ls_pa (ty := .long) (hts0 _ (List.mem_of_getElem? (i := 1955) (by decide +kernel)))
  obtain ⟨cd, pd, rd⟩ := ls_pa (ty := .double) (hts0 _ (List.mem_of_getElem? (i := 1956) (by decide +kernel)))
  have hK2 : va_K (dC, dI) vwCl (tyL cy cl cd) s := hK.app ⟨hK.1, fun k q hq => by
    match k, hq with
    | 0, hq => cases hq; exact ⟨pl, rl⟩
    | 1, hq => cases hq; exact ⟨pd, rd⟩
    | k + 2, hq => exact (ls_none (n := 2) rfl hq).elim⟩
  obtain ⟨xq, hE⟩ := ls_EX hts0 hgv
  have hNC : NC s := ls_NC hgv
  have hIX := ls_I hts0
  have hS : va_S (fun q : Nat => s.heap.size ≤ q) s.heap s.heap [] := va_S.rf
  have E0 : LE p l s m c #[Value.ref b] b L xs (dC, dI) cy cl cd xq := ⟨hx, hb, hml, hown, hts, hX, hbl, hst, hK2, hE, hNC⟩
  have hl := lv_entry ([.ref b]) (n := 9) (Nat.le_of_ble_eq_true rfl)
  refine W.eq (lg_entry_eq _ ([.ref b]) _) ?_
  generalize (lg_sl ([.ref b]) ++ List.replicate (9 - (lg_sl ([.ref b])).length) Slot.unset).toArray = ls at hl ⊢
  have hl : lv_has ls 9 [(0, .ref b)] := hl
  refine sp_new (D := (dC, dI)) (tys := tyG cy) (ci := 11) (C := RX9) (T := TX9) (N := 10) (fs := [.null, .null, .null, .null, .null, .int 0, .null, .null, .null, .int 0]) hx hb hts0 inX9 tyX9 tyX9_ok hown (hts0 _ (List.mem_of_getElem? (i := 92) (by decide +kernel))) (hts0 _ (List.mem_of_getElem? (i := 93) (by decide +kernel))) (hts0 _ (List.mem_of_getElem? (i := 66) (by decide +kernel))) hK hS rfl (fun j hj => by rcases (show j = 0 ∨ j = 1 ∨ j = 2 ∨ j = 3 ∨ j = 4 ∨ j = 5 ∨ j = 6 ∨ j = 7 ∨ j = 8 ∨ j = 9 by omega) with rfl | rfl | rfl | rfl | rfl | rfl | rfl | rfl | rfl | rfl <;> rfl) (Nat.le_of_ble_eq_true rfl) (Nat.le_of_ble_eq_true rfl) dL_law_0 (fun q1 H1 hq1 hz1 hk1 hat1 hS1 => ?_)
  refine lv_dup hx hb dL_law_3 rfl ?_
  refine lw_i9 (q := q1) (va_runI (As := []) (rest := [.ref q1]) ⟨hx, hb, hml, hown, hts⟩ (c_X9_init l (dC, dI) cy q1 _) (cwI 0 hts gL_law_X9_init rfl rfl rfl (hts0 _ (List.mem_of_getElem? (i := 66) (by decide +kernel))) (hts0 _ (List.mem_of_getElem? (i := 94) (by decide +kernel))) (hts0 _ (List.mem_of_getElem? (i := 95) (by decide +kernel))) rfl (by decide +kernel) ⟨Nat.le_of_ble_eq_true rfl, Nat.le_of_ble_eq_true rfl⟩) ⟨iB_blind, fun U hU hW => ⟨rfl, by rw [hU], by rw [hU]; exact hat1, va_K.moved hW.alike hK, hIX.warm hW⟩⟩ rfl rfl hl.1 rfl (lv_room (Nat.le_of_ble_eq_true rfl)) dL_law_4 ⟨Nat.le_of_ble_eq_true rfl, Nat.le_of_ble_eq_true rfl⟩) hS1 (by omega) (fun H2 locs2 ad hia ha9 had hPc hk2 hz2 hS2 => ?_)
  refine W.eq (g2 := F0 m 7 ls [.ref q1]) rfl ?_
  refine lv_astore_n (lv' := [(1, .ref q1), (0, .ref b)]) hx hb dL_law_7 rfl hl (by decide) rfl (fun ls hl => ?_)
  refine sp_new (D := (dC, dI)) (tys := tyG cy) (ci := 12) (C := RX10) (T := TX10) (N := 18) (fs := [.int 0, .null, .int 0, .int 0, .int 0, .int 0, .int 0, .int 0, .int 0, .null, .int 0, .null, .int 0, .int 0, .int 0, .int 0, .null, .int 0]) hx hb hts0 inX10 tyX10 tyX10_ok hown (hts0 _ (List.mem_of_getElem? (i := 1442) (by decide +kernel))) (hts0 _ (List.mem_of_getElem? (i := 1443) (by decide +kernel))) (hts0 _ (List.mem_of_getElem? (i := 75) (by decide +kernel))) hK hS2 rfl (fun j hj => by rcases (show j = 0 ∨ j = 1 ∨ j = 2 ∨ j = 3 ∨ j = 4 ∨ j = 5 ∨ j = 6 ∨ j = 7 ∨ j = 8 ∨ j = 9 ∨ j = 10 ∨ j = 11 ∨ j = 12 ∨ j = 13 ∨ j = 14 ∨ j = 15 ∨ j = 16 ∨ j = 17 by omega) with rfl | rfl | rfl | rfl | rfl | rfl | rfl | rfl | rfl | rfl | rfl | rfl | rfl | rfl | rfl | rfl | rfl | rfl <;> rfl) (Nat.le_of_ble_eq_true rfl) (Nat.le_of_ble_eq_true rfl) dL_law_8 (fun q2 H3 hq2 hz3 hk3 hat3 hS3 => ?_)
  refine lv_dup hx hb dL_law_11 rfl ?_
  refine lw_i10 (q := q2) (va_runI (As := []) (rest := [.ref q2]) ⟨hx, hb, hml, hown, hts⟩ (c_X10_init l (dC, dI) cy q2 _) (cwI 0 hts gL_law_X10_init rfl rfl rfl (hts0 _ (List.mem_of_getElem? (i := 75) (by decide +kernel))) (hts0 _ (List.mem_of_getElem? (i := 1444) (by decide +kernel))) (hts0 _ (List.mem_of_getElem? (i := 1445) (by decide +kernel))) rfl (by decide +kernel) ⟨Nat.le_of_ble_eq_true rfl, Nat.le_of_ble_eq_true rfl⟩) ⟨iB_blind, fun U hU hW => ⟨rfl, by rw [hU], by rw [hU]; exact hat3, va_K.moved hW.alike hK, hIX.warm hW⟩⟩ rfl rfl hl.1 rfl (lv_room (Nat.le_of_ble_eq_true rfl)) dL_law_12 ⟨Nat.le_of_ble_eq_true rfl, Nat.le_of_ble_eq_true rfl⟩) hS3 (by omega) (fun H4 locs4 am hia2 ha0 ham hPm hk4 hz4 hS4 => ?_)
  refine W.eq (g2 := F0 m 15 ls [.ref q2]) rfl ?_
  refine lv_astore_n (lv' := [(2, .ref q2), (1, .ref q1), (0, .ref b)]) hx hb dL_law_15 rfl hl (by decide) rfl (fun ls hl => ?_)
  have hP3 := sp_P_ext hPc hk3
  have hlt : ∀ k, k < 459 → ad k < H2.size := fun k hk => (sp_P_at hPc hk).lt
  have hP4 : va_P (dC, dI) vwCl (cW ad cy (fun j => j + 1) none o0) H4 := sp_P_kept hP3 fun k hk => hk4 _ (sp_P_at hP3 hk).lt (by have := hlt k hk; omega)
  have hlt2 : ∀ j, j < 5 → am j < H4.size := fun j hj => (sp_P_at hPm hj).lt
  refine lv_iconst (v := 1) hx hb dL_law_16 (by decide) ?_
  refine va_newaK (atype := .long) (N := 1) hx hb (hts0 _ (List.mem_of_getElem? (i := 1955) (by decide +kernel))) rfl dL_law_17 rfl (by decide) rfl (Nat.le_of_ble_eq_true rfl) (Nat.le_of_ble_eq_true rfl) (Nat.le_of_ble_eq_true rfl) rfl (fun H5 c5 e5 z5 o5 a5 n5 => ?_)
  have cc5 : c5 = cl := Option.some.inj (n5.symm.trans rl)
  have hA5 : va_at (dC, dI) vwCl (H4.size, eL cl (fun _ => 0)) H5 := by
    show H5[H4.size]? = some (vp_cell _ _)
    rw [← cc5]; exact e5
  have hS5 : va_S (fun q : Nat => s.heap.size ≤ q) s.heap H5 locs4 := ⟨Nat.le_trans hS4.1 (by omega), fun y h1 h2 => (o5 y (Nat.lt_of_lt_of_le h1 hS4.1)).trans (hS4.2.1 y h1 h2), hS4.2.2⟩
  refine W.eq (g2 := F0 m 19 ls [.ref H4.size]) rfl ?_
  refine lv_astore_n (lv' := [(3, .ref H4.size), (2, .ref q2), (1, .ref q1), (0, .ref b)]) hx hb dL_law_19 rfl hl (by decide) rfl (fun ls hl => ?_)
  refine lv_iconst (v := 1) hx hb dL_law_20 (by decide) ?_
  refine va_newaK (atype := .double) (N := 1) hx hb (hts0 _ (List.mem_of_getElem? (i := 1956) (by decide +kernel))) rfl dL_law_21 rfl (by decide) rfl (Nat.le_of_ble_eq_true rfl) (Nat.le_of_ble_eq_true rfl) (Nat.le_of_ble_eq_true rfl) rfl (fun H6 c6 e6 z6 o6 a6 n6 => ?_)
  have cc6 : c6 = cd := Option.some.inj (n6.symm.trans rd)
  have hA6 : va_at (dC, dI) vwCl (H5.size, eD cd (fun _ => 0)) H6 := by
    show H6[H5.size]? = some (vp_cell _ _)
    rw [← cc6]; exact e6
  have hS6 : va_S (fun q : Nat => s.heap.size ≤ q) s.heap H6 locs4 := ⟨Nat.le_trans hS5.1 (by omega), fun y h1 h2 => (o6 y (Nat.lt_of_lt_of_le h1 hS5.1)).trans (hS5.2.1 y h1 h2), hS5.2.2⟩
  refine W.eq (g2 := F0 m 23 ls [.ref H5.size]) rfl ?_
  refine lv_astore (lv' := [(4, .ref H5.size), (3, .ref H4.size), (2, .ref q2), (1, .ref q1), (0, .ref b)]) hx hb dL_law_23 hl (by decide) rfl (fun ls hl => ?_)
  refine lv_iconst (v := nI (7 * 0)) hx hb dL_law_25 (by decide) ?_
  refine lv_istore (lv' := [(5, .int (nI (7 * 0))), (4, .ref H5.size), (3, .ref H4.size), (2, .ref q2), (1, .ref q1), (0, .ref b)]) hx hb dL_law_26 hl (by decide) rfl (fun ls hl => ?_)
  have hl9 : lv_has ls 9 [(0, .ref b), (1, .ref (ad 429)), (2, .ref (am 0)), (3, .ref H4.size), (4, .ref H5.size), (5, .int (nI (7 * 0)))] := by
    rw [ha9, ha0]; exact lv_sub hl [5, 4, 3, 2, 1, 0] rfl
  have hLA : LA s.heap.size ad am H4.size H5.size := by
    have g1 := hS2.1
    refine ⟨hia, hia2, fun k j hk hj h9 => ?_, fun k hk => ⟨fun h9 => ?_, fun h9 => ?_⟩, fun j hj => ⟨fun h9 => ?_, fun h9 => ?_⟩, by omega, fun k hk => ?_, fun j hj => ?_, by omega, by omega⟩
    · have := hlt k hk
      rcases ham j hj with h | h <;> omega
    · have := hlt k hk; omega
    · have := hlt k hk; omega
    · have := hlt2 j hj; omega
    · have := hlt2 j hj; omega
    · rcases had k hk with h | h <;> omega
    · rcases ham j hj with h | h <;> omega
  have hW : LW s.heap.size (dC, dI) cy ad am H4.size H5.size (fun j => j + 1) none none o0 n0 (eL cl (fun _ => 0)) (eD cd (fun _ => 0)) H6 :=
    ⟨hLA, sp_P_ext (sp_P_ext hP4 o5) (fun q h => o6 q h), sp_P_ext (sp_P_ext hPm o5) (fun q h => o6 q h), hA5.kept (o6 _ (by show H4.size < H5.size; omega)), hA6, rfl⟩
  refine W.widen (k := 466 + 60 * 0) (n := 8097 + 240 * 0) (Nat.le_of_ble_eq_true rfl) (Nat.le_of_ble_eq_true rfl) ?_
  refine law_loop hL E0 (fun H locs cells slots ls hS h1 h2 => ?_) (L + 1) 0 (by omega) (Nat.zero_le L) H6 locs4 ls (fun j => j + 1) none none o0 n0 (fun _ => 0) (fun _ => 0) 1 hW rr_0 (Nat.le_refl 1) hS6 hl9
  refine lv_iconst (v := 1) hx hb dL_law_3623 (by decide) ?_
  refine va_forget (fun q hq => hS.2.2 q hq) ?_
  refine W.widen (k := 606307) (n := 7176832) h1 h2 ?_
  exact W.base (lw_ret hd0 hx hb hr hlocks dL_law_3624)
