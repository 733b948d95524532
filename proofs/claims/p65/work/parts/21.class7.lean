/-! the calls' outcomes -/
def atO {α : Type} (x : Option Nat) (d : α) (f : Nat → α) : α := match x with
  | none => d
  | some k => f k
def f_xNo (x : Option Nat) : XO := match x with
  | none => some (eIOO, none)
  | some _ => none
def f_xTrack (σ : Nat → Nat → Int32) (id : Int32) : XO := f_xNo (f_findTrack σ id)
def f_xPrint (σ : Nat → Nat → Int32) (id : Int32) : XO := f_xNo (f_findPrint σ id)
def f_xCell (r c1 : Int32) : XO := if f_isCell r c1 = true then none else some (eIOO, none)
def f_xRow (r : Int32) : XO := if f_isRow r = true then none else some (eIOO, none)
def f_xLevel (v : Int32) : XO := if f_in 0 8 v = true then none else some (eIAE, none)
def f_xIn (b : Bool) : XO := if b = true then none else some (eIAE, none)
def f_xIs (b : Bool) : XO := if b = true then some (eISE, none) else none
def f_xOut (b : Bool) : XO := if b = true then none else some (eIOO, none)
def f_xFound (x : Option Nat) : XO := match x with
  | none => some (eNSE, none)
  | some _ => none
def f_xRej (x : Option (Int32 × Int32)) : XO := match x with
  | none => none
  | some y => some (eUOE, some (y.1, y.2, none))
def P_tbe (σ : Nat → Nat → Int32) (q : Int32) (i : Nat) : Bool := σ (3 + i) 0 != 0 && f_aheadT σ i == q
def P_pbd (σ : Nat → Nat → Int32) (q : Int32) (i : Nat) : Bool := σ (9 + i) 0 != 0 && f_aheadP σ i == q
def f_push (σ : Nat → Nat → Int32) (pm : Nat → Nat) (b : Nat) : Nat → Nat → Int32 := sp_st (f_copyB σ (pm 7) b) 431 1 (imin (σ 431 1 + 1) 8)
def f_pop (σ : Nat → Nat → Int32) (pm : Nat → Nat) : Nat → Nat → Int32 := sp_st (f_copyB σ 0 (pm 0)) 431 1 (imax (σ 431 1 - 1) 0)
theorem f_signO_cz (σ : Nat → Nat → Int32) (i : Int32) : cz (f_signO σ i) = f_signO σ i := by
  unfold f_signO
  by_cases h : f_reachO σ i = true
  · rw [if_pos h, cz_cz]
  · rw [if_neg h]; decide
theorem nar_cz {v : Int32} (h : cz v = v) : narrow .char (.int v) = .int v := (charp_of h).1
theorem wi_X9_requireTrack_X9 : ∀ w ∈ wsX90, w ∈ wsX9_requireTrack := by decide +kernel
set_option maxHeartbeats 4000000 in
set_option maxRecDepth 100000 in
theorem c_X9_requireTrack (l : Launch) (D : va_G) (ad : Nat → Nat) (cy : Nat → ClassId) (pm : Nat → Nat) (rj : Option Nat) (σ : Nat → Nat → Int32) (xq : Nat → Nat) (hst : l.stackTraces = false) (sz : Nat) (hi : sp_inj ad 459) (id : Int32) : vx_Met l yX9_requireTrack wsX9_requireTrack ({ frames := 6, cells := 1, slots := 6, locals := 90 } : Room) (sp_Pmx xq ad 459 D (tyG cy) sz [.ref (ad (429)), .int (id)] (cW ad cy pm rj σ)) (sp_QT (f_xTrack σ id) D (some (va_rf ((f_findTrack σ id).map (fun i => ad (3 + i))))) (cW ad cy (pm) (rj) (σ)) (sp_A ad 459 sz)) (sp_XT (f_xTrack σ id) (sp_B D ad cy (pm) (σ) sz rj) (sp_A ad 459 sz)) 1 6 (sp_A ad 459 sz) := by
  refine vx_ofW (cc := cX9_requireTrack) (maxL := 3) (ret := (some (.object "SandProofreader$Track"))) (by decide) rfl ?_
  intro p e s m args below meth c s₁ B hml ht hv
  obtain ⟨rfl, hsz, hP, hK, hE⟩ := hv
  have hx := B.exec
  have hb := B.bytes
  have hr := B.returns
  have hts := atoms_spec (ws := wsX9_requireTrack) B.pre
  have hown : s.vm.findClass RX9 = some m.cls := findClass_of_methodNamed B.named
  have hlocks := B.notSynchronized
  subst hsz
  have hlt0 : ∀ k, k < 459 → ad k < s.heap.size := fun k hk => (sp_P_at hP hk).lt
  have hS : va_S (sp_A ad 459 s.heap.size) s.heap s.heap [] := va_S.rf
  have hAk : ∀ k, k < 459 → (sp_A ad 459 s.heap.size) (ad k) := fun k hk => Or.inl ⟨k, hk, rfl⟩
  skip
  have hl := lv_entry ([.ref (ad (429)), .int (id)]) (n := 3) (Nat.le_of_ble_eq_true rfl)
  refine W.eq (lg_entry_eq _ ([.ref (ad (429)), .int (id)]) _) ?_
  generalize (lg_sl ([.ref (ad (429)), .int (id)]) ++ List.replicate (3 - (lg_sl ([.ref (ad (429)), .int (id)])).length) Slot.unset).toArray = ls at hl ⊢
  have hl : lv_has ls 3 [(0, .ref (ad (429))), (1, .int (id))] := hl
  refine lv_aload_n hx hb dX9_requireTrack_0 rfl (lv_at hl 0 rfl) ?_
  refine sp_get hx hb hts wi_X9_requireTrack_X9 hown hK hP (κ := 429) (by decide) cE_sp rfl 0 (by decide) (hts _ (List.mem_of_getElem? (i := 3) rfl)) (fun _ h => h) rfl dX9_requireTrack_1 ?_
  refine lv_iload_n hx hb dX9_requireTrack_4 rfl (lv_at hl 1 rfl) ?_
  refine sp_call (W.runV (As := [.int (id)]) (rest := []) ⟨hx, hb, hml, hown, hts⟩ (c_X0_findTrack l D ad cy pm rj σ id) (cwV 1 hts gX9_requireTrack_X0_findTrack rfl rfl rfl (by decide +kernel) ⟨Nat.le_of_ble_eq_true rfl, Nat.le_of_ble_eq_true rfl⟩) (sp_preV hK hP (κ := 0) (by omega) (cE_beach (by omega) (by omega)) rfl) rfl rfl hl.1 rfl (lv_room (Nat.le_of_ble_eq_true rfl)) dX9_requireTrack_5 ⟨Nat.le_of_ble_eq_true rfl, Nat.le_of_ble_eq_true rfl⟩) ?_
  rcases opt_em (f_findTrack σ id) with q_1 | ⟨j_2, q_1⟩
  · refine W.eq (g2 := F0 m 8 ls [.null]) (by rw [q_1]; rfl) ?_
    refine lv_astore_nN (lv' := [(2, .null), (0, .ref (ad (429))), (1, .int (id))]) hx hb dX9_requireTrack_8 rfl hl (by decide) rfl (fun ls hl => ?_)
    refine lv_aload_nN hx hb dX9_requireTrack_9 rfl (lv_at hl 0 rfl) ?_
    refine lv_ifnonnullN hx hb dX9_requireTrack_10 ?_
    refine vx_throwSW (names := ["java/lang/RuntimeException", "java/lang/Exception"]) (sa := xq 7) hx hb hst hown (by decide +kernel) (by decide +kernel) (hts _ (List.mem_of_getElem? (i := 1) rfl)) (hts _ (List.mem_of_getElem? (i := 2) rfl)) hE.t7 (vx_hat (fun w hw => hts w (List.mem_cons_of_mem _ (List.mem_append_right _ hw))) (by decide +kernel) (vx_c (va_Nw.use rfl hE.k0) (vx_c (va_Nw.use rfl hE.d0) (vx_c (va_Nw.use rfl hE.d1) (vx_c (va_Nw.use rfl hE.d2) vx_n))))) (by decide +kernel) hE.2.2.1 hE.2.2.2.1 hS (by rw [hml]; exact hl.1) dX9_requireTrack_13 dX9_requireTrack_16 dX9_requireTrack_17 dX9_requireTrack_20 dX9_requireTrack_23 (fun x hx => (ht x hx).elim) (Nat.le_of_ble_eq_true rfl) (by decide) (Nat.le_of_ble_eq_true rfl) (Nat.le_of_ble_eq_true rfl) hlocks (fun T9 _ h1 h2 => ⟨none, show (f_xTrack σ id : XO) = some ("java/lang/IndexOutOfBoundsException", none) from (by first | (simp [Option.or, eIOO, eIAE, eUOE, eNSE, eARE, eISE, q_1]; done) | (simp [f_xTrack, f_xNo, eIOO, eIAE, eUOE, eNSE, eARE, eISE, q_1]; done)), ⟨rj, sp_P_ext hP h2, rfl⟩, sp_SF hS h1 h2⟩) hS.2.2 (by omega) (by omega)
  · have hj_2 := f_findTrack_lt q_1
    refine W.eq (g2 := F0 m 8 ls [.ref (ad (3 + j_2))]) (by rw [q_1]; rfl) ?_
    refine lv_astore_n (lv' := [(2, .ref (ad (3 + j_2))), (0, .ref (ad (429))), (1, .int (id))]) hx hb dX9_requireTrack_8 rfl hl (by decide) rfl (fun ls hl => ?_)
    refine lv_aload_n hx hb dX9_requireTrack_9 rfl (lv_at hl 0 rfl) ?_
    refine lv_ifnonnull (tgt := 24) hx hb dX9_requireTrack_10 (by decide) ?_
    refine lv_aload_n hx hb dX9_requireTrack_24 rfl (lv_at hl 0 rfl) ?_
    refine W.widen (k := 1) (n := 6) (by omega) (by omega) ?_
    exact vx_ret (W.aret (v := .ref (ad (3 + j_2))) (rt := (.object "SandProofreader$Track")) hx hb hr (Or.inl ⟨_, rfl⟩) (Or.inr ⟨_, rfl⟩) (fun T9 hT9 _ => ⟨show (f_xTrack σ id : XO) = none from (by first | (simp [Option.or, eIOO, eIAE, eUOE, eNSE, eARE, eISE, q_1]; done) | (simp [f_xTrack, f_xNo, eIOO, eIAE, eUOE, eNSE, eARE, eISE, q_1]; done)), by rw [show f_findTrack σ id = some (j_2) from (by first | rfl | (simp [b2i, q_1]; done))]; rfl, by rw [hT9]; exact hP, hS.F hT9⟩) hS.2.2 dX9_requireTrack_25)

theorem wi_X9_requirePrint_X9 : ∀ w ∈ wsX90, w ∈ wsX9_requirePrint := by decide +kernel
set_option maxHeartbeats 4000000 in
set_option maxRecDepth 100000 in
theorem c_X9_requirePrint (l : Launch) (D : va_G) (ad : Nat → Nat) (cy : Nat → ClassId) (pm : Nat → Nat) (rj : Option Nat) (σ : Nat → Nat → Int32) (xq : Nat → Nat) (hst : l.stackTraces = false) (sz : Nat) (hi : sp_inj ad 459) (id : Int32) : vx_Met l yX9_requirePrint wsX9_requirePrint ({ frames := 6, cells := 1, slots := 6, locals := 90 } : Room) (sp_Pmx xq ad 459 D (tyG cy) sz [.ref (ad (429)), .int (id)] (cW ad cy pm rj σ)) (sp_QT (f_xPrint σ id) D (some (va_rf ((f_findPrint σ id).map (fun i => ad (9 + i))))) (cW ad cy (pm) (rj) (σ)) (sp_A ad 459 sz)) (sp_XT (f_xPrint σ id) (sp_B D ad cy (pm) (σ) sz rj) (sp_A ad 459 sz)) 1 6 (sp_A ad 459 sz) := by
  refine vx_ofW (cc := cX9_requirePrint) (maxL := 3) (ret := (some (.object "SandProofreader$Print"))) (by decide) rfl ?_
  intro p e s m args below meth c s₁ B hml ht hv
  obtain ⟨rfl, hsz, hP, hK, hE⟩ := hv
  have hx := B.exec
  have hb := B.bytes
  have hr := B.returns
  have hts := atoms_spec (ws := wsX9_requirePrint) B.pre
  have hown : s.vm.findClass RX9 = some m.cls := findClass_of_methodNamed B.named
  have hlocks := B.notSynchronized
  subst hsz
  have hlt0 : ∀ k, k < 459 → ad k < s.heap.size := fun k hk => (sp_P_at hP hk).lt
  have hS : va_S (sp_A ad 459 s.heap.size) s.heap s.heap [] := va_S.rf
  have hAk : ∀ k, k < 459 → (sp_A ad 459 s.heap.size) (ad k) := fun k hk => Or.inl ⟨k, hk, rfl⟩
  skip
  have hl := lv_entry ([.ref (ad (429)), .int (id)]) (n := 3) (Nat.le_of_ble_eq_true rfl)
  refine W.eq (lg_entry_eq _ ([.ref (ad (429)), .int (id)]) _) ?_
  generalize (lg_sl ([.ref (ad (429)), .int (id)]) ++ List.replicate (3 - (lg_sl ([.ref (ad (429)), .int (id)])).length) Slot.unset).toArray = ls at hl ⊢
  have hl : lv_has ls 3 [(0, .ref (ad (429))), (1, .int (id))] := hl
  refine lv_aload_n hx hb dX9_requirePrint_0 rfl (lv_at hl 0 rfl) ?_
  refine sp_get hx hb hts wi_X9_requirePrint_X9 hown hK hP (κ := 429) (by decide) cE_sp rfl 0 (by decide) (hts _ (List.mem_of_getElem? (i := 3) rfl)) (fun _ h => h) rfl dX9_requirePrint_1 ?_
  refine lv_iload_n hx hb dX9_requirePrint_4 rfl (lv_at hl 1 rfl) ?_
  refine sp_call (W.runV (As := [.int (id)]) (rest := []) ⟨hx, hb, hml, hown, hts⟩ (c_X0_findPrint l D ad cy pm rj σ id) (cwV 1 hts gX9_requirePrint_X0_findPrint rfl rfl rfl (by decide +kernel) ⟨Nat.le_of_ble_eq_true rfl, Nat.le_of_ble_eq_true rfl⟩) (sp_preV hK hP (κ := 0) (by omega) (cE_beach (by omega) (by omega)) rfl) rfl rfl hl.1 rfl (lv_room (Nat.le_of_ble_eq_true rfl)) dX9_requirePrint_5 ⟨Nat.le_of_ble_eq_true rfl, Nat.le_of_ble_eq_true rfl⟩) ?_
  rcases opt_em (f_findPrint σ id) with q_1 | ⟨j_2, q_1⟩
  · refine W.eq (g2 := F0 m 8 ls [.null]) (by rw [q_1]; rfl) ?_
    refine lv_astore_nN (lv' := [(2, .null), (0, .ref (ad (429))), (1, .int (id))]) hx hb dX9_requirePrint_8 rfl hl (by decide) rfl (fun ls hl => ?_)
    refine lv_aload_nN hx hb dX9_requirePrint_9 rfl (lv_at hl 0 rfl) ?_
    refine lv_ifnonnullN hx hb dX9_requirePrint_10 ?_
    refine vx_throwSW (names := ["java/lang/RuntimeException", "java/lang/Exception"]) (sa := xq 10) hx hb hst hown (by decide +kernel) (by decide +kernel) (hts _ (List.mem_of_getElem? (i := 1) rfl)) (hts _ (List.mem_of_getElem? (i := 2) rfl)) hE.t10 (vx_hat (fun w hw => hts w (List.mem_cons_of_mem _ (List.mem_append_right _ hw))) (by decide +kernel) (vx_c (va_Nw.use rfl hE.k0) (vx_c (va_Nw.use rfl hE.d0) (vx_c (va_Nw.use rfl hE.d1) (vx_c (va_Nw.use rfl hE.d2) vx_n))))) (by decide +kernel) hE.2.2.1 hE.2.2.2.1 hS (by rw [hml]; exact hl.1) dX9_requirePrint_13 dX9_requirePrint_16 dX9_requirePrint_17 dX9_requirePrint_20 dX9_requirePrint_23 (fun x hx => (ht x hx).elim) (Nat.le_of_ble_eq_true rfl) (by decide) (Nat.le_of_ble_eq_true rfl) (Nat.le_of_ble_eq_true rfl) hlocks (fun T9 _ h1 h2 => ⟨none, show (f_xPrint σ id : XO) = some ("java/lang/IndexOutOfBoundsException", none) from (by first | (simp [Option.or, eIOO, eIAE, eUOE, eNSE, eARE, eISE, q_1]; done) | (simp [f_xPrint, f_xNo, eIOO, eIAE, eUOE, eNSE, eARE, eISE, q_1]; done)), ⟨rj, sp_P_ext hP h2, rfl⟩, sp_SF hS h1 h2⟩) hS.2.2 (by omega) (by omega)
  · have hj_2 := f_findPrint_lt q_1
    refine W.eq (g2 := F0 m 8 ls [.ref (ad (9 + j_2))]) (by rw [q_1]; rfl) ?_
    refine lv_astore_n (lv' := [(2, .ref (ad (9 + j_2))), (0, .ref (ad (429))), (1, .int (id))]) hx hb dX9_requirePrint_8 rfl hl (by decide) rfl (fun ls hl => ?_)
    refine lv_aload_n hx hb dX9_requirePrint_9 rfl (lv_at hl 0 rfl) ?_
    refine lv_ifnonnull (tgt := 24) hx hb dX9_requirePrint_10 (by decide) ?_
    refine lv_aload_n hx hb dX9_requirePrint_24 rfl (lv_at hl 0 rfl) ?_
    refine W.widen (k := 1) (n := 6) (by omega) (by omega) ?_
    exact vx_ret (W.aret (v := .ref (ad (9 + j_2))) (rt := (.object "SandProofreader$Print")) hx hb hr (Or.inl ⟨_, rfl⟩) (Or.inr ⟨_, rfl⟩) (fun T9 hT9 _ => ⟨show (f_xPrint σ id : XO) = none from (by first | (simp [Option.or, eIOO, eIAE, eUOE, eNSE, eARE, eISE, q_1]; done) | (simp [f_xPrint, f_xNo, eIOO, eIAE, eUOE, eNSE, eARE, eISE, q_1]; done)), by rw [show f_findPrint σ id = some (j_2) from (by first | rfl | (simp [b2i, q_1]; done))]; rfl, by rw [hT9]; exact hP, hS.F hT9⟩) hS.2.2 dX9_requirePrint_25)

set_option maxHeartbeats 4000000 in
set_option maxRecDepth 100000 in
theorem c_X9_requireCell (l : Launch) (D : va_G) (ad : Nat → Nat) (cy : Nat → ClassId) (pm : Nat → Nat) (rj : Option Nat) (σ : Nat → Nat → Int32) (xq : Nat → Nat) (hst : l.stackTraces = false) (sz : Nat) (hi : sp_inj ad 459) (r : Int32) (c1 : Int32) : vx_Met l yX9_requireCell wsX9_requireCell ({ frames := 6, cells := 1, slots := 6, locals := 90 } : Room) (sp_Pmx xq ad 459 D (tyG cy) sz [.int (r), .int (c1)] (cW ad cy pm rj σ)) (sp_QT (f_xCell r c1) D (none) (cW ad cy (pm) (rj) (σ)) (sp_A ad 459 sz)) (sp_XT (f_xCell r c1) (sp_B D ad cy (pm) (σ) sz rj) (sp_A ad 459 sz)) 1 6 (sp_A ad 459 sz) := by
  refine vx_ofW (cc := cX9_requireCell) (maxL := 2) (ret := none) (by decide) rfl ?_
  intro p e s m args below meth c s₁ B hml ht hv
  obtain ⟨rfl, hsz, hP, hK, hE⟩ := hv
  have hx := B.exec
  have hb := B.bytes
  have hr := B.returns
  have hts := atoms_spec (ws := wsX9_requireCell) B.pre
  have hown : s.vm.findClass RX9 = some m.cls := findClass_of_methodNamed B.named
  have hlocks := B.notSynchronized
  subst hsz
  have hlt0 : ∀ k, k < 459 → ad k < s.heap.size := fun k hk => (sp_P_at hP hk).lt
  have hS : va_S (sp_A ad 459 s.heap.size) s.heap s.heap [] := va_S.rf
  have hAk : ∀ k, k < 459 → (sp_A ad 459 s.heap.size) (ad k) := fun k hk => Or.inl ⟨k, hk, rfl⟩
  skip
  have hl := lv_entry ([.int (r), .int (c1)]) (n := 2) (Nat.le_of_ble_eq_true rfl)
  refine W.eq (lg_entry_eq _ ([.int (r), .int (c1)]) _) ?_
  generalize (lg_sl ([.int (r), .int (c1)]) ++ List.replicate (2 - (lg_sl ([.int (r), .int (c1)])).length) Slot.unset).toArray = ls at hl ⊢
  have hl : lv_has ls 2 [(0, .int (r)), (1, .int (c1))] := hl
  refine lv_iload_n hx hb dX9_requireCell_0 rfl (lv_at hl 0 rfl) ?_
  refine lv_iload_n hx hb dX9_requireCell_1 rfl (lv_at hl 1 rfl) ?_
  refine sp_call (W.runS (As := [.int (r), .int (c1)]) (rest := []) ⟨hx, hb, hml, hown, hts⟩ (c_X9_isCell l D ad cy pm rj σ r c1) (va_cwS 2 hts gX9_requireCell_X9_isCell rfl rfl rfl (by decide +kernel) ⟨Nat.le_of_ble_eq_true rfl, Nat.le_of_ble_eq_true rfl⟩) (sp_preS hK hP) rfl rfl hl.1 rfl (lv_room (Nat.le_of_ble_eq_true rfl)) dX9_requireCell_2 ⟨Nat.le_of_ble_eq_true rfl, Nat.le_of_ble_eq_true rfl⟩) ?_
  refine W.eq (g2 := F0 m 5 ls [.int (b2i (f_isCell r c1))]) rfl ?_
  refine lv_if_ne (tgt := 19) hx hb dX9_requireCell_5 (by decide) (fun c_1 => ?_) (fun c_1 => ?_)
  · rw [b2i_eq0] at c_1
    refine W.widen (k := 1) (n := 6) (by omega) (by omega) ?_
    exact vx_ret (W.vret hx hb hr (fun T9 hT9 _ => ⟨show (f_xCell r c1 : XO) = none from (by first | (simp [Option.or, eIOO, eIAE, eUOE, eNSE, eARE, eISE, c_1]; done) | (simp [f_xCell, eIOO, eIAE, eUOE, eNSE, eARE, eISE, c_1]; done)), rfl, by rw [hT9]; exact hP, hS.F hT9⟩) hS.2.2 dX9_requireCell_19)
  · rw [b2i_eq0] at c_1
    refine vx_throwSW (names := ["java/lang/RuntimeException", "java/lang/Exception"]) (sa := xq 8) hx hb hst hown (by decide +kernel) (by decide +kernel) (hts _ (List.mem_of_getElem? (i := 1) rfl)) (hts _ (List.mem_of_getElem? (i := 2) rfl)) hE.t8 (vx_hat (fun w hw => hts w (List.mem_cons_of_mem _ (List.mem_append_right _ hw))) (by decide +kernel) (vx_c (va_Nw.use rfl hE.k0) (vx_c (va_Nw.use rfl hE.d0) (vx_c (va_Nw.use rfl hE.d1) (vx_c (va_Nw.use rfl hE.d2) vx_n))))) (by decide +kernel) hE.2.2.1 hE.2.2.2.1 hS (by rw [hml]; exact hl.1) dX9_requireCell_8 dX9_requireCell_11 dX9_requireCell_12 dX9_requireCell_15 dX9_requireCell_18 (fun x hx => (ht x hx).elim) (Nat.le_of_ble_eq_true rfl) (by decide) (Nat.le_of_ble_eq_true rfl) (Nat.le_of_ble_eq_true rfl) hlocks (fun T9 _ h1 h2 => ⟨none, show (f_xCell r c1 : XO) = some ("java/lang/IndexOutOfBoundsException", none) from (by first | (simp [Option.or, eIOO, eIAE, eUOE, eNSE, eARE, eISE, c_1]; done) | (simp [f_xCell, eIOO, eIAE, eUOE, eNSE, eARE, eISE, c_1]; done)), ⟨rj, sp_P_ext hP h2, rfl⟩, sp_SF hS h1 h2⟩) hS.2.2 (by omega) (by omega)

set_option maxHeartbeats 4000000 in
set_option maxRecDepth 100000 in
theorem c_X9_requireRow (l : Launch) (D : va_G) (ad : Nat → Nat) (cy : Nat → ClassId) (pm : Nat → Nat) (rj : Option Nat) (σ : Nat → Nat → Int32) (xq : Nat → Nat) (hst : l.stackTraces = false) (sz : Nat) (hi : sp_inj ad 459) (r : Int32) : vx_Met l yX9_requireRow wsX9_requireRow ({ frames := 6, cells := 1, slots := 6, locals := 90 } : Room) (sp_Pmx xq ad 459 D (tyG cy) sz [.int (r)] (cW ad cy pm rj σ)) (sp_QT (f_xRow r) D (none) (cW ad cy (pm) (rj) (σ)) (sp_A ad 459 sz)) (sp_XT (f_xRow r) (sp_B D ad cy (pm) (σ) sz rj) (sp_A ad 459 sz)) 1 6 (sp_A ad 459 sz) := by
  refine vx_ofW (cc := cX9_requireRow) (maxL := 1) (ret := none) (by decide) rfl ?_
  intro p e s m args below meth c s₁ B hml ht hv
  obtain ⟨rfl, hsz, hP, hK, hE⟩ := hv
  have hx := B.exec
  have hb := B.bytes
  have hr := B.returns
  have hts := atoms_spec (ws := wsX9_requireRow) B.pre
  have hown : s.vm.findClass RX9 = some m.cls := findClass_of_methodNamed B.named
  have hlocks := B.notSynchronized
  subst hsz
  have hlt0 : ∀ k, k < 459 → ad k < s.heap.size := fun k hk => (sp_P_at hP hk).lt
  have hS : va_S (sp_A ad 459 s.heap.size) s.heap s.heap [] := va_S.rf
  have hAk : ∀ k, k < 459 → (sp_A ad 459 s.heap.size) (ad k) := fun k hk => Or.inl ⟨k, hk, rfl⟩
  skip
  have hl := lv_entry ([.int (r)]) (n := 1) (Nat.le_of_ble_eq_true rfl)
  refine W.eq (lg_entry_eq _ ([.int (r)]) _) ?_
  generalize (lg_sl ([.int (r)]) ++ List.replicate (1 - (lg_sl ([.int (r)])).length) Slot.unset).toArray = ls at hl ⊢
  have hl : lv_has ls 1 [(0, .int (r))] := hl
  refine lv_iload_n hx hb dX9_requireRow_0 rfl (lv_at hl 0 rfl) ?_
  refine sp_call (W.runS (As := [.int (r)]) (rest := []) ⟨hx, hb, hml, hown, hts⟩ (c_X9_isRow l D ad cy pm rj σ r) (va_cwS 1 hts gX9_requireRow_X9_isRow rfl rfl rfl (by decide +kernel) ⟨Nat.le_of_ble_eq_true rfl, Nat.le_of_ble_eq_true rfl⟩) (sp_preS hK hP) rfl rfl hl.1 rfl (lv_room (Nat.le_of_ble_eq_true rfl)) dX9_requireRow_1 ⟨Nat.le_of_ble_eq_true rfl, Nat.le_of_ble_eq_true rfl⟩) ?_
  refine W.eq (g2 := F0 m 4 ls [.int (b2i (f_isRow r))]) rfl ?_
  refine lv_if_ne (tgt := 18) hx hb dX9_requireRow_4 (by decide) (fun c_1 => ?_) (fun c_1 => ?_)
  · rw [b2i_eq0] at c_1
    refine W.widen (k := 1) (n := 6) (by omega) (by omega) ?_
    exact vx_ret (W.vret hx hb hr (fun T9 hT9 _ => ⟨show (f_xRow r : XO) = none from (by first | (simp [Option.or, eIOO, eIAE, eUOE, eNSE, eARE, eISE, c_1]; done) | (simp [f_xRow, eIOO, eIAE, eUOE, eNSE, eARE, eISE, c_1]; done)), rfl, by rw [hT9]; exact hP, hS.F hT9⟩) hS.2.2 dX9_requireRow_18)
  · rw [b2i_eq0] at c_1
    refine vx_throwSW (names := ["java/lang/RuntimeException", "java/lang/Exception"]) (sa := xq 15) hx hb hst hown (by decide +kernel) (by decide +kernel) (hts _ (List.mem_of_getElem? (i := 1) rfl)) (hts _ (List.mem_of_getElem? (i := 2) rfl)) hE.t15 (vx_hat (fun w hw => hts w (List.mem_cons_of_mem _ (List.mem_append_right _ hw))) (by decide +kernel) (vx_c (va_Nw.use rfl hE.k0) (vx_c (va_Nw.use rfl hE.d0) (vx_c (va_Nw.use rfl hE.d1) (vx_c (va_Nw.use rfl hE.d2) vx_n))))) (by decide +kernel) hE.2.2.1 hE.2.2.2.1 hS (by rw [hml]; exact hl.1) dX9_requireRow_7 dX9_requireRow_10 dX9_requireRow_11 dX9_requireRow_14 dX9_requireRow_17 (fun x hx => (ht x hx).elim) (Nat.le_of_ble_eq_true rfl) (by decide) (Nat.le_of_ble_eq_true rfl) (Nat.le_of_ble_eq_true rfl) hlocks (fun T9 _ h1 h2 => ⟨none, show (f_xRow r : XO) = some ("java/lang/IndexOutOfBoundsException", none) from (by first | (simp [Option.or, eIOO, eIAE, eUOE, eNSE, eARE, eISE, c_1]; done) | (simp [f_xRow, eIOO, eIAE, eUOE, eNSE, eARE, eISE, c_1]; done)), ⟨rj, sp_P_ext hP h2, rfl⟩, sp_SF hS h1 h2⟩) hS.2.2 (by omega) (by omega)

set_option maxHeartbeats 4000000 in
set_option maxRecDepth 100000 in
theorem c_X9_requireLevel (l : Launch) (D : va_G) (ad : Nat → Nat) (cy : Nat → ClassId) (pm : Nat → Nat) (rj : Option Nat) (σ : Nat → Nat → Int32) (xq : Nat → Nat) (hst : l.stackTraces = false) (sz : Nat) (hi : sp_inj ad 459) (v : Int32) : vx_Met l yX9_requireLevel wsX9_requireLevel ({ frames := 6, cells := 1, slots := 6, locals := 90 } : Room) (sp_Pmx xq ad 459 D (tyG cy) sz [.int (v)] (cW ad cy pm rj σ)) (sp_QT (f_xLevel v) D (none) (cW ad cy (pm) (rj) (σ)) (sp_A ad 459 sz)) (sp_XT (f_xLevel v) (sp_B D ad cy (pm) (σ) sz rj) (sp_A ad 459 sz)) 1 6 (sp_A ad 459 sz) := by
  refine vx_ofW (cc := cX9_requireLevel) (maxL := 1) (ret := none) (by decide) rfl ?_
  intro p e s m args below meth c s₁ B hml ht hv
  obtain ⟨rfl, hsz, hP, hK, hE⟩ := hv
  have hx := B.exec
  have hb := B.bytes
  have hr := B.returns
  have hts := atoms_spec (ws := wsX9_requireLevel) B.pre
  have hown : s.vm.findClass RX9 = some m.cls := findClass_of_methodNamed B.named
  have hlocks := B.notSynchronized
  subst hsz
  have hlt0 : ∀ k, k < 459 → ad k < s.heap.size := fun k hk => (sp_P_at hP hk).lt
  have hS : va_S (sp_A ad 459 s.heap.size) s.heap s.heap [] := va_S.rf
  have hAk : ∀ k, k < 459 → (sp_A ad 459 s.heap.size) (ad k) := fun k hk => Or.inl ⟨k, hk, rfl⟩
  skip
  have hl := lv_entry ([.int (v)]) (n := 1) (Nat.le_of_ble_eq_true rfl)
  refine W.eq (lg_entry_eq _ ([.int (v)]) _) ?_
  generalize (lg_sl ([.int (v)]) ++ List.replicate (1 - (lg_sl ([.int (v)])).length) Slot.unset).toArray = ls at hl ⊢
  have hl : lv_has ls 1 [(0, .int (v))] := hl
  refine lv_iload_n hx hb dX9_requireLevel_0 rfl (lv_at hl 0 rfl) ?_
  refine sp_call (W.runS (As := [.int (v)]) (rest := []) ⟨hx, hb, hml, hown, hts⟩ (c_X9_isLevel l D ad cy pm rj σ v) (va_cwS 1 hts gX9_requireLevel_X9_isLevel rfl rfl rfl (by decide +kernel) ⟨Nat.le_of_ble_eq_true rfl, Nat.le_of_ble_eq_true rfl⟩) (sp_preS hK hP) rfl rfl hl.1 rfl (lv_room (Nat.le_of_ble_eq_true rfl)) dX9_requireLevel_1 ⟨Nat.le_of_ble_eq_true rfl, Nat.le_of_ble_eq_true rfl⟩) ?_
  refine W.eq (g2 := F0 m 4 ls [.int (b2i (f_in 0 8 v))]) rfl ?_
  refine lv_if_ne (tgt := 18) hx hb dX9_requireLevel_4 (by decide) (fun c_1 => ?_) (fun c_1 => ?_)
  · rw [b2i_eq0] at c_1
    refine W.widen (k := 1) (n := 6) (by omega) (by omega) ?_
    exact vx_ret (W.vret hx hb hr (fun T9 hT9 _ => ⟨show (f_xLevel v : XO) = none from (by first | (simp [Option.or, eIOO, eIAE, eUOE, eNSE, eARE, eISE, c_1]; done) | (simp [f_xLevel, eIOO, eIAE, eUOE, eNSE, eARE, eISE, c_1]; done)), rfl, by rw [hT9]; exact hP, hS.F hT9⟩) hS.2.2 dX9_requireLevel_18)
  · rw [b2i_eq0] at c_1
    refine vx_throwSW (names := ["java/lang/RuntimeException", "java/lang/Exception"]) (sa := xq 11) hx hb hst hown (by decide +kernel) (by decide +kernel) (hts _ (List.mem_of_getElem? (i := 1) rfl)) (hts _ (List.mem_of_getElem? (i := 2) rfl)) hE.t11 (vx_hat (fun w hw => hts w (List.mem_cons_of_mem _ (List.mem_append_right _ hw))) (by decide +kernel) (vx_c (va_Nw.use rfl hE.k1) (vx_c (va_Nw.use rfl hE.d0) (vx_c (va_Nw.use rfl hE.d1) (vx_c (va_Nw.use rfl hE.d2) vx_n))))) (by decide +kernel) hE.2.2.1 hE.2.2.2.1 hS (by rw [hml]; exact hl.1) dX9_requireLevel_7 dX9_requireLevel_10 dX9_requireLevel_11 dX9_requireLevel_14 dX9_requireLevel_17 (fun x hx => (ht x hx).elim) (Nat.le_of_ble_eq_true rfl) (by decide) (Nat.le_of_ble_eq_true rfl) (Nat.le_of_ble_eq_true rfl) hlocks (fun T9 _ h1 h2 => ⟨none, show (f_xLevel v : XO) = some ("java/lang/IllegalArgumentException", none) from (by first | (simp [Option.or, eIOO, eIAE, eUOE, eNSE, eARE, eISE, c_1]; done) | (simp [f_xLevel, eIOO, eIAE, eUOE, eNSE, eARE, eISE, c_1]; done)), ⟨rj, sp_P_ext hP h2, rfl⟩, sp_SF hS h1 h2⟩) hS.2.2 (by omega) (by omega)

set_option maxHeartbeats 4000000 in
set_option maxRecDepth 100000 in
theorem c_X9_requireFound (l : Launch) (D : va_G) (ad : Nat → Nat) (cy : Nat → ClassId) (pm : Nat → Nat) (rj : Option Nat) (σ : Nat → Nat → Int32) (xq : Nat → Nat) (hst : l.stackTraces = false) (sz : Nat) (hi : sp_inj ad 459) (x : Option Nat) (hx0 : ∀ j, x = some j → j < 30) : vx_Met l yX9_requireFound wsX9_requireFound ({ frames := 6, cells := 1, slots := 6, locals := 90 } : Room) (sp_Pmx xq ad 459 D (tyG cy) sz [va_rf (x.map (fun i => ad (9 + i)))] (cW ad cy pm rj σ)) (sp_QT (f_xFound x) D (some (va_rf ((x).map (fun i => ad (9 + i))))) (cW ad cy (pm) (rj) (σ)) (sp_A ad 459 sz)) (sp_XT (f_xFound x) (sp_B D ad cy (pm) (σ) sz rj) (sp_A ad 459 sz)) 1 6 (sp_A ad 459 sz) := by
  refine vx_ofW (cc := cX9_requireFound) (maxL := 1) (ret := (some (.object "SandProofreader$Print"))) (by decide) rfl ?_
  intro p e s m args below meth c s₁ B hml ht hv
  obtain ⟨rfl, hsz, hP, hK, hE⟩ := hv
  have hx := B.exec
  have hb := B.bytes
  have hr := B.returns
  have hts := atoms_spec (ws := wsX9_requireFound) B.pre
  have hown : s.vm.findClass RX9 = some m.cls := findClass_of_methodNamed B.named
  have hlocks := B.notSynchronized
  subst hsz
  have hlt0 : ∀ k, k < 459 → ad k < s.heap.size := fun k hk => (sp_P_at hP hk).lt
  have hS : va_S (sp_A ad 459 s.heap.size) s.heap s.heap [] := va_S.rf
  have hAk : ∀ k, k < 459 → (sp_A ad 459 s.heap.size) (ad k) := fun k hk => Or.inl ⟨k, hk, rfl⟩
  skip
  rcases x with _ | j
  · skip
    have hl := lv_entry ([.null]) (n := 1) (Nat.le_of_ble_eq_true rfl)
    refine W.eq (lg_entry_eq _ ([.null]) _) ?_
    generalize (lg_sl ([.null]) ++ List.replicate (1 - (lg_sl ([.null])).length) Slot.unset).toArray = ls at hl ⊢
    have hl : lv_has ls 1 [(0, .null)] := hl
    refine lv_aload_nN hx hb dX9_requireFound_0 rfl (lv_at hl 0 rfl) ?_
    refine lv_ifnonnullN hx hb dX9_requireFound_1 ?_
    refine nx_throwSW (sa := xq 12) hx hb hst hown (hts _ (List.mem_of_getElem? (i := 1) rfl)) (hts _ (List.mem_of_getElem? (i := 2) rfl)) hE.t12 (vx_hat (fun w hw => hts w (List.mem_cons_of_mem _ (List.mem_append_right _ hw))) (by decide +kernel) (vx_c (va_Nw.use rfl hE.k3) (vx_c (va_Nw.use rfl hE.d0) (vx_c (va_Nw.use rfl hE.d1) (vx_c (va_Nw.use rfl hE.d2) vx_n))))) (by decide +kernel) hE.2.2.1 hE.2.2.2.1 hS (by rw [hml]; exact hl.1) dX9_requireFound_4 dX9_requireFound_7 dX9_requireFound_8 dX9_requireFound_11 dX9_requireFound_14 (fun x hx => (ht x hx).elim) (Nat.le_of_ble_eq_true rfl) (by decide) (Nat.le_of_ble_eq_true rfl) (Nat.le_of_ble_eq_true rfl) hlocks (fun T9 _ h1 h2 => ⟨none, show (f_xFound none : XO) = some ("java/util/NoSuchElementException", none) from (by first | (simp [Option.or, eIOO, eIAE, eUOE, eNSE, eARE, eISE]; done) | (simp [f_xFound, eIOO, eIAE, eUOE, eNSE, eARE, eISE]; done)), ⟨rj, sp_P_ext hP h2, rfl⟩, sp_SF hS h1 h2⟩) hS.2.2 (by omega) (by omega)
  · skip
    have hj : j < 30 := hx0 j rfl
    have hl := lv_entry ([.ref (ad (9 + j))]) (n := 1) (Nat.le_of_ble_eq_true rfl)
    refine W.eq (lg_entry_eq _ ([.ref (ad (9 + j))]) _) ?_
    generalize (lg_sl ([.ref (ad (9 + j))]) ++ List.replicate (1 - (lg_sl ([.ref (ad (9 + j))])).length) Slot.unset).toArray = ls at hl ⊢
    have hl : lv_has ls 1 [(0, .ref (ad (9 + j)))] := hl
    refine lv_aload_n hx hb dX9_requireFound_0 rfl (lv_at hl 0 rfl) ?_
    refine lv_ifnonnull (tgt := 15) hx hb dX9_requireFound_1 (by decide) ?_
    refine lv_aload_n hx hb dX9_requireFound_15 rfl (lv_at hl 0 rfl) ?_
    refine W.widen (k := 1) (n := 6) (by omega) (by omega) ?_
    exact vx_ret (W.aret (v := .ref (ad (9 + j))) (rt := (.object "SandProofreader$Print")) hx hb hr (Or.inl ⟨_, rfl⟩) (Or.inr ⟨_, rfl⟩) (fun T9 hT9 _ => ⟨show (f_xFound (some j) : XO) = none from (by first | (simp [Option.or, eIOO, eIAE, eUOE, eNSE, eARE, eISE]; done) | (simp [f_xFound, eIOO, eIAE, eUOE, eNSE, eARE, eISE]; done)), by rw [show (some j) = some (j) from (by first | rfl | (simp [b2i]; done))]; rfl, by rw [hT9]; exact hP, hS.F hT9⟩) hS.2.2 dX9_requireFound_16)

set_option maxHeartbeats 4000000 in
set_option maxRecDepth 100000 in
theorem c_X9_rejectFor_n (l : Launch) (D : va_G) (ad : Nat → Nat) (cy : Nat → ClassId) (pm : Nat → Nat) (rj : Option Nat) (σ : Nat → Nat → Int32) (sz : Nat) (hi : sp_inj ad 459) : Met l yX9_rejectFor wsX9_rejectFor ({ frames := 6, cells := 0, slots := 0, locals := 90 } : Room) (sp_Pm D (tyG cy) sz [.ref (ad (429)), .null] (cW ad cy pm rj σ)) (sp_Q D (none) (cW ad cy (pm) (rj) (σ)) (sp_A ad 459 sz)) 0 0 (sp_A ad 459 sz) := by
  refine Met.ofW (cc := cX9_rejectFor) (maxL := 2) (ret := none) (by decide) rfl ?_
  intro p e s m args below meth c s₁ B hml hv
  obtain ⟨rfl, hsz, hP, hK⟩ := hv
  have hx := B.exec
  have hb := B.bytes
  have hr := B.returns
  have hts := atoms_spec (ws := wsX9_rejectFor) B.pre
  have hown : s.vm.findClass RX9 = some m.cls := findClass_of_methodNamed B.named
  have hlocks := B.notSynchronized
  subst hsz
  have hS : va_S (sp_A ad 459 s.heap.size) s.heap s.heap [] := va_S.rf
  have hAk : ∀ k, k < 459 → (sp_A ad 459 s.heap.size) (ad k) := fun k hk => Or.inl ⟨k, hk, rfl⟩
  skip
  have hl := lv_entry ([.ref (ad (429)), .null]) (n := 2) (Nat.le_of_ble_eq_true rfl)
  refine W.eq (lg_entry_eq _ ([.ref (ad (429)), .null]) _) ?_
  generalize (lg_sl ([.ref (ad (429)), .null]) ++ List.replicate (2 - (lg_sl ([.ref (ad (429)), .null])).length) Slot.unset).toArray = ls at hl ⊢
  have hl : lv_has ls 2 [(0, .ref (ad (429))), (1, .null)] := hl
  refine lv_aload_nN hx hb dX9_rejectFor_0 rfl (lv_at hl 1 rfl) ?_
  refine lv_ifnullN (tgt := 20) hx hb dX9_rejectFor_1 (by decide) ?_
  exact W.vret hx hb hr (fun T9 hT9 _ => ⟨rfl, by rw [hT9]; exact hP, hS.F hT9⟩) hS.2.2 dX9_rejectFor_20

theorem wi_X9_rejectFor_q_X9 : ∀ w ∈ wsX90, w ∈ wsX9_rejectFor := by decide +kernel
set_option maxHeartbeats 4000000 in
set_option maxRecDepth 100000 in
theorem c_X9_rejectFor_q (l : Launch) (D : va_G) (ad : Nat → Nat) (cy : Nat → ClassId) (pm : Nat → Nat) (rj : Option Nat) (σ : Nat → Nat → Int32) (xq : Nat → Nat) (hst : l.stackTraces = false) (sz : Nat) (hi : sp_inj ad 459) (q : Nat) : vx_Met l yX9_rejectFor wsX9_rejectFor ({ frames := 6, cells := 1, slots := 6, locals := 90 } : Room) (sp_Pmx xq ad 459 D (tyG cy) sz [.ref (ad (429)), .ref (q)] (cW ad cy pm rj σ)) (sp_QT (some (eUOE, none)) D (none) (cW ad cy (pm) (rj) (σ)) (sp_A ad 459 sz)) (sp_XT (some (eUOE, none)) (sp_B D ad cy (pm) (σ) sz (some q)) (sp_A ad 459 sz)) 1 6 (sp_A ad 459 sz) := by
  refine vx_ofW (cc := cX9_rejectFor) (maxL := 2) (ret := none) (by decide) rfl ?_
  intro p e s m args below meth c s₁ B hml ht hv
  obtain ⟨rfl, hsz, hP, hK, hE⟩ := hv
  have hx := B.exec
  have hb := B.bytes
  have hr := B.returns
  have hts := atoms_spec (ws := wsX9_rejectFor) B.pre
  have hown : s.vm.findClass RX9 = some m.cls := findClass_of_methodNamed B.named
  have hlocks := B.notSynchronized
  subst hsz
  have hlt0 : ∀ k, k < 459 → ad k < s.heap.size := fun k hk => (sp_P_at hP hk).lt
  have hS : va_S (sp_A ad 459 s.heap.size) s.heap s.heap [] := va_S.rf
  have hAk : ∀ k, k < 459 → (sp_A ad 459 s.heap.size) (ad k) := fun k hk => Or.inl ⟨k, hk, rfl⟩
  skip
  have hl := lv_entry ([.ref (ad (429)), .ref (q)]) (n := 2) (Nat.le_of_ble_eq_true rfl)
  refine W.eq (lg_entry_eq _ ([.ref (ad (429)), .ref (q)]) _) ?_
  generalize (lg_sl ([.ref (ad (429)), .ref (q)]) ++ List.replicate (2 - (lg_sl ([.ref (ad (429)), .ref (q)])).length) Slot.unset).toArray = ls at hl ⊢
  have hl : lv_has ls 2 [(0, .ref (ad (429))), (1, .ref (q))] := hl
  refine lv_aload_n hx hb dX9_rejectFor_0 rfl (lv_at hl 1 rfl) ?_
  refine lv_ifnull hx hb dX9_rejectFor_1 ?_
  refine lv_aload_n hx hb dX9_rejectFor_4 rfl (lv_at hl 0 rfl) ?_
  refine lv_aload_n hx hb dX9_rejectFor_5 rfl (lv_at hl 1 rfl) ?_
  refine sp_putrj (q := q) hx hb hts wi_X9_rejectFor_q_X9 hown hK hP hi hAk hS (hts _ (List.mem_of_getElem? (i := 3) rfl)) (fun _ h => h) dX9_rejectFor_6 (fun H locs hP hS => ?_)
  refine vx_throwSW (names := ["java/lang/RuntimeException", "java/lang/Exception"]) (sa := xq 6) hx hb hst hown (by decide +kernel) (by decide +kernel) (hts _ (List.mem_of_getElem? (i := 1) rfl)) (hts _ (List.mem_of_getElem? (i := 2) rfl)) hE.t6 (vx_hat (fun w hw => hts w (List.mem_cons_of_mem _ (List.mem_append_right _ hw))) (by decide +kernel) (vx_c (va_Nw.use rfl hE.k2) (vx_c (va_Nw.use rfl hE.d0) (vx_c (va_Nw.use rfl hE.d1) (vx_c (va_Nw.use rfl hE.d2) vx_n))))) (by decide +kernel) hE.2.2.1 hE.2.2.2.1 hS (by rw [hml]; exact hl.1) dX9_rejectFor_9 dX9_rejectFor_12 dX9_rejectFor_13 dX9_rejectFor_16 dX9_rejectFor_19 (fun x hx => (ht x hx).elim) (Nat.le_of_ble_eq_true rfl) (by decide) (Nat.le_of_ble_eq_true rfl) (Nat.le_of_ble_eq_true rfl) hlocks (fun T9 _ h1 h2 => ⟨none, show (some (eUOE, none) : XO) = some ("java/lang/UnsupportedOperationException", none) from (by first | (simp [Option.or, eIOO, eIAE, eUOE, eNSE, eARE, eISE]; done) | (simp [eIOO, eIAE, eUOE, eNSE, eARE, eISE]; done)), ⟨(some q), sp_P_ext hP h2, rfl⟩, sp_SF hS h1 h2⟩) hS.2.2 (by omega) (by omega)

theorem wi_X9_trackOf_X3 : ∀ w ∈ wsX30, w ∈ wsX9_trackOf := by decide +kernel
set_option maxHeartbeats 4000000 in
set_option maxRecDepth 100000 in
theorem c_X9_trackOf (l : Launch) (D : va_G) (ad : Nat → Nat) (cy : Nat → ClassId) (pm : Nat → Nat) (rj : Option Nat) (σ : Nat → Nat → Int32) (xq : Nat → Nat) (hst : l.stackTraces = false) (sz : Nat) (hi : sp_inj ad 459) (id : Int32) : vx_Met l yX9_trackOf wsX9_trackOf ({ frames := 7, cells := 1, slots := 6, locals := 112 } : Room) (sp_Pmx xq ad 459 D (tyG cy) sz [.ref (ad (429)), .int (id)] (cW ad cy pm rj σ)) (sp_QT (f_xPrint σ id) D (some (.int (atO (f_findPrint σ id) 0 (fun k => σ (9 + k) 2)))) (cW ad cy (pm) (rj) (σ)) (sp_A ad 459 sz)) (sp_XT (f_xPrint σ id) (sp_B D ad cy (pm) (σ) sz rj) (sp_A ad 459 sz)) 1 6 (sp_A ad 459 sz) := by
  refine vx_ofW (cc := cX9_trackOf) (maxL := 2) (ret := (some .int)) (by decide) rfl ?_
  intro p e s m args below meth c s₁ B hml ht hv
  obtain ⟨rfl, hsz, hP, hK, hE⟩ := hv
  have hx := B.exec
  have hb := B.bytes
  have hr := B.returns
  have hts := atoms_spec (ws := wsX9_trackOf) B.pre
  have hown : s.vm.findClass RX9 = some m.cls := findClass_of_methodNamed B.named
  have hlocks := B.notSynchronized
  subst hsz
  have hlt0 : ∀ k, k < 459 → ad k < s.heap.size := fun k hk => (sp_P_at hP hk).lt
  have hS : va_S (sp_A ad 459 s.heap.size) s.heap s.heap [] := va_S.rf
  have hAk : ∀ k, k < 459 → (sp_A ad 459 s.heap.size) (ad k) := fun k hk => Or.inl ⟨k, hk, rfl⟩
  skip
  have hl := lv_entry ([.ref (ad (429)), .int (id)]) (n := 2) (Nat.le_of_ble_eq_true rfl)
  refine W.eq (lg_entry_eq _ ([.ref (ad (429)), .int (id)]) _) ?_
  generalize (lg_sl ([.ref (ad (429)), .int (id)]) ++ List.replicate (2 - (lg_sl ([.ref (ad (429)), .int (id)])).length) Slot.unset).toArray = ls at hl ⊢
  have hl : lv_has ls 2 [(0, .ref (ad (429))), (1, .int (id))] := hl
  refine lv_aload_n hx hb dX9_trackOf_0 rfl (lv_at hl 0 rfl) ?_
  refine lv_iload_n hx hb dX9_trackOf_1 rfl (lv_at hl 1 rfl) ?_
  have hS0_x_1 := hS.1
  refine sp_callx (vx_runV (As := [.int (id)]) (rest := []) ⟨hx, hb, hml, hown, hts⟩ (c_X9_requirePrint l D ad cy pm rj σ xq hst _ hi id) (cwV 1 hts gX9_trackOf_X9_requirePrint rfl rfl rfl (by decide +kernel) ⟨Nat.le_of_ble_eq_true rfl, Nat.le_of_ble_eq_true rfl⟩) (sp_preVmx hK hP (hE.go hS) (κ := 429) (by decide) cE_sp rfl) rfl rfl hl.1 rfl (lv_room (Nat.le_of_ble_eq_true rfl)) dX9_trackOf_2 ⟨Nat.le_of_ble_eq_true rfl, Nat.le_of_ble_eq_true rfl⟩) hS (fun q h1 h2 => sp_Alt h1 h2) (sp_Ale hS.1) (fun E_x_1 r_x_1 ce_x_1 q9_x_1 H locs hthr_x_1 hB_x_1 hle hfr hS hce_x_1 hcv_x_1 hcl_x_1 => ?_) (fun hthr_x_1 H locs hP hle hfr hS => ?_)
  · skip
    obtain ⟨rj9, hPx, hN⟩ := hB_x_1
    exact vx_out (fun x hx => (ht x hx).elim) hlocks hce_x_1 hcv_x_1 hcl_x_1 (fun T9 hT9 _ => ⟨r_x_1, show (f_xPrint σ id : XO) = some (E_x_1, r_x_1) from (by first | (simp [Option.or, atO, eIOO, eIAE, eUOE, eNSE, eARE, eISE, hthr_x_1]; done) | (simp only [hthr_x_1]; simp [f_xPrint, f_xNo, f_xFound, atO, Option.or, atO, eIOO, eIAE, eUOE, eNSE, eARE, eISE, hthr_x_1]; done)), by rw [hT9]; exact ⟨rj9, hPx, hN.mono hS0_x_1⟩, hS.F hT9⟩) hS.2.2 (by omega) (by omega)
  · skip
    rcases opt_em (f_findPrint σ id) with q_2 | ⟨j_3, q_2⟩
    · exact absurd hthr_x_1 (by simp [f_xPrint, f_xNo, q_2])
    · have hj_3 := f_findPrint_lt q_2
      refine W.eq (g2 := F0 m 5 ls [.ref (ad (9 + j_3))]) (by rw [q_2]; rfl) ?_
      refine sp_get hx hb hts wi_X9_trackOf_X3 hown hK hP (κ := 9 + j_3) (by omega) (cE_print (by omega) (by omega)) rfl 2 (by decide) (hts _ (List.mem_of_getElem? (i := 1) rfl)) (fun _ h => h) rfl dX9_trackOf_5 ?_
      exact vx_ret (W.iret (v := σ (9 + j_3) 2) hx hb hr (fun T9 hT9 _ => ⟨show (f_xPrint σ id : XO) = none from (by first | (simp [Option.or, atO, eIOO, eIAE, eUOE, eNSE, eARE, eISE, hthr_x_1, q_2]; done) | (simp only [hthr_x_1]; simp [f_xPrint, f_xNo, f_xFound, atO, Option.or, atO, eIOO, eIAE, eUOE, eNSE, eARE, eISE, hthr_x_1, q_2]; done)), congrArg (fun z9 => Outcome.returned (some (Value.int z9))) (show (σ (9 + j_3) 2 : Int32) = atO (f_findPrint σ id) 0 (fun k => σ (9 + k) 2) from (by first | rfl | (simp [atO, b2i, hthr_x_1, q_2]; done))), by rw [hT9]; exact hP, hS.F hT9⟩) hS.2.2 dX9_trackOf_8)

theorem wi_X9_timeOf_X3 : ∀ w ∈ wsX30, w ∈ wsX9_timeOf := by decide +kernel
set_option maxHeartbeats 4000000 in
set_option maxRecDepth 100000 in
theorem c_X9_timeOf (l : Launch) (D : va_G) (ad : Nat → Nat) (cy : Nat → ClassId) (pm : Nat → Nat) (rj : Option Nat) (σ : Nat → Nat → Int32) (xq : Nat → Nat) (hst : l.stackTraces = false) (sz : Nat) (hi : sp_inj ad 459) (id : Int32) : vx_Met l yX9_timeOf wsX9_timeOf ({ frames := 7, cells := 1, slots := 6, locals := 112 } : Room) (sp_Pmx xq ad 459 D (tyG cy) sz [.ref (ad (429)), .int (id)] (cW ad cy pm rj σ)) (sp_QT (f_xPrint σ id) D (some (.int (atO (f_findPrint σ id) 0 (fun k => σ (9 + k) 3)))) (cW ad cy (pm) (rj) (σ)) (sp_A ad 459 sz)) (sp_XT (f_xPrint σ id) (sp_B D ad cy (pm) (σ) sz rj) (sp_A ad 459 sz)) 1 6 (sp_A ad 459 sz) := by
  refine vx_ofW (cc := cX9_timeOf) (maxL := 2) (ret := (some .int)) (by decide) rfl ?_
  intro p e s m args below meth c s₁ B hml ht hv
  obtain ⟨rfl, hsz, hP, hK, hE⟩ := hv
  have hx := B.exec
  have hb := B.bytes
  have hr := B.returns
  have hts := atoms_spec (ws := wsX9_timeOf) B.pre
  have hown : s.vm.findClass RX9 = some m.cls := findClass_of_methodNamed B.named
  have hlocks := B.notSynchronized
  subst hsz
  have hlt0 : ∀ k, k < 459 → ad k < s.heap.size := fun k hk => (sp_P_at hP hk).lt
  have hS : va_S (sp_A ad 459 s.heap.size) s.heap s.heap [] := va_S.rf
  have hAk : ∀ k, k < 459 → (sp_A ad 459 s.heap.size) (ad k) := fun k hk => Or.inl ⟨k, hk, rfl⟩
  skip
  have hl := lv_entry ([.ref (ad (429)), .int (id)]) (n := 2) (Nat.le_of_ble_eq_true rfl)
  refine W.eq (lg_entry_eq _ ([.ref (ad (429)), .int (id)]) _) ?_
  generalize (lg_sl ([.ref (ad (429)), .int (id)]) ++ List.replicate (2 - (lg_sl ([.ref (ad (429)), .int (id)])).length) Slot.unset).toArray = ls at hl ⊢
  have hl : lv_has ls 2 [(0, .ref (ad (429))), (1, .int (id))] := hl
  refine lv_aload_n hx hb dX9_timeOf_0 rfl (lv_at hl 0 rfl) ?_
  refine lv_iload_n hx hb dX9_timeOf_1 rfl (lv_at hl 1 rfl) ?_
  have hS0_x_1 := hS.1
  refine sp_callx (vx_runV (As := [.int (id)]) (rest := []) ⟨hx, hb, hml, hown, hts⟩ (c_X9_requirePrint l D ad cy pm rj σ xq hst _ hi id) (cwV 1 hts gX9_timeOf_X9_requirePrint rfl rfl rfl (by decide +kernel) ⟨Nat.le_of_ble_eq_true rfl, Nat.le_of_ble_eq_true rfl⟩) (sp_preVmx hK hP (hE.go hS) (κ := 429) (by decide) cE_sp rfl) rfl rfl hl.1 rfl (lv_room (Nat.le_of_ble_eq_true rfl)) dX9_timeOf_2 ⟨Nat.le_of_ble_eq_true rfl, Nat.le_of_ble_eq_true rfl⟩) hS (fun q h1 h2 => sp_Alt h1 h2) (sp_Ale hS.1) (fun E_x_1 r_x_1 ce_x_1 q9_x_1 H locs hthr_x_1 hB_x_1 hle hfr hS hce_x_1 hcv_x_1 hcl_x_1 => ?_) (fun hthr_x_1 H locs hP hle hfr hS => ?_)
  · skip
    obtain ⟨rj9, hPx, hN⟩ := hB_x_1
    exact vx_out (fun x hx => (ht x hx).elim) hlocks hce_x_1 hcv_x_1 hcl_x_1 (fun T9 hT9 _ => ⟨r_x_1, show (f_xPrint σ id : XO) = some (E_x_1, r_x_1) from (by first | (simp [Option.or, atO, eIOO, eIAE, eUOE, eNSE, eARE, eISE, hthr_x_1]; done) | (simp only [hthr_x_1]; simp [f_xPrint, f_xNo, f_xFound, atO, Option.or, atO, eIOO, eIAE, eUOE, eNSE, eARE, eISE, hthr_x_1]; done)), by rw [hT9]; exact ⟨rj9, hPx, hN.mono hS0_x_1⟩, hS.F hT9⟩) hS.2.2 (by omega) (by omega)
  · skip
    rcases opt_em (f_findPrint σ id) with q_2 | ⟨j_3, q_2⟩
    · exact absurd hthr_x_1 (by simp [f_xPrint, f_xNo, q_2])
    · have hj_3 := f_findPrint_lt q_2
      refine W.eq (g2 := F0 m 5 ls [.ref (ad (9 + j_3))]) (by rw [q_2]; rfl) ?_
      refine sp_get hx hb hts wi_X9_timeOf_X3 hown hK hP (κ := 9 + j_3) (by omega) (cE_print (by omega) (by omega)) rfl 3 (by decide) (hts _ (List.mem_of_getElem? (i := 1) rfl)) (fun _ h => h) rfl dX9_timeOf_5 ?_
      exact vx_ret (W.iret (v := σ (9 + j_3) 3) hx hb hr (fun T9 hT9 _ => ⟨show (f_xPrint σ id : XO) = none from (by first | (simp [Option.or, atO, eIOO, eIAE, eUOE, eNSE, eARE, eISE, hthr_x_1, q_2]; done) | (simp only [hthr_x_1]; simp [f_xPrint, f_xNo, f_xFound, atO, Option.or, atO, eIOO, eIAE, eUOE, eNSE, eARE, eISE, hthr_x_1, q_2]; done)), congrArg (fun z9 => Outcome.returned (some (Value.int z9))) (show (σ (9 + j_3) 3 : Int32) = atO (f_findPrint σ id) 0 (fun k => σ (9 + k) 3) from (by first | rfl | (simp [atO, b2i, hthr_x_1, q_2]; done))), by rw [hT9]; exact hP, hS.F hT9⟩) hS.2.2 dX9_timeOf_8)

theorem wi_X9_rowOf_X3 : ∀ w ∈ wsX30, w ∈ wsX9_rowOf := by decide +kernel
set_option maxHeartbeats 4000000 in
set_option maxRecDepth 100000 in
theorem c_X9_rowOf (l : Launch) (D : va_G) (ad : Nat → Nat) (cy : Nat → ClassId) (pm : Nat → Nat) (rj : Option Nat) (σ : Nat → Nat → Int32) (xq : Nat → Nat) (hst : l.stackTraces = false) (sz : Nat) (hi : sp_inj ad 459) (id : Int32) : vx_Met l yX9_rowOf wsX9_rowOf ({ frames := 7, cells := 1, slots := 6, locals := 112 } : Room) (sp_Pmx xq ad 459 D (tyG cy) sz [.ref (ad (429)), .int (id)] (cW ad cy pm rj σ)) (sp_QT (f_xPrint σ id) D (some (.int (atO (f_findPrint σ id) 0 (fun k => σ (9 + k) 4)))) (cW ad cy (pm) (rj) (σ)) (sp_A ad 459 sz)) (sp_XT (f_xPrint σ id) (sp_B D ad cy (pm) (σ) sz rj) (sp_A ad 459 sz)) 1 6 (sp_A ad 459 sz) := by
  refine vx_ofW (cc := cX9_rowOf) (maxL := 2) (ret := (some .int)) (by decide) rfl ?_
  intro p e s m args below meth c s₁ B hml ht hv
  obtain ⟨rfl, hsz, hP, hK, hE⟩ := hv
  have hx := B.exec
  have hb := B.bytes
  have hr := B.returns
  have hts := atoms_spec (ws := wsX9_rowOf) B.pre
  have hown : s.vm.findClass RX9 = some m.cls := findClass_of_methodNamed B.named
  have hlocks := B.notSynchronized
  subst hsz
  have hlt0 : ∀ k, k < 459 → ad k < s.heap.size := fun k hk => (sp_P_at hP hk).lt
  have hS : va_S (sp_A ad 459 s.heap.size) s.heap s.heap [] := va_S.rf
  have hAk : ∀ k, k < 459 → (sp_A ad 459 s.heap.size) (ad k) := fun k hk => Or.inl ⟨k, hk, rfl⟩
  skip
  have hl := lv_entry ([.ref (ad (429)), .int (id)]) (n := 2) (Nat.le_of_ble_eq_true rfl)
  refine W.eq (lg_entry_eq _ ([.ref (ad (429)), .int (id)]) _) ?_
  generalize (lg_sl ([.ref (ad (429)), .int (id)]) ++ List.replicate (2 - (lg_sl ([.ref (ad (429)), .int (id)])).length) Slot.unset).toArray = ls at hl ⊢
  have hl : lv_has ls 2 [(0, .ref (ad (429))), (1, .int (id))] := hl
  refine lv_aload_n hx hb dX9_rowOf_0 rfl (lv_at hl 0 rfl) ?_
  refine lv_iload_n hx hb dX9_rowOf_1 rfl (lv_at hl 1 rfl) ?_
  have hS0_x_1 := hS.1
  refine sp_callx (vx_runV (As := [.int (id)]) (rest := []) ⟨hx, hb, hml, hown, hts⟩ (c_X9_requirePrint l D ad cy pm rj σ xq hst _ hi id) (cwV 1 hts gX9_rowOf_X9_requirePrint rfl rfl rfl (by decide +kernel) ⟨Nat.le_of_ble_eq_true rfl, Nat.le_of_ble_eq_true rfl⟩) (sp_preVmx hK hP (hE.go hS) (κ := 429) (by decide) cE_sp rfl) rfl rfl hl.1 rfl (lv_room (Nat.le_of_ble_eq_true rfl)) dX9_rowOf_2 ⟨Nat.le_of_ble_eq_true rfl, Nat.le_of_ble_eq_true rfl⟩) hS (fun q h1 h2 => sp_Alt h1 h2) (sp_Ale hS.1) (fun E_x_1 r_x_1 ce_x_1 q9_x_1 H locs hthr_x_1 hB_x_1 hle hfr hS hce_x_1 hcv_x_1 hcl_x_1 => ?_) (fun hthr_x_1 H locs hP hle hfr hS => ?_)
  · skip
    obtain ⟨rj9, hPx, hN⟩ := hB_x_1
    exact vx_out (fun x hx => (ht x hx).elim) hlocks hce_x_1 hcv_x_1 hcl_x_1 (fun T9 hT9 _ => ⟨r_x_1, show (f_xPrint σ id : XO) = some (E_x_1, r_x_1) from (by first | (simp [Option.or, atO, eIOO, eIAE, eUOE, eNSE, eARE, eISE, hthr_x_1]; done) | (simp only [hthr_x_1]; simp [f_xPrint, f_xNo, f_xFound, atO, Option.or, atO, eIOO, eIAE, eUOE, eNSE, eARE, eISE, hthr_x_1]; done)), by rw [hT9]; exact ⟨rj9, hPx, hN.mono hS0_x_1⟩, hS.F hT9⟩) hS.2.2 (by omega) (by omega)
  · skip
    rcases opt_em (f_findPrint σ id) with q_2 | ⟨j_3, q_2⟩
    · exact absurd hthr_x_1 (by simp [f_xPrint, f_xNo, q_2])
    · have hj_3 := f_findPrint_lt q_2
      refine W.eq (g2 := F0 m 5 ls [.ref (ad (9 + j_3))]) (by rw [q_2]; rfl) ?_
      refine sp_get hx hb hts wi_X9_rowOf_X3 hown hK hP (κ := 9 + j_3) (by omega) (cE_print (by omega) (by omega)) rfl 4 (by decide) (hts _ (List.mem_of_getElem? (i := 1) rfl)) (fun _ h => h) rfl dX9_rowOf_5 ?_
      exact vx_ret (W.iret (v := σ (9 + j_3) 4) hx hb hr (fun T9 hT9 _ => ⟨show (f_xPrint σ id : XO) = none from (by first | (simp [Option.or, atO, eIOO, eIAE, eUOE, eNSE, eARE, eISE, hthr_x_1, q_2]; done) | (simp only [hthr_x_1]; simp [f_xPrint, f_xNo, f_xFound, atO, Option.or, atO, eIOO, eIAE, eUOE, eNSE, eARE, eISE, hthr_x_1, q_2]; done)), congrArg (fun z9 => Outcome.returned (some (Value.int z9))) (show (σ (9 + j_3) 4 : Int32) = atO (f_findPrint σ id) 0 (fun k => σ (9 + k) 4) from (by first | rfl | (simp [atO, b2i, hthr_x_1, q_2]; done))), by rw [hT9]; exact hP, hS.F hT9⟩) hS.2.2 dX9_rowOf_8)

theorem wi_X9_columnOf_X3 : ∀ w ∈ wsX30, w ∈ wsX9_columnOf := by decide +kernel
set_option maxHeartbeats 4000000 in
set_option maxRecDepth 100000 in
theorem c_X9_columnOf (l : Launch) (D : va_G) (ad : Nat → Nat) (cy : Nat → ClassId) (pm : Nat → Nat) (rj : Option Nat) (σ : Nat → Nat → Int32) (xq : Nat → Nat) (hst : l.stackTraces = false) (sz : Nat) (hi : sp_inj ad 459) (id : Int32) : vx_Met l yX9_columnOf wsX9_columnOf ({ frames := 7, cells := 1, slots := 6, locals := 112 } : Room) (sp_Pmx xq ad 459 D (tyG cy) sz [.ref (ad (429)), .int (id)] (cW ad cy pm rj σ)) (sp_QT (f_xPrint σ id) D (some (.int (atO (f_findPrint σ id) 0 (fun k => σ (9 + k) 5)))) (cW ad cy (pm) (rj) (σ)) (sp_A ad 459 sz)) (sp_XT (f_xPrint σ id) (sp_B D ad cy (pm) (σ) sz rj) (sp_A ad 459 sz)) 1 6 (sp_A ad 459 sz) := by
  refine vx_ofW (cc := cX9_columnOf) (maxL := 2) (ret := (some .int)) (by decide) rfl ?_
  intro p e s m args below meth c s₁ B hml ht hv
  obtain ⟨rfl, hsz, hP, hK, hE⟩ := hv
  have hx := B.exec
  have hb := B.bytes
  have hr := B.returns
  have hts := atoms_spec (ws := wsX9_columnOf) B.pre
  have hown : s.vm.findClass RX9 = some m.cls := findClass_of_methodNamed B.named
  have hlocks := B.notSynchronized
  subst hsz
  have hlt0 : ∀ k, k < 459 → ad k < s.heap.size := fun k hk => (sp_P_at hP hk).lt
  have hS : va_S (sp_A ad 459 s.heap.size) s.heap s.heap [] := va_S.rf
  have hAk : ∀ k, k < 459 → (sp_A ad 459 s.heap.size) (ad k) := fun k hk => Or.inl ⟨k, hk, rfl⟩
  skip
  have hl := lv_entry ([.ref (ad (429)), .int (id)]) (n := 2) (Nat.le_of_ble_eq_true rfl)
  refine W.eq (lg_entry_eq _ ([.ref (ad (429)), .int (id)]) _) ?_
  generalize (lg_sl ([.ref (ad (429)), .int (id)]) ++ List.replicate (2 - (lg_sl ([.ref (ad (429)), .int (id)])).length) Slot.unset).toArray = ls at hl ⊢
  have hl : lv_has ls 2 [(0, .ref (ad (429))), (1, .int (id))] := hl
  refine lv_aload_n hx hb dX9_columnOf_0 rfl (lv_at hl 0 rfl) ?_
  refine lv_iload_n hx hb dX9_columnOf_1 rfl (lv_at hl 1 rfl) ?_
  have hS0_x_1 := hS.1
  refine sp_callx (vx_runV (As := [.int (id)]) (rest := []) ⟨hx, hb, hml, hown, hts⟩ (c_X9_requirePrint l D ad cy pm rj σ xq hst _ hi id) (cwV 1 hts gX9_columnOf_X9_requirePrint rfl rfl rfl (by decide +kernel) ⟨Nat.le_of_ble_eq_true rfl, Nat.le_of_ble_eq_true rfl⟩) (sp_preVmx hK hP (hE.go hS) (κ := 429) (by decide) cE_sp rfl) rfl rfl hl.1 rfl (lv_room (Nat.le_of_ble_eq_true rfl)) dX9_columnOf_2 ⟨Nat.le_of_ble_eq_true rfl, Nat.le_of_ble_eq_true rfl⟩) hS (fun q h1 h2 => sp_Alt h1 h2) (sp_Ale hS.1) (fun E_x_1 r_x_1 ce_x_1 q9_x_1 H locs hthr_x_1 hB_x_1 hle hfr hS hce_x_1 hcv_x_1 hcl_x_1 => ?_) (fun hthr_x_1 H locs hP hle hfr hS => ?_)
  · skip
    obtain ⟨rj9, hPx, hN⟩ := hB_x_1
    exact vx_out (fun x hx => (ht x hx).elim) hlocks hce_x_1 hcv_x_1 hcl_x_1 (fun T9 hT9 _ => ⟨r_x_1, show (f_xPrint σ id : XO) = some (E_x_1, r_x_1) from (by first | (simp [Option.or, atO, eIOO, eIAE, eUOE, eNSE, eARE, eISE, hthr_x_1]; done) | (simp only [hthr_x_1]; simp [f_xPrint, f_xNo, f_xFound, atO, Option.or, atO, eIOO, eIAE, eUOE, eNSE, eARE, eISE, hthr_x_1]; done)), by rw [hT9]; exact ⟨rj9, hPx, hN.mono hS0_x_1⟩, hS.F hT9⟩) hS.2.2 (by omega) (by omega)
  · skip
    rcases opt_em (f_findPrint σ id) with q_2 | ⟨j_3, q_2⟩
    · exact absurd hthr_x_1 (by simp [f_xPrint, f_xNo, q_2])
    · have hj_3 := f_findPrint_lt q_2
      refine W.eq (g2 := F0 m 5 ls [.ref (ad (9 + j_3))]) (by rw [q_2]; rfl) ?_
      refine sp_get hx hb hts wi_X9_columnOf_X3 hown hK hP (κ := 9 + j_3) (by omega) (cE_print (by omega) (by omega)) rfl 5 (by decide) (hts _ (List.mem_of_getElem? (i := 1) rfl)) (fun _ h => h) rfl dX9_columnOf_5 ?_
      exact vx_ret (W.iret (v := σ (9 + j_3) 5) hx hb hr (fun T9 hT9 _ => ⟨show (f_xPrint σ id : XO) = none from (by first | (simp [Option.or, atO, eIOO, eIAE, eUOE, eNSE, eARE, eISE, hthr_x_1, q_2]; done) | (simp only [hthr_x_1]; simp [f_xPrint, f_xNo, f_xFound, atO, Option.or, atO, eIOO, eIAE, eUOE, eNSE, eARE, eISE, hthr_x_1, q_2]; done)), congrArg (fun z9 => Outcome.returned (some (Value.int z9))) (show (σ (9 + j_3) 5 : Int32) = atO (f_findPrint σ id) 0 (fun k => σ (9 + k) 5) from (by first | rfl | (simp [atO, b2i, hthr_x_1, q_2]; done))), by rw [hT9]; exact hP, hS.F hT9⟩) hS.2.2 dX9_columnOf_8)

theorem wi_X9_depthOf_X3 : ∀ w ∈ wsX30, w ∈ wsX9_depthOf := by decide +kernel
set_option maxHeartbeats 4000000 in
set_option maxRecDepth 100000 in
theorem c_X9_depthOf (l : Launch) (D : va_G) (ad : Nat → Nat) (cy : Nat → ClassId) (pm : Nat → Nat) (rj : Option Nat) (σ : Nat → Nat → Int32) (xq : Nat → Nat) (hst : l.stackTraces = false) (sz : Nat) (hi : sp_inj ad 459) (id : Int32) : vx_Met l yX9_depthOf wsX9_depthOf ({ frames := 7, cells := 1, slots := 6, locals := 112 } : Room) (sp_Pmx xq ad 459 D (tyG cy) sz [.ref (ad (429)), .int (id)] (cW ad cy pm rj σ)) (sp_QT (f_xPrint σ id) D (some (.int (atO (f_findPrint σ id) 0 (fun k => σ (9 + k) 7)))) (cW ad cy (pm) (rj) (σ)) (sp_A ad 459 sz)) (sp_XT (f_xPrint σ id) (sp_B D ad cy (pm) (σ) sz rj) (sp_A ad 459 sz)) 1 6 (sp_A ad 459 sz) := by
  refine vx_ofW (cc := cX9_depthOf) (maxL := 2) (ret := (some .int)) (by decide) rfl ?_
  intro p e s m args below meth c s₁ B hml ht hv
  obtain ⟨rfl, hsz, hP, hK, hE⟩ := hv
  have hx := B.exec
  have hb := B.bytes
  have hr := B.returns
  have hts := atoms_spec (ws := wsX9_depthOf) B.pre
  have hown : s.vm.findClass RX9 = some m.cls := findClass_of_methodNamed B.named
  have hlocks := B.notSynchronized
  subst hsz
  have hlt0 : ∀ k, k < 459 → ad k < s.heap.size := fun k hk => (sp_P_at hP hk).lt
  have hS : va_S (sp_A ad 459 s.heap.size) s.heap s.heap [] := va_S.rf
  have hAk : ∀ k, k < 459 → (sp_A ad 459 s.heap.size) (ad k) := fun k hk => Or.inl ⟨k, hk, rfl⟩
  skip
  have hl := lv_entry ([.ref (ad (429)), .int (id)]) (n := 2) (Nat.le_of_ble_eq_true rfl)
  refine W.eq (lg_entry_eq _ ([.ref (ad (429)), .int (id)]) _) ?_
  generalize (lg_sl ([.ref (ad (429)), .int (id)]) ++ List.replicate (2 - (lg_sl ([.ref (ad (429)), .int (id)])).length) Slot.unset).toArray = ls at hl ⊢
  have hl : lv_has ls 2 [(0, .ref (ad (429))), (1, .int (id))] := hl
  refine lv_aload_n hx hb dX9_depthOf_0 rfl (lv_at hl 0 rfl) ?_
  refine lv_iload_n hx hb dX9_depthOf_1 rfl (lv_at hl 1 rfl) ?_
  have hS0_x_1 := hS.1
  refine sp_callx (vx_runV (As := [.int (id)]) (rest := []) ⟨hx, hb, hml, hown, hts⟩ (c_X9_requirePrint l D ad cy pm rj σ xq hst _ hi id) (cwV 1 hts gX9_depthOf_X9_requirePrint rfl rfl rfl (by decide +kernel) ⟨Nat.le_of_ble_eq_true rfl, Nat.le_of_ble_eq_true rfl⟩) (sp_preVmx hK hP (hE.go hS) (κ := 429) (by decide) cE_sp rfl) rfl rfl hl.1 rfl (lv_room (Nat.le_of_ble_eq_true rfl)) dX9_depthOf_2 ⟨Nat.le_of_ble_eq_true rfl, Nat.le_of_ble_eq_true rfl⟩) hS (fun q h1 h2 => sp_Alt h1 h2) (sp_Ale hS.1) (fun E_x_1 r_x_1 ce_x_1 q9_x_1 H locs hthr_x_1 hB_x_1 hle hfr hS hce_x_1 hcv_x_1 hcl_x_1 => ?_) (fun hthr_x_1 H locs hP hle hfr hS => ?_)
  · skip
    obtain ⟨rj9, hPx, hN⟩ := hB_x_1
    exact vx_out (fun x hx => (ht x hx).elim) hlocks hce_x_1 hcv_x_1 hcl_x_1 (fun T9 hT9 _ => ⟨r_x_1, show (f_xPrint σ id : XO) = some (E_x_1, r_x_1) from (by first | (simp [Option.or, atO, eIOO, eIAE, eUOE, eNSE, eARE, eISE, hthr_x_1]; done) | (simp only [hthr_x_1]; simp [f_xPrint, f_xNo, f_xFound, atO, Option.or, atO, eIOO, eIAE, eUOE, eNSE, eARE, eISE, hthr_x_1]; done)), by rw [hT9]; exact ⟨rj9, hPx, hN.mono hS0_x_1⟩, hS.F hT9⟩) hS.2.2 (by omega) (by omega)
  · skip
    rcases opt_em (f_findPrint σ id) with q_2 | ⟨j_3, q_2⟩
    · exact absurd hthr_x_1 (by simp [f_xPrint, f_xNo, q_2])
    · have hj_3 := f_findPrint_lt q_2
      refine W.eq (g2 := F0 m 5 ls [.ref (ad (9 + j_3))]) (by rw [q_2]; rfl) ?_
      refine sp_get hx hb hts wi_X9_depthOf_X3 hown hK hP (κ := 9 + j_3) (by omega) (cE_print (by omega) (by omega)) rfl 7 (by decide) (hts _ (List.mem_of_getElem? (i := 1) rfl)) (fun _ h => h) rfl dX9_depthOf_5 ?_
      exact vx_ret (W.iret (v := σ (9 + j_3) 7) hx hb hr (fun T9 hT9 _ => ⟨show (f_xPrint σ id : XO) = none from (by first | (simp [Option.or, atO, eIOO, eIAE, eUOE, eNSE, eARE, eISE, hthr_x_1, q_2]; done) | (simp only [hthr_x_1]; simp [f_xPrint, f_xNo, f_xFound, atO, Option.or, atO, eIOO, eIAE, eUOE, eNSE, eARE, eISE, hthr_x_1, q_2]; done)), congrArg (fun z9 => Outcome.returned (some (Value.int z9))) (show (σ (9 + j_3) 7 : Int32) = atO (f_findPrint σ id) 0 (fun k => σ (9 + k) 7) from (by first | rfl | (simp [atO, b2i, hthr_x_1, q_2]; done))), by rw [hT9]; exact hP, hS.F hT9⟩) hS.2.2 dX9_depthOf_8)

theorem wi_X9_doubtsOf_X3 : ∀ w ∈ wsX30, w ∈ wsX9_doubtsOf := by decide +kernel
set_option maxHeartbeats 4000000 in
set_option maxRecDepth 100000 in
theorem c_X9_doubtsOf (l : Launch) (D : va_G) (ad : Nat → Nat) (cy : Nat → ClassId) (pm : Nat → Nat) (rj : Option Nat) (σ : Nat → Nat → Int32) (xq : Nat → Nat) (hst : l.stackTraces = false) (sz : Nat) (hi : sp_inj ad 459) (id : Int32) : vx_Met l yX9_doubtsOf wsX9_doubtsOf ({ frames := 7, cells := 1, slots := 6, locals := 112 } : Room) (sp_Pmx xq ad 459 D (tyG cy) sz [.ref (ad (429)), .int (id)] (cW ad cy pm rj σ)) (sp_QT (f_xPrint σ id) D (some (.int (atO (f_findPrint σ id) 0 (fun k => σ (9 + k) 8)))) (cW ad cy (pm) (rj) (σ)) (sp_A ad 459 sz)) (sp_XT (f_xPrint σ id) (sp_B D ad cy (pm) (σ) sz rj) (sp_A ad 459 sz)) 1 6 (sp_A ad 459 sz) := by
  refine vx_ofW (cc := cX9_doubtsOf) (maxL := 2) (ret := (some .int)) (by decide) rfl ?_
  intro p e s m args below meth c s₁ B hml ht hv
  obtain ⟨rfl, hsz, hP, hK, hE⟩ := hv
  have hx := B.exec
  have hb := B.bytes
  have hr := B.returns
  have hts := atoms_spec (ws := wsX9_doubtsOf) B.pre
  have hown : s.vm.findClass RX9 = some m.cls := findClass_of_methodNamed B.named
  have hlocks := B.notSynchronized
  subst hsz
  have hlt0 : ∀ k, k < 459 → ad k < s.heap.size := fun k hk => (sp_P_at hP hk).lt
  have hS : va_S (sp_A ad 459 s.heap.size) s.heap s.heap [] := va_S.rf
  have hAk : ∀ k, k < 459 → (sp_A ad 459 s.heap.size) (ad k) := fun k hk => Or.inl ⟨k, hk, rfl⟩
  skip
  have hl := lv_entry ([.ref (ad (429)), .int (id)]) (n := 2) (Nat.le_of_ble_eq_true rfl)
  refine W.eq (lg_entry_eq _ ([.ref (ad (429)), .int (id)]) _) ?_
  generalize (lg_sl ([.ref (ad (429)), .int (id)]) ++ List.replicate (2 - (lg_sl ([.ref (ad (429)), .int (id)])).length) Slot.unset).toArray = ls at hl ⊢
  have hl : lv_has ls 2 [(0, .ref (ad (429))), (1, .int (id))] := hl
  refine lv_aload_n hx hb dX9_doubtsOf_0 rfl (lv_at hl 0 rfl) ?_
  refine lv_iload_n hx hb dX9_doubtsOf_1 rfl (lv_at hl 1 rfl) ?_
  have hS0_x_1 := hS.1
  refine sp_callx (vx_runV (As := [.int (id)]) (rest := []) ⟨hx, hb, hml, hown, hts⟩ (c_X9_requirePrint l D ad cy pm rj σ xq hst _ hi id) (cwV 1 hts gX9_doubtsOf_X9_requirePrint rfl rfl rfl (by decide +kernel) ⟨Nat.le_of_ble_eq_true rfl, Nat.le_of_ble_eq_true rfl⟩) (sp_preVmx hK hP (hE.go hS) (κ := 429) (by decide) cE_sp rfl) rfl rfl hl.1 rfl (lv_room (Nat.le_of_ble_eq_true rfl)) dX9_doubtsOf_2 ⟨Nat.le_of_ble_eq_true rfl, Nat.le_of_ble_eq_true rfl⟩) hS (fun q h1 h2 => sp_Alt h1 h2) (sp_Ale hS.1) (fun E_x_1 r_x_1 ce_x_1 q9_x_1 H locs hthr_x_1 hB_x_1 hle hfr hS hce_x_1 hcv_x_1 hcl_x_1 => ?_) (fun hthr_x_1 H locs hP hle hfr hS => ?_)
  · skip
    obtain ⟨rj9, hPx, hN⟩ := hB_x_1
    exact vx_out (fun x hx => (ht x hx).elim) hlocks hce_x_1 hcv_x_1 hcl_x_1 (fun T9 hT9 _ => ⟨r_x_1, show (f_xPrint σ id : XO) = some (E_x_1, r_x_1) from (by first | (simp [Option.or, atO, eIOO, eIAE, eUOE, eNSE, eARE, eISE, hthr_x_1]; done) | (simp only [hthr_x_1]; simp [f_xPrint, f_xNo, f_xFound, atO, Option.or, atO, eIOO, eIAE, eUOE, eNSE, eARE, eISE, hthr_x_1]; done)), by rw [hT9]; exact ⟨rj9, hPx, hN.mono hS0_x_1⟩, hS.F hT9⟩) hS.2.2 (by omega) (by omega)
  · skip
    rcases opt_em (f_findPrint σ id) with q_2 | ⟨j_3, q_2⟩
    · exact absurd hthr_x_1 (by simp [f_xPrint, f_xNo, q_2])
    · have hj_3 := f_findPrint_lt q_2
      refine W.eq (g2 := F0 m 5 ls [.ref (ad (9 + j_3))]) (by rw [q_2]; rfl) ?_
      refine sp_get hx hb hts wi_X9_doubtsOf_X3 hown hK hP (κ := 9 + j_3) (by omega) (cE_print (by omega) (by omega)) rfl 8 (by decide) (hts _ (List.mem_of_getElem? (i := 1) rfl)) (fun _ h => h) rfl dX9_doubtsOf_5 ?_
      exact vx_ret (W.iret (v := σ (9 + j_3) 8) hx hb hr (fun T9 hT9 _ => ⟨show (f_xPrint σ id : XO) = none from (by first | (simp [Option.or, atO, eIOO, eIAE, eUOE, eNSE, eARE, eISE, hthr_x_1, q_2]; done) | (simp only [hthr_x_1]; simp [f_xPrint, f_xNo, f_xFound, atO, Option.or, atO, eIOO, eIAE, eUOE, eNSE, eARE, eISE, hthr_x_1, q_2]; done)), congrArg (fun z9 => Outcome.returned (some (Value.int z9))) (show (σ (9 + j_3) 8 : Int32) = atO (f_findPrint σ id) 0 (fun k => σ (9 + k) 8) from (by first | rfl | (simp [atO, b2i, hthr_x_1, q_2]; done))), by rw [hT9]; exact hP, hS.F hT9⟩) hS.2.2 dX9_doubtsOf_8)

theorem wi_X9_isLeft_X3 : ∀ w ∈ wsX30, w ∈ wsX9_isLeft := by decide +kernel
set_option maxHeartbeats 4000000 in
set_option maxRecDepth 100000 in
theorem c_X9_isLeft (l : Launch) (D : va_G) (ad : Nat → Nat) (cy : Nat → ClassId) (pm : Nat → Nat) (rj : Option Nat) (σ : Nat → Nat → Int32) (xq : Nat → Nat) (hst : l.stackTraces = false) (sz : Nat) (hi : sp_inj ad 459) (id : Int32) : vx_Met l yX9_isLeft wsX9_isLeft ({ frames := 7, cells := 1, slots := 6, locals := 112 } : Room) (sp_Pmx xq ad 459 D (tyG cy) sz [.ref (ad (429)), .int (id)] (cW ad cy pm rj σ)) (sp_QT (f_xPrint σ id) D (some (.int (atO (f_findPrint σ id) 0 (fun k => bz (σ (9 + k) 6))))) (cW ad cy (pm) (rj) (σ)) (sp_A ad 459 sz)) (sp_XT (f_xPrint σ id) (sp_B D ad cy (pm) (σ) sz rj) (sp_A ad 459 sz)) 1 6 (sp_A ad 459 sz) := by
  refine vx_ofW (cc := cX9_isLeft) (maxL := 2) (ret := (some .boolean)) (by decide) rfl ?_
  intro p e s m args below meth c s₁ B hml ht hv
  obtain ⟨rfl, hsz, hP, hK, hE⟩ := hv
  have hx := B.exec
  have hb := B.bytes
  have hr := B.returns
  have hts := atoms_spec (ws := wsX9_isLeft) B.pre
  have hown : s.vm.findClass RX9 = some m.cls := findClass_of_methodNamed B.named
  have hlocks := B.notSynchronized
  subst hsz
  have hlt0 : ∀ k, k < 459 → ad k < s.heap.size := fun k hk => (sp_P_at hP hk).lt
  have hS : va_S (sp_A ad 459 s.heap.size) s.heap s.heap [] := va_S.rf
  have hAk : ∀ k, k < 459 → (sp_A ad 459 s.heap.size) (ad k) := fun k hk => Or.inl ⟨k, hk, rfl⟩
  skip
  have hl := lv_entry ([.ref (ad (429)), .int (id)]) (n := 2) (Nat.le_of_ble_eq_true rfl)
  refine W.eq (lg_entry_eq _ ([.ref (ad (429)), .int (id)]) _) ?_
  generalize (lg_sl ([.ref (ad (429)), .int (id)]) ++ List.replicate (2 - (lg_sl ([.ref (ad (429)), .int (id)])).length) Slot.unset).toArray = ls at hl ⊢
  have hl : lv_has ls 2 [(0, .ref (ad (429))), (1, .int (id))] := hl
  refine lv_aload_n hx hb dX9_isLeft_0 rfl (lv_at hl 0 rfl) ?_
  refine lv_iload_n hx hb dX9_isLeft_1 rfl (lv_at hl 1 rfl) ?_
  have hS0_x_1 := hS.1
  refine sp_callx (vx_runV (As := [.int (id)]) (rest := []) ⟨hx, hb, hml, hown, hts⟩ (c_X9_requirePrint l D ad cy pm rj σ xq hst _ hi id) (cwV 1 hts gX9_isLeft_X9_requirePrint rfl rfl rfl (by decide +kernel) ⟨Nat.le_of_ble_eq_true rfl, Nat.le_of_ble_eq_true rfl⟩) (sp_preVmx hK hP (hE.go hS) (κ := 429) (by decide) cE_sp rfl) rfl rfl hl.1 rfl (lv_room (Nat.le_of_ble_eq_true rfl)) dX9_isLeft_2 ⟨Nat.le_of_ble_eq_true rfl, Nat.le_of_ble_eq_true rfl⟩) hS (fun q h1 h2 => sp_Alt h1 h2) (sp_Ale hS.1) (fun E_x_1 r_x_1 ce_x_1 q9_x_1 H locs hthr_x_1 hB_x_1 hle hfr hS hce_x_1 hcv_x_1 hcl_x_1 => ?_) (fun hthr_x_1 H locs hP hle hfr hS => ?_)
  · skip
    obtain ⟨rj9, hPx, hN⟩ := hB_x_1
    exact vx_out (fun x hx => (ht x hx).elim) hlocks hce_x_1 hcv_x_1 hcl_x_1 (fun T9 hT9 _ => ⟨r_x_1, show (f_xPrint σ id : XO) = some (E_x_1, r_x_1) from (by first | (simp [Option.or, atO, eIOO, eIAE, eUOE, eNSE, eARE, eISE, hthr_x_1]; done) | (simp only [hthr_x_1]; simp [f_xPrint, f_xNo, f_xFound, atO, Option.or, atO, eIOO, eIAE, eUOE, eNSE, eARE, eISE, hthr_x_1]; done)), by rw [hT9]; exact ⟨rj9, hPx, hN.mono hS0_x_1⟩, hS.F hT9⟩) hS.2.2 (by omega) (by omega)
  · skip
    rcases opt_em (f_findPrint σ id) with q_2 | ⟨j_3, q_2⟩
    · exact absurd hthr_x_1 (by simp [f_xPrint, f_xNo, q_2])
    · have hj_3 := f_findPrint_lt q_2
      refine W.eq (g2 := F0 m 5 ls [.ref (ad (9 + j_3))]) (by rw [q_2]; rfl) ?_
      refine sp_get hx hb hts wi_X9_isLeft_X3 hown hK hP (κ := 9 + j_3) (by omega) (cE_print (by omega) (by omega)) rfl 6 (by decide) (hts _ (List.mem_of_getElem? (i := 1) rfl)) (fun _ h => h) rfl dX9_isLeft_5 ?_
      exact vx_ret (W.zret (v := bz (σ (9 + j_3) 6)) hx hb hr ((nz_of (bz_bz _)).1) (fun T9 hT9 _ => ⟨show (f_xPrint σ id : XO) = none from (by first | (simp [Option.or, atO, eIOO, eIAE, eUOE, eNSE, eARE, eISE, hthr_x_1, q_2]; done) | (simp only [hthr_x_1]; simp [f_xPrint, f_xNo, f_xFound, atO, Option.or, atO, eIOO, eIAE, eUOE, eNSE, eARE, eISE, hthr_x_1, q_2]; done)), congrArg (fun z9 => Outcome.returned (some (Value.int z9))) (show (bz (σ (9 + j_3) 6) : Int32) = atO (f_findPrint σ id) 0 (fun k => bz (σ (9 + k) 6)) from (by first | rfl | (simp [atO, b2i, hthr_x_1, q_2]; done))), by rw [hT9]; exact hP, hS.F hT9⟩) hS.2.2 dX9_isLeft_8)

theorem wi_X9_isLate_X3 : ∀ w ∈ wsX30, w ∈ wsX9_isLate := by decide +kernel
set_option maxHeartbeats 4000000 in
set_option maxRecDepth 100000 in
theorem c_X9_isLate (l : Launch) (D : va_G) (ad : Nat → Nat) (cy : Nat → ClassId) (pm : Nat → Nat) (rj : Option Nat) (σ : Nat → Nat → Int32) (xq : Nat → Nat) (hst : l.stackTraces = false) (sz : Nat) (hi : sp_inj ad 459) (id : Int32) : vx_Met l yX9_isLate wsX9_isLate ({ frames := 7, cells := 1, slots := 6, locals := 112 } : Room) (sp_Pmx xq ad 459 D (tyG cy) sz [.ref (ad (429)), .int (id)] (cW ad cy pm rj σ)) (sp_QT (f_xPrint σ id) D (some (.int (atO (f_findPrint σ id) 0 (fun k => bz (σ (9 + k) 9))))) (cW ad cy (pm) (rj) (σ)) (sp_A ad 459 sz)) (sp_XT (f_xPrint σ id) (sp_B D ad cy (pm) (σ) sz rj) (sp_A ad 459 sz)) 1 6 (sp_A ad 459 sz) := by
  refine vx_ofW (cc := cX9_isLate) (maxL := 2) (ret := (some .boolean)) (by decide) rfl ?_
  intro p e s m args below meth c s₁ B hml ht hv
  obtain ⟨rfl, hsz, hP, hK, hE⟩ := hv
  have hx := B.exec
  have hb := B.bytes
  have hr := B.returns
  have hts := atoms_spec (ws := wsX9_isLate) B.pre
  have hown : s.vm.findClass RX9 = some m.cls := findClass_of_methodNamed B.named
  have hlocks := B.notSynchronized
  subst hsz
  have hlt0 : ∀ k, k < 459 → ad k < s.heap.size := fun k hk => (sp_P_at hP hk).lt
  have hS : va_S (sp_A ad 459 s.heap.size) s.heap s.heap [] := va_S.rf
  have hAk : ∀ k, k < 459 → (sp_A ad 459 s.heap.size) (ad k) := fun k hk => Or.inl ⟨k, hk, rfl⟩
  skip
  have hl := lv_entry ([.ref (ad (429)), .int (id)]) (n := 2) (Nat.le_of_ble_eq_true rfl)
  refine W.eq (lg_entry_eq _ ([.ref (ad (429)), .int (id)]) _) ?_
  generalize (lg_sl ([.ref (ad (429)), .int (id)]) ++ List.replicate (2 - (lg_sl ([.ref (ad (429)), .int (id)])).length) Slot.unset).toArray = ls at hl ⊢
  have hl : lv_has ls 2 [(0, .ref (ad (429))), (1, .int (id))] := hl
  refine lv_aload_n hx hb dX9_isLate_0 rfl (lv_at hl 0 rfl) ?_
  refine lv_iload_n hx hb dX9_isLate_1 rfl (lv_at hl 1 rfl) ?_
  have hS0_x_1 := hS.1
  refine sp_callx (vx_runV (As := [.int (id)]) (rest := []) ⟨hx, hb, hml, hown, hts⟩ (c_X9_requirePrint l D ad cy pm rj σ xq hst _ hi id) (cwV 1 hts gX9_isLate_X9_requirePrint rfl rfl rfl (by decide +kernel) ⟨Nat.le_of_ble_eq_true rfl, Nat.le_of_ble_eq_true rfl⟩) (sp_preVmx hK hP (hE.go hS) (κ := 429) (by decide) cE_sp rfl) rfl rfl hl.1 rfl (lv_room (Nat.le_of_ble_eq_true rfl)) dX9_isLate_2 ⟨Nat.le_of_ble_eq_true rfl, Nat.le_of_ble_eq_true rfl⟩) hS (fun q h1 h2 => sp_Alt h1 h2) (sp_Ale hS.1) (fun E_x_1 r_x_1 ce_x_1 q9_x_1 H locs hthr_x_1 hB_x_1 hle hfr hS hce_x_1 hcv_x_1 hcl_x_1 => ?_) (fun hthr_x_1 H locs hP hle hfr hS => ?_)
  · skip
    obtain ⟨rj9, hPx, hN⟩ := hB_x_1
    exact vx_out (fun x hx => (ht x hx).elim) hlocks hce_x_1 hcv_x_1 hcl_x_1 (fun T9 hT9 _ => ⟨r_x_1, show (f_xPrint σ id : XO) = some (E_x_1, r_x_1) from (by first | (simp [Option.or, atO, eIOO, eIAE, eUOE, eNSE, eARE, eISE, hthr_x_1]; done) | (simp only [hthr_x_1]; simp [f_xPrint, f_xNo, f_xFound, atO, Option.or, atO, eIOO, eIAE, eUOE, eNSE, eARE, eISE, hthr_x_1]; done)), by rw [hT9]; exact ⟨rj9, hPx, hN.mono hS0_x_1⟩, hS.F hT9⟩) hS.2.2 (by omega) (by omega)
  · skip
    rcases opt_em (f_findPrint σ id) with q_2 | ⟨j_3, q_2⟩
    · exact absurd hthr_x_1 (by simp [f_xPrint, f_xNo, q_2])
    · have hj_3 := f_findPrint_lt q_2
      refine W.eq (g2 := F0 m 5 ls [.ref (ad (9 + j_3))]) (by rw [q_2]; rfl) ?_
      refine sp_get hx hb hts wi_X9_isLate_X3 hown hK hP (κ := 9 + j_3) (by omega) (cE_print (by omega) (by omega)) rfl 9 (by decide) (hts _ (List.mem_of_getElem? (i := 1) rfl)) (fun _ h => h) rfl dX9_isLate_5 ?_
      exact vx_ret (W.zret (v := bz (σ (9 + j_3) 9)) hx hb hr ((nz_of (bz_bz _)).1) (fun T9 hT9 _ => ⟨show (f_xPrint σ id : XO) = none from (by first | (simp [Option.or, atO, eIOO, eIAE, eUOE, eNSE, eARE, eISE, hthr_x_1, q_2]; done) | (simp only [hthr_x_1]; simp [f_xPrint, f_xNo, f_xFound, atO, Option.or, atO, eIOO, eIAE, eUOE, eNSE, eARE, eISE, hthr_x_1, q_2]; done)), congrArg (fun z9 => Outcome.returned (some (Value.int z9))) (show (bz (σ (9 + j_3) 9) : Int32) = atO (f_findPrint σ id) 0 (fun k => bz (σ (9 + k) 9)) from (by first | rfl | (simp [atO, b2i, hthr_x_1, q_2]; done))), by rw [hT9]; exact hP, hS.F hT9⟩) hS.2.2 dX9_isLate_8)

theorem wi_X9_previousPrint_X9 : ∀ w ∈ wsX90, w ∈ wsX9_previousPrint := by decide +kernel
theorem wi_X9_previousPrint_X3 : ∀ w ∈ wsX30, w ∈ wsX9_previousPrint := by decide +kernel
set_option maxHeartbeats 4000000 in
set_option maxRecDepth 100000 in
theorem c_X9_previousPrint (l : Launch) (D : va_G) (ad : Nat → Nat) (cy : Nat → ClassId) (pm : Nat → Nat) (rj : Option Nat) (σ : Nat → Nat → Int32) (xq : Nat → Nat) (hst : l.stackTraces = false) (sz : Nat) (hi : sp_inj ad 459) (id : Int32) : vx_Met l yX9_previousPrint wsX9_previousPrint ({ frames := 7, cells := 2, slots := 12, locals := 112 } : Room) (sp_Pmx xq ad 459 D (tyG cy) sz [.ref (ad (429)), .int (id)] (cW ad cy pm rj σ)) (sp_QT ((f_xPrint σ id).or (atO (f_findPrint σ id) none (fun k => f_xFound (f_before σ k)))) D (some (.int (atO (f_findPrint σ id) 0 (fun k => atO (f_before σ k) 0 (fun j => σ (9 + j) 1))))) (cW ad cy (pm) (rj) (σ)) (sp_A ad 459 sz)) (sp_XT ((f_xPrint σ id).or (atO (f_findPrint σ id) none (fun k => f_xFound (f_before σ k)))) (sp_B D ad cy (pm) (σ) sz rj) (sp_A ad 459 sz)) 2 12 (sp_A ad 459 sz) := by
  refine vx_ofW (cc := cX9_previousPrint) (maxL := 2) (ret := (some .int)) (by decide) rfl ?_
  intro p e s m args below meth c s₁ B hml ht hv
  obtain ⟨rfl, hsz, hP, hK, hE⟩ := hv
  have hx := B.exec
  have hb := B.bytes
  have hr := B.returns
  have hts := atoms_spec (ws := wsX9_previousPrint) B.pre
  have hown : s.vm.findClass RX9 = some m.cls := findClass_of_methodNamed B.named
  have hlocks := B.notSynchronized
  subst hsz
  have hlt0 : ∀ k, k < 459 → ad k < s.heap.size := fun k hk => (sp_P_at hP hk).lt
  have hS : va_S (sp_A ad 459 s.heap.size) s.heap s.heap [] := va_S.rf
  have hAk : ∀ k, k < 459 → (sp_A ad 459 s.heap.size) (ad k) := fun k hk => Or.inl ⟨k, hk, rfl⟩
  skip
  have hl := lv_entry ([.ref (ad (429)), .int (id)]) (n := 2) (Nat.le_of_ble_eq_true rfl)
  refine W.eq (lg_entry_eq _ ([.ref (ad (429)), .int (id)]) _) ?_
  generalize (lg_sl ([.ref (ad (429)), .int (id)]) ++ List.replicate (2 - (lg_sl ([.ref (ad (429)), .int (id)])).length) Slot.unset).toArray = ls at hl ⊢
  have hl : lv_has ls 2 [(0, .ref (ad (429))), (1, .int (id))] := hl
  refine lv_aload_n hx hb dX9_previousPrint_0 rfl (lv_at hl 0 rfl) ?_
  refine sp_get hx hb hts wi_X9_previousPrint_X9 hown hK hP (κ := 429) (by decide) cE_sp rfl 0 (by decide) (hts _ (List.mem_of_getElem? (i := 1) rfl)) (fun _ h => h) rfl dX9_previousPrint_1 ?_
  refine lv_aload_n hx hb dX9_previousPrint_4 rfl (lv_at hl 0 rfl) ?_
  refine lv_iload_n hx hb dX9_previousPrint_5 rfl (lv_at hl 1 rfl) ?_
  have hS0_x_1 := hS.1
  refine sp_callx (vx_runV (As := [.int (id)]) (rest := [.ref (ad (0))]) ⟨hx, hb, hml, hown, hts⟩ (c_X9_requirePrint l D ad cy pm rj σ xq hst _ hi id) (cwV 1 hts gX9_previousPrint_X9_requirePrint rfl rfl rfl (by decide +kernel) ⟨Nat.le_of_ble_eq_true rfl, Nat.le_of_ble_eq_true rfl⟩) (sp_preVmx hK hP (hE.go hS) (κ := 429) (by decide) cE_sp rfl) rfl rfl hl.1 rfl (lv_room (Nat.le_of_ble_eq_true rfl)) dX9_previousPrint_6 ⟨Nat.le_of_ble_eq_true rfl, Nat.le_of_ble_eq_true rfl⟩) hS (fun q h1 h2 => sp_Alt h1 h2) (sp_Ale hS.1) (fun E_x_1 r_x_1 ce_x_1 q9_x_1 H locs hthr_x_1 hB_x_1 hle hfr hS hce_x_1 hcv_x_1 hcl_x_1 => ?_) (fun hthr_x_1 H locs hP hle hfr hS => ?_)
  · skip
    obtain ⟨rj9, hPx, hN⟩ := hB_x_1
    exact vx_out (fun x hx => (ht x hx).elim) hlocks hce_x_1 hcv_x_1 hcl_x_1 (fun T9 hT9 _ => ⟨r_x_1, show ((f_xPrint σ id).or (atO (f_findPrint σ id) none (fun k => f_xFound (f_before σ k))) : XO) = some (E_x_1, r_x_1) from (by first | (simp [Option.or, atO, eIOO, eIAE, eUOE, eNSE, eARE, eISE, hthr_x_1]; done) | (simp only [hthr_x_1]; simp [f_xPrint, f_xNo, f_xFound, atO, Option.or, atO, eIOO, eIAE, eUOE, eNSE, eARE, eISE, hthr_x_1]; done)), by rw [hT9]; exact ⟨rj9, hPx, hN.mono hS0_x_1⟩, hS.F hT9⟩) hS.2.2 (by omega) (by omega)
  · skip
    rcases opt_em (f_findPrint σ id) with q_2 | ⟨j_3, q_2⟩
    · exact absurd hthr_x_1 (by simp [f_xPrint, f_xNo, q_2])
    · have hj_3 := f_findPrint_lt q_2
      refine W.eq (g2 := F0 m 9 ls [.ref (ad (9 + j_3)), .ref (ad (0))]) (by rw [q_2]; rfl) ?_
      refine sp_call (W.runV (As := [.ref (ad (9 + j_3))]) (rest := []) ⟨hx, hb, hml, hown, hts⟩ (c_X0_before l D ad cy pm rj σ j_3 (by omega)) (cwV 1 hts gX9_previousPrint_X0_before rfl rfl rfl (by decide +kernel) ⟨Nat.le_of_ble_eq_true rfl, Nat.le_of_ble_eq_true rfl⟩) (sp_preV hK hP (κ := 0) (by omega) (cE_beach (by omega) (by omega)) rfl) rfl rfl hl.1 rfl (lv_room (Nat.le_of_ble_eq_true rfl)) dX9_previousPrint_9 ⟨Nat.le_of_ble_eq_true rfl, Nat.le_of_ble_eq_true rfl⟩) ?_
      rcases opt_em (f_before σ j_3) with q_4 | ⟨j_5, q_4⟩
      · refine W.eq (g2 := F0 m 12 ls [.null]) (by rw [q_4]; rfl) ?_
        have hS0_x_6 := hS.1
        refine sp_callx (vx_runS (As := [.null]) (rest := []) ⟨hx, hb, hml, hown, hts⟩ (c_X9_requireFound l D ad cy pm rj σ xq hst _ hi (none : Option Nat) (by intro j hj; first | (cases hj; done) | (cases hj; omega))) (va_cwS 1 hts gX9_previousPrint_X9_requireFound rfl rfl rfl (by decide +kernel) ⟨Nat.le_of_ble_eq_true rfl, Nat.le_of_ble_eq_true rfl⟩) (sp_preSmx hK hP (hE.go hS)) rfl rfl hl.1 rfl (lv_room (Nat.le_of_ble_eq_true rfl)) dX9_previousPrint_12 ⟨Nat.le_of_ble_eq_true rfl, Nat.le_of_ble_eq_true rfl⟩) hS (fun q h1 h2 => sp_Alt h1 h2) (sp_Ale hS.1) (fun E_x_6 r_x_6 ce_x_6 q9_x_6 H locs hthr_x_6 hB_x_6 hle hfr hS hce_x_6 hcv_x_6 hcl_x_6 => ?_) (fun hthr_x_6 H locs hP hle hfr hS => ?_)
        · skip
          obtain ⟨rj9, hPx, hN⟩ := hB_x_6
          exact vx_out (fun x hx => (ht x hx).elim) hlocks hce_x_6 hcv_x_6 hcl_x_6 (fun T9 hT9 _ => ⟨r_x_6, show ((f_xPrint σ id).or (atO (f_findPrint σ id) none (fun k => f_xFound (f_before σ k))) : XO) = some (E_x_6, r_x_6) from (by first | (simp [Option.or, atO, eIOO, eIAE, eUOE, eNSE, eARE, eISE, hthr_x_1, q_2, q_4, hthr_x_6]; done) | (simp only [hthr_x_1, hthr_x_6]; simp [f_xPrint, f_xNo, f_xFound, atO, Option.or, atO, eIOO, eIAE, eUOE, eNSE, eARE, eISE, hthr_x_1, q_2, q_4, hthr_x_6]; done)), by rw [hT9]; exact ⟨rj9, hPx, hN.mono hS0_x_6⟩, hS.F hT9⟩) hS.2.2 (by omega) (by omega)
        · skip
          exact absurd hthr_x_6 (by simp [f_xFound])
      · have hj_5 := f_before_lt q_4
        refine W.eq (g2 := F0 m 12 ls [.ref (ad (9 + j_5))]) (by rw [q_4]; rfl) ?_
        have hS0_x_9 := hS.1
        refine sp_callx (vx_runS (As := [.ref (ad (9 + j_5))]) (rest := []) ⟨hx, hb, hml, hown, hts⟩ (c_X9_requireFound l D ad cy pm rj σ xq hst _ hi (some (j_5)) (by intro j hj; first | (cases hj; done) | (cases hj; omega))) (va_cwS 1 hts gX9_previousPrint_X9_requireFound rfl rfl rfl (by decide +kernel) ⟨Nat.le_of_ble_eq_true rfl, Nat.le_of_ble_eq_true rfl⟩) (sp_preSmx hK hP (hE.go hS)) rfl rfl hl.1 rfl (lv_room (Nat.le_of_ble_eq_true rfl)) dX9_previousPrint_12 ⟨Nat.le_of_ble_eq_true rfl, Nat.le_of_ble_eq_true rfl⟩) hS (fun q h1 h2 => sp_Alt h1 h2) (sp_Ale hS.1) (fun E_x_9 r_x_9 ce_x_9 q9_x_9 H locs hthr_x_9 hB_x_9 hle hfr hS hce_x_9 hcv_x_9 hcl_x_9 => ?_) (fun hthr_x_9 H locs hP hle hfr hS => ?_)
        · skip
          obtain ⟨rj9, hPx, hN⟩ := hB_x_9
          exact vx_out (fun x hx => (ht x hx).elim) hlocks hce_x_9 hcv_x_9 hcl_x_9 (fun T9 hT9 _ => ⟨r_x_9, show ((f_xPrint σ id).or (atO (f_findPrint σ id) none (fun k => f_xFound (f_before σ k))) : XO) = some (E_x_9, r_x_9) from (by first | (simp [Option.or, atO, eIOO, eIAE, eUOE, eNSE, eARE, eISE, hthr_x_1, q_2, q_4, hthr_x_9]; done) | (simp only [hthr_x_1, hthr_x_9]; simp [f_xPrint, f_xNo, f_xFound, atO, Option.or, atO, eIOO, eIAE, eUOE, eNSE, eARE, eISE, hthr_x_1, q_2, q_4, hthr_x_9]; done)), by rw [hT9]; exact ⟨rj9, hPx, hN.mono hS0_x_9⟩, hS.F hT9⟩) hS.2.2 (by omega) (by omega)
        · skip
          refine W.eq (g2 := F0 m 15 ls [.ref (ad (9 + j_5))]) rfl ?_
          refine sp_get hx hb hts wi_X9_previousPrint_X3 hown hK hP (κ := 9 + j_5) (by omega) (cE_print (by omega) (by omega)) rfl 1 (by decide) (hts _ (List.mem_of_getElem? (i := 2) rfl)) (fun _ h => h) rfl dX9_previousPrint_15 ?_
          exact vx_ret (W.iret (v := σ (9 + j_5) 1) hx hb hr (fun T9 hT9 _ => ⟨show ((f_xPrint σ id).or (atO (f_findPrint σ id) none (fun k => f_xFound (f_before σ k))) : XO) = none from (by first | (simp [Option.or, atO, eIOO, eIAE, eUOE, eNSE, eARE, eISE, hthr_x_1, q_2, q_4, hthr_x_9]; done) | (simp only [hthr_x_1, hthr_x_9]; simp [f_xPrint, f_xNo, f_xFound, atO, Option.or, atO, eIOO, eIAE, eUOE, eNSE, eARE, eISE, hthr_x_1, q_2, q_4, hthr_x_9]; done)), congrArg (fun z9 => Outcome.returned (some (Value.int z9))) (show (σ (9 + j_5) 1 : Int32) = atO (f_findPrint σ id) 0 (fun k => atO (f_before σ k) 0 (fun j => σ (9 + j) 1)) from (by first | rfl | (simp [atO, b2i, hthr_x_1, q_2, q_4, hthr_x_9]; done))), by rw [hT9]; exact hP, hS.F hT9⟩) hS.2.2 dX9_previousPrint_18)

theorem wi_X9_nextPrint_X9 : ∀ w ∈ wsX90, w ∈ wsX9_nextPrint := by decide +kernel
theorem wi_X9_nextPrint_X3 : ∀ w ∈ wsX30, w ∈ wsX9_nextPrint := by decide +kernel
set_option maxHeartbeats 4000000 in
set_option maxRecDepth 100000 in
theorem c_X9_nextPrint (l : Launch) (D : va_G) (ad : Nat → Nat) (cy : Nat → ClassId) (pm : Nat → Nat) (rj : Option Nat) (σ : Nat → Nat → Int32) (xq : Nat → Nat) (hst : l.stackTraces = false) (sz : Nat) (hi : sp_inj ad 459) (id : Int32) : vx_Met l yX9_nextPrint wsX9_nextPrint ({ frames := 7, cells := 2, slots := 12, locals := 112 } : Room) (sp_Pmx xq ad 459 D (tyG cy) sz [.ref (ad (429)), .int (id)] (cW ad cy pm rj σ)) (sp_QT ((f_xPrint σ id).or (atO (f_findPrint σ id) none (fun k => f_xFound (f_after σ k)))) D (some (.int (atO (f_findPrint σ id) 0 (fun k => atO (f_after σ k) 0 (fun j => σ (9 + j) 1))))) (cW ad cy (pm) (rj) (σ)) (sp_A ad 459 sz)) (sp_XT ((f_xPrint σ id).or (atO (f_findPrint σ id) none (fun k => f_xFound (f_after σ k)))) (sp_B D ad cy (pm) (σ) sz rj) (sp_A ad 459 sz)) 2 12 (sp_A ad 459 sz) := by
  refine vx_ofW (cc := cX9_nextPrint) (maxL := 2) (ret := (some .int)) (by decide) rfl ?_
  intro p e s m args below meth c s₁ B hml ht hv
  obtain ⟨rfl, hsz, hP, hK, hE⟩ := hv
  have hx := B.exec
  have hb := B.bytes
  have hr := B.returns
  have hts := atoms_spec (ws := wsX9_nextPrint) B.pre
  have hown : s.vm.findClass RX9 = some m.cls := findClass_of_methodNamed B.named
  have hlocks := B.notSynchronized
  subst hsz
  have hlt0 : ∀ k, k < 459 → ad k < s.heap.size := fun k hk => (sp_P_at hP hk).lt
  have hS : va_S (sp_A ad 459 s.heap.size) s.heap s.heap [] := va_S.rf
  have hAk : ∀ k, k < 459 → (sp_A ad 459 s.heap.size) (ad k) := fun k hk => Or.inl ⟨k, hk, rfl⟩
  skip
  have hl := lv_entry ([.ref (ad (429)), .int (id)]) (n := 2) (Nat.le_of_ble_eq_true rfl)
  refine W.eq (lg_entry_eq _ ([.ref (ad (429)), .int (id)]) _) ?_
  generalize (lg_sl ([.ref (ad (429)), .int (id)]) ++ List.replicate (2 - (lg_sl ([.ref (ad (429)), .int (id)])).length) Slot.unset).toArray = ls at hl ⊢
  have hl : lv_has ls 2 [(0, .ref (ad (429))), (1, .int (id))] := hl
  refine lv_aload_n hx hb dX9_nextPrint_0 rfl (lv_at hl 0 rfl) ?_
  refine sp_get hx hb hts wi_X9_nextPrint_X9 hown hK hP (κ := 429) (by decide) cE_sp rfl 0 (by decide) (hts _ (List.mem_of_getElem? (i := 1) rfl)) (fun _ h => h) rfl dX9_nextPrint_1 ?_
  refine lv_aload_n hx hb dX9_nextPrint_4 rfl (lv_at hl 0 rfl) ?_
  refine lv_iload_n hx hb dX9_nextPrint_5 rfl (lv_at hl 1 rfl) ?_
  have hS0_x_1 := hS.1
  refine sp_callx (vx_runV (As := [.int (id)]) (rest := [.ref (ad (0))]) ⟨hx, hb, hml, hown, hts⟩ (c_X9_requirePrint l D ad cy pm rj σ xq hst _ hi id) (cwV 1 hts gX9_nextPrint_X9_requirePrint rfl rfl rfl (by decide +kernel) ⟨Nat.le_of_ble_eq_true rfl, Nat.le_of_ble_eq_true rfl⟩) (sp_preVmx hK hP (hE.go hS) (κ := 429) (by decide) cE_sp rfl) rfl rfl hl.1 rfl (lv_room (Nat.le_of_ble_eq_true rfl)) dX9_nextPrint_6 ⟨Nat.le_of_ble_eq_true rfl, Nat.le_of_ble_eq_true rfl⟩) hS (fun q h1 h2 => sp_Alt h1 h2) (sp_Ale hS.1) (fun E_x_1 r_x_1 ce_x_1 q9_x_1 H locs hthr_x_1 hB_x_1 hle hfr hS hce_x_1 hcv_x_1 hcl_x_1 => ?_) (fun hthr_x_1 H locs hP hle hfr hS => ?_)
  · skip
    obtain ⟨rj9, hPx, hN⟩ := hB_x_1
    exact vx_out (fun x hx => (ht x hx).elim) hlocks hce_x_1 hcv_x_1 hcl_x_1 (fun T9 hT9 _ => ⟨r_x_1, show ((f_xPrint σ id).or (atO (f_findPrint σ id) none (fun k => f_xFound (f_after σ k))) : XO) = some (E_x_1, r_x_1) from (by first | (simp [Option.or, atO, eIOO, eIAE, eUOE, eNSE, eARE, eISE, hthr_x_1]; done) | (simp only [hthr_x_1]; simp [f_xPrint, f_xNo, f_xFound, atO, Option.or, atO, eIOO, eIAE, eUOE, eNSE, eARE, eISE, hthr_x_1]; done)), by rw [hT9]; exact ⟨rj9, hPx, hN.mono hS0_x_1⟩, hS.F hT9⟩) hS.2.2 (by omega) (by omega)
  · skip
    rcases opt_em (f_findPrint σ id) with q_2 | ⟨j_3, q_2⟩
    · exact absurd hthr_x_1 (by simp [f_xPrint, f_xNo, q_2])
    · have hj_3 := f_findPrint_lt q_2
      refine W.eq (g2 := F0 m 9 ls [.ref (ad (9 + j_3)), .ref (ad (0))]) (by rw [q_2]; rfl) ?_
      refine sp_call (W.runV (As := [.ref (ad (9 + j_3))]) (rest := []) ⟨hx, hb, hml, hown, hts⟩ (c_X0_after l D ad cy pm rj σ j_3 (by omega)) (cwV 1 hts gX9_nextPrint_X0_after rfl rfl rfl (by decide +kernel) ⟨Nat.le_of_ble_eq_true rfl, Nat.le_of_ble_eq_true rfl⟩) (sp_preV hK hP (κ := 0) (by omega) (cE_beach (by omega) (by omega)) rfl) rfl rfl hl.1 rfl (lv_room (Nat.le_of_ble_eq_true rfl)) dX9_nextPrint_9 ⟨Nat.le_of_ble_eq_true rfl, Nat.le_of_ble_eq_true rfl⟩) ?_
      rcases opt_em (f_after σ j_3) with q_4 | ⟨j_5, q_4⟩
      · refine W.eq (g2 := F0 m 12 ls [.null]) (by rw [q_4]; rfl) ?_
        have hS0_x_6 := hS.1
        refine sp_callx (vx_runS (As := [.null]) (rest := []) ⟨hx, hb, hml, hown, hts⟩ (c_X9_requireFound l D ad cy pm rj σ xq hst _ hi (none : Option Nat) (by intro j hj; first | (cases hj; done) | (cases hj; omega))) (va_cwS 1 hts gX9_nextPrint_X9_requireFound rfl rfl rfl (by decide +kernel) ⟨Nat.le_of_ble_eq_true rfl, Nat.le_of_ble_eq_true rfl⟩) (sp_preSmx hK hP (hE.go hS)) rfl rfl hl.1 rfl (lv_room (Nat.le_of_ble_eq_true rfl)) dX9_nextPrint_12 ⟨Nat.le_of_ble_eq_true rfl, Nat.le_of_ble_eq_true rfl⟩) hS (fun q h1 h2 => sp_Alt h1 h2) (sp_Ale hS.1) (fun E_x_6 r_x_6 ce_x_6 q9_x_6 H locs hthr_x_6 hB_x_6 hle hfr hS hce_x_6 hcv_x_6 hcl_x_6 => ?_) (fun hthr_x_6 H locs hP hle hfr hS => ?_)
        · skip
          obtain ⟨rj9, hPx, hN⟩ := hB_x_6
          exact vx_out (fun x hx => (ht x hx).elim) hlocks hce_x_6 hcv_x_6 hcl_x_6 (fun T9 hT9 _ => ⟨r_x_6, show ((f_xPrint σ id).or (atO (f_findPrint σ id) none (fun k => f_xFound (f_after σ k))) : XO) = some (E_x_6, r_x_6) from (by first | (simp [Option.or, atO, eIOO, eIAE, eUOE, eNSE, eARE, eISE, hthr_x_1, q_2, q_4, hthr_x_6]; done) | (simp only [hthr_x_1, hthr_x_6]; simp [f_xPrint, f_xNo, f_xFound, atO, Option.or, atO, eIOO, eIAE, eUOE, eNSE, eARE, eISE, hthr_x_1, q_2, q_4, hthr_x_6]; done)), by rw [hT9]; exact ⟨rj9, hPx, hN.mono hS0_x_6⟩, hS.F hT9⟩) hS.2.2 (by omega) (by omega)
        · skip
          exact absurd hthr_x_6 (by simp [f_xFound])
      · have hj_5 := f_after_lt q_4
        refine W.eq (g2 := F0 m 12 ls [.ref (ad (9 + j_5))]) (by rw [q_4]; rfl) ?_
        have hS0_x_9 := hS.1
        refine sp_callx (vx_runS (As := [.ref (ad (9 + j_5))]) (rest := []) ⟨hx, hb, hml, hown, hts⟩ (c_X9_requireFound l D ad cy pm rj σ xq hst _ hi (some (j_5)) (by intro j hj; first | (cases hj; done) | (cases hj; omega))) (va_cwS 1 hts gX9_nextPrint_X9_requireFound rfl rfl rfl (by decide +kernel) ⟨Nat.le_of_ble_eq_true rfl, Nat.le_of_ble_eq_true rfl⟩) (sp_preSmx hK hP (hE.go hS)) rfl rfl hl.1 rfl (lv_room (Nat.le_of_ble_eq_true rfl)) dX9_nextPrint_12 ⟨Nat.le_of_ble_eq_true rfl, Nat.le_of_ble_eq_true rfl⟩) hS (fun q h1 h2 => sp_Alt h1 h2) (sp_Ale hS.1) (fun E_x_9 r_x_9 ce_x_9 q9_x_9 H locs hthr_x_9 hB_x_9 hle hfr hS hce_x_9 hcv_x_9 hcl_x_9 => ?_) (fun hthr_x_9 H locs hP hle hfr hS => ?_)
        · skip
          obtain ⟨rj9, hPx, hN⟩ := hB_x_9
          exact vx_out (fun x hx => (ht x hx).elim) hlocks hce_x_9 hcv_x_9 hcl_x_9 (fun T9 hT9 _ => ⟨r_x_9, show ((f_xPrint σ id).or (atO (f_findPrint σ id) none (fun k => f_xFound (f_after σ k))) : XO) = some (E_x_9, r_x_9) from (by first | (simp [Option.or, atO, eIOO, eIAE, eUOE, eNSE, eARE, eISE, hthr_x_1, q_2, q_4, hthr_x_9]; done) | (simp only [hthr_x_1, hthr_x_9]; simp [f_xPrint, f_xNo, f_xFound, atO, Option.or, atO, eIOO, eIAE, eUOE, eNSE, eARE, eISE, hthr_x_1, q_2, q_4, hthr_x_9]; done)), by rw [hT9]; exact ⟨rj9, hPx, hN.mono hS0_x_9⟩, hS.F hT9⟩) hS.2.2 (by omega) (by omega)
        · skip
          refine W.eq (g2 := F0 m 15 ls [.ref (ad (9 + j_5))]) rfl ?_
          refine sp_get hx hb hts wi_X9_nextPrint_X3 hown hK hP (κ := 9 + j_5) (by omega) (cE_print (by omega) (by omega)) rfl 1 (by decide) (hts _ (List.mem_of_getElem? (i := 2) rfl)) (fun _ h => h) rfl dX9_nextPrint_15 ?_
          exact vx_ret (W.iret (v := σ (9 + j_5) 1) hx hb hr (fun T9 hT9 _ => ⟨show ((f_xPrint σ id).or (atO (f_findPrint σ id) none (fun k => f_xFound (f_after σ k))) : XO) = none from (by first | (simp [Option.or, atO, eIOO, eIAE, eUOE, eNSE, eARE, eISE, hthr_x_1, q_2, q_4, hthr_x_9]; done) | (simp only [hthr_x_1, hthr_x_9]; simp [f_xPrint, f_xNo, f_xFound, atO, Option.or, atO, eIOO, eIAE, eUOE, eNSE, eARE, eISE, hthr_x_1, q_2, q_4, hthr_x_9]; done)), congrArg (fun z9 => Outcome.returned (some (Value.int z9))) (show (σ (9 + j_5) 1 : Int32) = atO (f_findPrint σ id) 0 (fun k => atO (f_after σ k) 0 (fun j => σ (9 + j) 1)) from (by first | rfl | (simp [atO, b2i, hthr_x_1, q_2, q_4, hthr_x_9]; done))), by rw [hT9]; exact hP, hS.F hT9⟩) hS.2.2 dX9_nextPrint_18)

theorem wi_X9_strideOf_X9 : ∀ w ∈ wsX90, w ∈ wsX9_strideOf := by decide +kernel
theorem wi_X9_strideOf_X3 : ∀ w ∈ wsX30, w ∈ wsX9_strideOf := by decide +kernel
set_option maxHeartbeats 4000000 in
set_option maxRecDepth 100000 in
theorem c_X9_strideOf (l : Launch) (D : va_G) (ad : Nat → Nat) (cy : Nat → ClassId) (pm : Nat → Nat) (rj : Option Nat) (σ : Nat → Nat → Int32) (xq : Nat → Nat) (hst : l.stackTraces = false) (sz : Nat) (hi : sp_inj ad 459) (id : Int32) : vx_Met l yX9_strideOf wsX9_strideOf ({ frames := 7, cells := 2, slots := 12, locals := 112 } : Room) (sp_Pmx xq ad 459 D (tyG cy) sz [.ref (ad (429)), .int (id)] (cW ad cy pm rj σ)) (sp_QT ((f_xPrint σ id).or (atO (f_findPrint σ id) none (fun k => f_xFound (f_before σ k)))) D (some (.int (atO (f_findPrint σ id) 0 (fun k => atO (f_before σ k) 0 (fun j => f_dist σ (9 + k) (σ (9 + j) 4) (σ (9 + j) 5)))))) (cW ad cy (pm) (rj) (σ)) (sp_A ad 459 sz)) (sp_XT ((f_xPrint σ id).or (atO (f_findPrint σ id) none (fun k => f_xFound (f_before σ k)))) (sp_B D ad cy (pm) (σ) sz rj) (sp_A ad 459 sz)) 2 12 (sp_A ad 459 sz) := by
  refine vx_ofW (cc := cX9_strideOf) (maxL := 4) (ret := (some .int)) (by decide) rfl ?_
  intro p e s m args below meth c s₁ B hml ht hv
  obtain ⟨rfl, hsz, hP, hK, hE⟩ := hv
  have hx := B.exec
  have hb := B.bytes
  have hr := B.returns
  have hts := atoms_spec (ws := wsX9_strideOf) B.pre
  have hown : s.vm.findClass RX9 = some m.cls := findClass_of_methodNamed B.named
  have hlocks := B.notSynchronized
  subst hsz
  have hlt0 : ∀ k, k < 459 → ad k < s.heap.size := fun k hk => (sp_P_at hP hk).lt
  have hS : va_S (sp_A ad 459 s.heap.size) s.heap s.heap [] := va_S.rf
  have hAk : ∀ k, k < 459 → (sp_A ad 459 s.heap.size) (ad k) := fun k hk => Or.inl ⟨k, hk, rfl⟩
  skip
  have hl := lv_entry ([.ref (ad (429)), .int (id)]) (n := 4) (Nat.le_of_ble_eq_true rfl)
  refine W.eq (lg_entry_eq _ ([.ref (ad (429)), .int (id)]) _) ?_
  generalize (lg_sl ([.ref (ad (429)), .int (id)]) ++ List.replicate (4 - (lg_sl ([.ref (ad (429)), .int (id)])).length) Slot.unset).toArray = ls at hl ⊢
  have hl : lv_has ls 4 [(0, .ref (ad (429))), (1, .int (id))] := hl
  refine lv_aload_n hx hb dX9_strideOf_0 rfl (lv_at hl 0 rfl) ?_
  refine lv_iload_n hx hb dX9_strideOf_1 rfl (lv_at hl 1 rfl) ?_
  have hS0_x_1 := hS.1
  refine sp_callx (vx_runV (As := [.int (id)]) (rest := []) ⟨hx, hb, hml, hown, hts⟩ (c_X9_requirePrint l D ad cy pm rj σ xq hst _ hi id) (cwV 1 hts gX9_strideOf_X9_requirePrint rfl rfl rfl (by decide +kernel) ⟨Nat.le_of_ble_eq_true rfl, Nat.le_of_ble_eq_true rfl⟩) (sp_preVmx hK hP (hE.go hS) (κ := 429) (by decide) cE_sp rfl) rfl rfl hl.1 rfl (lv_room (Nat.le_of_ble_eq_true rfl)) dX9_strideOf_2 ⟨Nat.le_of_ble_eq_true rfl, Nat.le_of_ble_eq_true rfl⟩) hS (fun q h1 h2 => sp_Alt h1 h2) (sp_Ale hS.1) (fun E_x_1 r_x_1 ce_x_1 q9_x_1 H locs hthr_x_1 hB_x_1 hle hfr hS hce_x_1 hcv_x_1 hcl_x_1 => ?_) (fun hthr_x_1 H locs hP hle hfr hS => ?_)
  · skip
    obtain ⟨rj9, hPx, hN⟩ := hB_x_1
    exact vx_out (fun x hx => (ht x hx).elim) hlocks hce_x_1 hcv_x_1 hcl_x_1 (fun T9 hT9 _ => ⟨r_x_1, show ((f_xPrint σ id).or (atO (f_findPrint σ id) none (fun k => f_xFound (f_before σ k))) : XO) = some (E_x_1, r_x_1) from (by first | (simp [Option.or, atO, eIOO, eIAE, eUOE, eNSE, eARE, eISE, hthr_x_1]; done) | (simp only [hthr_x_1]; simp [f_xPrint, f_xNo, f_xFound, atO, Option.or, atO, eIOO, eIAE, eUOE, eNSE, eARE, eISE, hthr_x_1]; done)), by rw [hT9]; exact ⟨rj9, hPx, hN.mono hS0_x_1⟩, hS.F hT9⟩) hS.2.2 (by omega) (by omega)
  · skip
    rcases opt_em (f_findPrint σ id) with q_2 | ⟨j_3, q_2⟩
    · exact absurd hthr_x_1 (by simp [f_xPrint, f_xNo, q_2])
    · have hj_3 := f_findPrint_lt q_2
      refine W.eq (g2 := F0 m 5 ls [.ref (ad (9 + j_3))]) (by rw [q_2]; rfl) ?_
      refine lv_astore_n (lv' := [(2, .ref (ad (9 + j_3))), (0, .ref (ad (429))), (1, .int (id))]) hx hb dX9_strideOf_5 rfl hl (by decide) rfl (fun ls hl => ?_)
      refine lv_aload_n hx hb dX9_strideOf_6 rfl (lv_at hl 1 rfl) ?_
      refine sp_get hx hb hts wi_X9_strideOf_X9 hown hK hP (κ := 429) (by decide) cE_sp rfl 0 (by decide) (hts _ (List.mem_of_getElem? (i := 1) rfl)) (fun _ h => h) rfl dX9_strideOf_7 ?_
      refine lv_aload_n hx hb dX9_strideOf_10 rfl (lv_at hl 0 rfl) ?_
      refine sp_call (W.runV (As := [.ref (ad (9 + j_3))]) (rest := []) ⟨hx, hb, hml, hown, hts⟩ (c_X0_before l D ad cy pm rj σ j_3 (by omega)) (cwV 1 hts gX9_strideOf_X0_before rfl rfl rfl (by decide +kernel) ⟨Nat.le_of_ble_eq_true rfl, Nat.le_of_ble_eq_true rfl⟩) (sp_preV hK hP (κ := 0) (by omega) (cE_beach (by omega) (by omega)) rfl) rfl rfl hl.1 rfl (lv_room (Nat.le_of_ble_eq_true rfl)) dX9_strideOf_11 ⟨Nat.le_of_ble_eq_true rfl, Nat.le_of_ble_eq_true rfl⟩) ?_
      rcases opt_em (f_before σ j_3) with q_4 | ⟨j_5, q_4⟩
      · refine W.eq (g2 := F0 m 14 ls [.null]) (by rw [q_4]; rfl) ?_
        have hS0_x_6 := hS.1
        refine sp_callx (vx_runS (As := [.null]) (rest := []) ⟨hx, hb, hml, hown, hts⟩ (c_X9_requireFound l D ad cy pm rj σ xq hst _ hi (none : Option Nat) (by intro j hj; first | (cases hj; done) | (cases hj; omega))) (va_cwS 1 hts gX9_strideOf_X9_requireFound rfl rfl rfl (by decide +kernel) ⟨Nat.le_of_ble_eq_true rfl, Nat.le_of_ble_eq_true rfl⟩) (sp_preSmx hK hP (hE.go hS)) rfl rfl hl.1 rfl (lv_room (Nat.le_of_ble_eq_true rfl)) dX9_strideOf_14 ⟨Nat.le_of_ble_eq_true rfl, Nat.le_of_ble_eq_true rfl⟩) hS (fun q h1 h2 => sp_Alt h1 h2) (sp_Ale hS.1) (fun E_x_6 r_x_6 ce_x_6 q9_x_6 H locs hthr_x_6 hB_x_6 hle hfr hS hce_x_6 hcv_x_6 hcl_x_6 => ?_) (fun hthr_x_6 H locs hP hle hfr hS => ?_)
        · skip
          obtain ⟨rj9, hPx, hN⟩ := hB_x_6
          exact vx_out (fun x hx => (ht x hx).elim) hlocks hce_x_6 hcv_x_6 hcl_x_6 (fun T9 hT9 _ => ⟨r_x_6, show ((f_xPrint σ id).or (atO (f_findPrint σ id) none (fun k => f_xFound (f_before σ k))) : XO) = some (E_x_6, r_x_6) from (by first | (simp [Option.or, atO, eIOO, eIAE, eUOE, eNSE, eARE, eISE, hthr_x_1, q_2, q_4, hthr_x_6]; done) | (simp only [hthr_x_1, hthr_x_6]; simp [f_xPrint, f_xNo, f_xFound, atO, Option.or, atO, eIOO, eIAE, eUOE, eNSE, eARE, eISE, hthr_x_1, q_2, q_4, hthr_x_6]; done)), by rw [hT9]; exact ⟨rj9, hPx, hN.mono hS0_x_6⟩, hS.F hT9⟩) hS.2.2 (by omega) (by omega)
        · skip
          exact absurd hthr_x_6 (by simp [f_xFound])
      · have hj_5 := f_before_lt q_4
        refine W.eq (g2 := F0 m 14 ls [.ref (ad (9 + j_5))]) (by rw [q_4]; rfl) ?_
        have hS0_x_9 := hS.1
        refine sp_callx (vx_runS (As := [.ref (ad (9 + j_5))]) (rest := []) ⟨hx, hb, hml, hown, hts⟩ (c_X9_requireFound l D ad cy pm rj σ xq hst _ hi (some (j_5)) (by intro j hj; first | (cases hj; done) | (cases hj; omega))) (va_cwS 1 hts gX9_strideOf_X9_requireFound rfl rfl rfl (by decide +kernel) ⟨Nat.le_of_ble_eq_true rfl, Nat.le_of_ble_eq_true rfl⟩) (sp_preSmx hK hP (hE.go hS)) rfl rfl hl.1 rfl (lv_room (Nat.le_of_ble_eq_true rfl)) dX9_strideOf_14 ⟨Nat.le_of_ble_eq_true rfl, Nat.le_of_ble_eq_true rfl⟩) hS (fun q h1 h2 => sp_Alt h1 h2) (sp_Ale hS.1) (fun E_x_9 r_x_9 ce_x_9 q9_x_9 H locs hthr_x_9 hB_x_9 hle hfr hS hce_x_9 hcv_x_9 hcl_x_9 => ?_) (fun hthr_x_9 H locs hP hle hfr hS => ?_)
        · skip
          obtain ⟨rj9, hPx, hN⟩ := hB_x_9
          exact vx_out (fun x hx => (ht x hx).elim) hlocks hce_x_9 hcv_x_9 hcl_x_9 (fun T9 hT9 _ => ⟨r_x_9, show ((f_xPrint σ id).or (atO (f_findPrint σ id) none (fun k => f_xFound (f_before σ k))) : XO) = some (E_x_9, r_x_9) from (by first | (simp [Option.or, atO, eIOO, eIAE, eUOE, eNSE, eARE, eISE, hthr_x_1, q_2, q_4, hthr_x_9]; done) | (simp only [hthr_x_1, hthr_x_9]; simp [f_xPrint, f_xNo, f_xFound, atO, Option.or, atO, eIOO, eIAE, eUOE, eNSE, eARE, eISE, hthr_x_1, q_2, q_4, hthr_x_9]; done)), by rw [hT9]; exact ⟨rj9, hPx, hN.mono hS0_x_9⟩, hS.F hT9⟩) hS.2.2 (by omega) (by omega)
        · skip
          refine W.eq (g2 := F0 m 17 ls [.ref (ad (9 + j_5))]) rfl ?_
          refine lv_astore_n (lv' := [(3, .ref (ad (9 + j_5))), (2, .ref (ad (9 + j_3))), (0, .ref (ad (429))), (1, .int (id))]) hx hb dX9_strideOf_17 rfl hl (by decide) rfl (fun ls hl => ?_)
          refine lv_aload_n hx hb dX9_strideOf_18 rfl (lv_at hl 1 rfl) ?_
          refine lv_aload_n hx hb dX9_strideOf_19 rfl (lv_at hl 0 rfl) ?_
          refine sp_get hx hb hts wi_X9_strideOf_X3 hown hK hP (κ := 9 + j_5) (by omega) (cE_print (by omega) (by omega)) rfl 4 (by decide) (hts _ (List.mem_of_getElem? (i := 2) rfl)) (fun _ h => h) rfl dX9_strideOf_20 ?_
          refine lv_aload_n hx hb dX9_strideOf_23 rfl (lv_at hl 0 rfl) ?_
          refine sp_get hx hb hts wi_X9_strideOf_X3 hown hK hP (κ := 9 + j_5) (by omega) (cE_print (by omega) (by omega)) rfl 5 (by decide) (hts _ (List.mem_of_getElem? (i := 3) rfl)) (fun _ h => h) rfl dX9_strideOf_24 ?_
          refine sp_call (W.runV (As := [.int (σ (9 + j_5) 4), .int (σ (9 + j_5) 5)]) (rest := []) ⟨hx, hb, hml, hown, hts⟩ (c_X3_distanceTo l D ad cy pm rj σ (9 + j_3) (by omega) (by omega) (σ (9 + j_5) 4) (σ (9 + j_5) 5)) (cwV 2 hts gX9_strideOf_X3_distanceTo rfl rfl rfl (by decide +kernel) ⟨Nat.le_of_ble_eq_true rfl, Nat.le_of_ble_eq_true rfl⟩) (sp_preV hK hP (κ := 9 + j_3) (by omega) (cE_print (by omega) (by omega)) rfl) rfl rfl hl.1 rfl (lv_room (Nat.le_of_ble_eq_true rfl)) dX9_strideOf_27 ⟨Nat.le_of_ble_eq_true rfl, Nat.le_of_ble_eq_true rfl⟩) ?_
          refine W.eq (g2 := F0 m 30 ls [.int (f_dist σ (9 + j_3) (σ (9 + j_5) 4) (σ (9 + j_5) 5))]) rfl ?_
          exact vx_ret (W.iret (v := f_dist σ (9 + j_3) (σ (9 + j_5) 4) (σ (9 + j_5) 5)) hx hb hr (fun T9 hT9 _ => ⟨show ((f_xPrint σ id).or (atO (f_findPrint σ id) none (fun k => f_xFound (f_before σ k))) : XO) = none from (by first | (simp [Option.or, atO, eIOO, eIAE, eUOE, eNSE, eARE, eISE, hthr_x_1, q_2, q_4, hthr_x_9]; done) | (simp only [hthr_x_1, hthr_x_9]; simp [f_xPrint, f_xNo, f_xFound, atO, Option.or, atO, eIOO, eIAE, eUOE, eNSE, eARE, eISE, hthr_x_1, q_2, q_4, hthr_x_9]; done)), congrArg (fun z9 => Outcome.returned (some (Value.int z9))) (show (f_dist σ (9 + j_3) (σ (9 + j_5) 4) (σ (9 + j_5) 5) : Int32) = atO (f_findPrint σ id) 0 (fun k => atO (f_before σ k) 0 (fun j => f_dist σ (9 + k) (σ (9 + j) 4) (σ (9 + j) 5))) from (by first | rfl | (simp [atO, b2i, hthr_x_1, q_2, q_4, hthr_x_9]; done))), by rw [hT9]; exact hP, hS.F hT9⟩) hS.2.2 dX9_strideOf_30)

theorem wi_X9_hasStrideError_X9 : ∀ w ∈ wsX90, w ∈ wsX9_hasStrideError := by decide +kernel
set_option maxHeartbeats 4000000 in
set_option maxRecDepth 100000 in
theorem c_X9_hasStrideError (l : Launch) (D : va_G) (ad : Nat → Nat) (cy : Nat → ClassId) (pm : Nat → Nat) (rj : Option Nat) (σ : Nat → Nat → Int32) (xq : Nat → Nat) (hst : l.stackTraces = false) (sz : Nat) (hi : sp_inj ad 459) (id : Int32) : vx_Met l yX9_hasStrideError wsX9_hasStrideError ({ frames := 7, cells := 1, slots := 6, locals := 112 } : Room) (sp_Pmx xq ad 459 D (tyG cy) sz [.ref (ad (429)), .int (id)] (cW ad cy pm rj σ)) (sp_QT (f_xPrint σ id) D (some (.int (b2i (atO (f_findPrint σ id) false (fun k => f_tooLong σ (f_before σ k) k))))) (cW ad cy (pm) (rj) (σ)) (sp_A ad 459 sz)) (sp_XT (f_xPrint σ id) (sp_B D ad cy (pm) (σ) sz rj) (sp_A ad 459 sz)) 1 6 (sp_A ad 459 sz) := by
  refine vx_ofW (cc := cX9_hasStrideError) (maxL := 2) (ret := (some .boolean)) (by decide) rfl ?_
  intro p e s m args below meth c s₁ B hml ht hv
  obtain ⟨rfl, hsz, hP, hK, hE⟩ := hv
  have hx := B.exec
  have hb := B.bytes
  have hr := B.returns
  have hts := atoms_spec (ws := wsX9_hasStrideError) B.pre
  have hown : s.vm.findClass RX9 = some m.cls := findClass_of_methodNamed B.named
  have hlocks := B.notSynchronized
  subst hsz
  have hlt0 : ∀ k, k < 459 → ad k < s.heap.size := fun k hk => (sp_P_at hP hk).lt
  have hS : va_S (sp_A ad 459 s.heap.size) s.heap s.heap [] := va_S.rf
  have hAk : ∀ k, k < 459 → (sp_A ad 459 s.heap.size) (ad k) := fun k hk => Or.inl ⟨k, hk, rfl⟩
  skip
  have hl := lv_entry ([.ref (ad (429)), .int (id)]) (n := 2) (Nat.le_of_ble_eq_true rfl)
  refine W.eq (lg_entry_eq _ ([.ref (ad (429)), .int (id)]) _) ?_
  generalize (lg_sl ([.ref (ad (429)), .int (id)]) ++ List.replicate (2 - (lg_sl ([.ref (ad (429)), .int (id)])).length) Slot.unset).toArray = ls at hl ⊢
  have hl : lv_has ls 2 [(0, .ref (ad (429))), (1, .int (id))] := hl
  refine lv_aload_n hx hb dX9_hasStrideError_0 rfl (lv_at hl 0 rfl) ?_
  refine sp_get hx hb hts wi_X9_hasStrideError_X9 hown hK hP (κ := 429) (by decide) cE_sp rfl 1 (by decide) (hts _ (List.mem_of_getElem? (i := 1) rfl)) (fun _ h => h) rfl dX9_hasStrideError_1 ?_
  refine lv_aload_n hx hb dX9_hasStrideError_4 rfl (lv_at hl 0 rfl) ?_
  refine lv_iload_n hx hb dX9_hasStrideError_5 rfl (lv_at hl 1 rfl) ?_
  have hS0_x_1 := hS.1
  refine sp_callx (vx_runV (As := [.int (id)]) (rest := [.ref (ad (430))]) ⟨hx, hb, hml, hown, hts⟩ (c_X9_requirePrint l D ad cy pm rj σ xq hst _ hi id) (cwV 1 hts gX9_hasStrideError_X9_requirePrint rfl rfl rfl (by decide +kernel) ⟨Nat.le_of_ble_eq_true rfl, Nat.le_of_ble_eq_true rfl⟩) (sp_preVmx hK hP (hE.go hS) (κ := 429) (by decide) cE_sp rfl) rfl rfl hl.1 rfl (lv_room (Nat.le_of_ble_eq_true rfl)) dX9_hasStrideError_6 ⟨Nat.le_of_ble_eq_true rfl, Nat.le_of_ble_eq_true rfl⟩) hS (fun q h1 h2 => sp_Alt h1 h2) (sp_Ale hS.1) (fun E_x_1 r_x_1 ce_x_1 q9_x_1 H locs hthr_x_1 hB_x_1 hle hfr hS hce_x_1 hcv_x_1 hcl_x_1 => ?_) (fun hthr_x_1 H locs hP hle hfr hS => ?_)
  · skip
    obtain ⟨rj9, hPx, hN⟩ := hB_x_1
    exact vx_out (fun x hx => (ht x hx).elim) hlocks hce_x_1 hcv_x_1 hcl_x_1 (fun T9 hT9 _ => ⟨r_x_1, show (f_xPrint σ id : XO) = some (E_x_1, r_x_1) from (by first | (simp [Option.or, atO, eIOO, eIAE, eUOE, eNSE, eARE, eISE, hthr_x_1]; done) | (simp only [hthr_x_1]; simp [f_xPrint, f_xNo, f_xFound, atO, Option.or, atO, eIOO, eIAE, eUOE, eNSE, eARE, eISE, hthr_x_1]; done)), by rw [hT9]; exact ⟨rj9, hPx, hN.mono hS0_x_1⟩, hS.F hT9⟩) hS.2.2 (by omega) (by omega)
  · skip
    rcases opt_em (f_findPrint σ id) with q_2 | ⟨j_3, q_2⟩
    · exact absurd hthr_x_1 (by simp [f_xPrint, f_xNo, q_2])
    · have hj_3 := f_findPrint_lt q_2
      refine W.eq (g2 := F0 m 9 ls [.ref (ad (9 + j_3)), .ref (ad (430))]) (by rw [q_2]; rfl) ?_
      refine sp_call (W.runV (As := [.ref (ad (9 + j_3))]) (rest := []) ⟨hx, hb, hml, hown, hts⟩ (c_X4_strideIsWrong l D ad cy pm rj σ j_3 (by omega)) (cwV 1 hts gX9_hasStrideError_X4_strideIsWrong rfl rfl rfl (by decide +kernel) ⟨Nat.le_of_ble_eq_true rfl, Nat.le_of_ble_eq_true rfl⟩) (sp_preV hK hP (κ := 430) (by decide) cE_proof rfl) rfl rfl hl.1 rfl (lv_room (Nat.le_of_ble_eq_true rfl)) dX9_hasStrideError_9 ⟨Nat.le_of_ble_eq_true rfl, Nat.le_of_ble_eq_true rfl⟩) ?_
      refine W.eq (g2 := F0 m 12 ls [.int (b2i (f_tooLong σ (f_before σ j_3) j_3))]) rfl ?_
      exact vx_ret (W.zret (v := b2i (f_tooLong σ (f_before σ j_3) j_3)) hx hb hr ((nz_of (bz_b2i _)).1) (fun T9 hT9 _ => ⟨show (f_xPrint σ id : XO) = none from (by first | (simp [Option.or, atO, eIOO, eIAE, eUOE, eNSE, eARE, eISE, hthr_x_1, q_2]; done) | (simp only [hthr_x_1]; simp [f_xPrint, f_xNo, f_xFound, atO, Option.or, atO, eIOO, eIAE, eUOE, eNSE, eARE, eISE, hthr_x_1, q_2]; done)), congrArg (fun z9 => Outcome.returned (some (Value.int z9))) (show (b2i (f_tooLong σ (f_before σ j_3) j_3) : Int32) = b2i (atO (f_findPrint σ id) false (fun k => f_tooLong σ (f_before σ k) k)) from (by first | rfl | (simp [atO, b2i, hthr_x_1, q_2]; done))), by rw [hT9]; exact hP, hS.F hT9⟩) hS.2.2 dX9_hasStrideError_12)

theorem wi_X9_hasFootError_X9 : ∀ w ∈ wsX90, w ∈ wsX9_hasFootError := by decide +kernel
set_option maxHeartbeats 4000000 in
set_option maxRecDepth 100000 in
theorem c_X9_hasFootError (l : Launch) (D : va_G) (ad : Nat → Nat) (cy : Nat → ClassId) (pm : Nat → Nat) (rj : Option Nat) (σ : Nat → Nat → Int32) (xq : Nat → Nat) (hst : l.stackTraces = false) (sz : Nat) (hi : sp_inj ad 459) (id : Int32) : vx_Met l yX9_hasFootError wsX9_hasFootError ({ frames := 7, cells := 1, slots := 6, locals := 112 } : Room) (sp_Pmx xq ad 459 D (tyG cy) sz [.ref (ad (429)), .int (id)] (cW ad cy pm rj σ)) (sp_QT (f_xPrint σ id) D (some (.int (b2i (atO (f_findPrint σ id) false (fun k => f_sameFoot σ (f_before σ k) k))))) (cW ad cy (pm) (rj) (σ)) (sp_A ad 459 sz)) (sp_XT (f_xPrint σ id) (sp_B D ad cy (pm) (σ) sz rj) (sp_A ad 459 sz)) 1 6 (sp_A ad 459 sz) := by
  refine vx_ofW (cc := cX9_hasFootError) (maxL := 2) (ret := (some .boolean)) (by decide) rfl ?_
  intro p e s m args below meth c s₁ B hml ht hv
  obtain ⟨rfl, hsz, hP, hK, hE⟩ := hv
  have hx := B.exec
  have hb := B.bytes
  have hr := B.returns
  have hts := atoms_spec (ws := wsX9_hasFootError) B.pre
  have hown : s.vm.findClass RX9 = some m.cls := findClass_of_methodNamed B.named
  have hlocks := B.notSynchronized
  subst hsz
  have hlt0 : ∀ k, k < 459 → ad k < s.heap.size := fun k hk => (sp_P_at hP hk).lt
  have hS : va_S (sp_A ad 459 s.heap.size) s.heap s.heap [] := va_S.rf
  have hAk : ∀ k, k < 459 → (sp_A ad 459 s.heap.size) (ad k) := fun k hk => Or.inl ⟨k, hk, rfl⟩
  skip
  have hl := lv_entry ([.ref (ad (429)), .int (id)]) (n := 2) (Nat.le_of_ble_eq_true rfl)
  refine W.eq (lg_entry_eq _ ([.ref (ad (429)), .int (id)]) _) ?_
  generalize (lg_sl ([.ref (ad (429)), .int (id)]) ++ List.replicate (2 - (lg_sl ([.ref (ad (429)), .int (id)])).length) Slot.unset).toArray = ls at hl ⊢
  have hl : lv_has ls 2 [(0, .ref (ad (429))), (1, .int (id))] := hl
  refine lv_aload_n hx hb dX9_hasFootError_0 rfl (lv_at hl 0 rfl) ?_
  refine sp_get hx hb hts wi_X9_hasFootError_X9 hown hK hP (κ := 429) (by decide) cE_sp rfl 1 (by decide) (hts _ (List.mem_of_getElem? (i := 1) rfl)) (fun _ h => h) rfl dX9_hasFootError_1 ?_
  refine lv_aload_n hx hb dX9_hasFootError_4 rfl (lv_at hl 0 rfl) ?_
  refine lv_iload_n hx hb dX9_hasFootError_5 rfl (lv_at hl 1 rfl) ?_
  have hS0_x_1 := hS.1
  refine sp_callx (vx_runV (As := [.int (id)]) (rest := [.ref (ad (430))]) ⟨hx, hb, hml, hown, hts⟩ (c_X9_requirePrint l D ad cy pm rj σ xq hst _ hi id) (cwV 1 hts gX9_hasFootError_X9_requirePrint rfl rfl rfl (by decide +kernel) ⟨Nat.le_of_ble_eq_true rfl, Nat.le_of_ble_eq_true rfl⟩) (sp_preVmx hK hP (hE.go hS) (κ := 429) (by decide) cE_sp rfl) rfl rfl hl.1 rfl (lv_room (Nat.le_of_ble_eq_true rfl)) dX9_hasFootError_6 ⟨Nat.le_of_ble_eq_true rfl, Nat.le_of_ble_eq_true rfl⟩) hS (fun q h1 h2 => sp_Alt h1 h2) (sp_Ale hS.1) (fun E_x_1 r_x_1 ce_x_1 q9_x_1 H locs hthr_x_1 hB_x_1 hle hfr hS hce_x_1 hcv_x_1 hcl_x_1 => ?_) (fun hthr_x_1 H locs hP hle hfr hS => ?_)
  · skip
    obtain ⟨rj9, hPx, hN⟩ := hB_x_1
    exact vx_out (fun x hx => (ht x hx).elim) hlocks hce_x_1 hcv_x_1 hcl_x_1 (fun T9 hT9 _ => ⟨r_x_1, show (f_xPrint σ id : XO) = some (E_x_1, r_x_1) from (by first | (simp [Option.or, atO, eIOO, eIAE, eUOE, eNSE, eARE, eISE, hthr_x_1]; done) | (simp only [hthr_x_1]; simp [f_xPrint, f_xNo, f_xFound, atO, Option.or, atO, eIOO, eIAE, eUOE, eNSE, eARE, eISE, hthr_x_1]; done)), by rw [hT9]; exact ⟨rj9, hPx, hN.mono hS0_x_1⟩, hS.F hT9⟩) hS.2.2 (by omega) (by omega)
  · skip
    rcases opt_em (f_findPrint σ id) with q_2 | ⟨j_3, q_2⟩
    · exact absurd hthr_x_1 (by simp [f_xPrint, f_xNo, q_2])
    · have hj_3 := f_findPrint_lt q_2
      refine W.eq (g2 := F0 m 9 ls [.ref (ad (9 + j_3)), .ref (ad (430))]) (by rw [q_2]; rfl) ?_
      refine sp_call (W.runV (As := [.ref (ad (9 + j_3))]) (rest := []) ⟨hx, hb, hml, hown, hts⟩ (c_X4_footIsWrong l D ad cy pm rj σ j_3 (by omega)) (cwV 1 hts gX9_hasFootError_X4_footIsWrong rfl rfl rfl (by decide +kernel) ⟨Nat.le_of_ble_eq_true rfl, Nat.le_of_ble_eq_true rfl⟩) (sp_preV hK hP (κ := 430) (by decide) cE_proof rfl) rfl rfl hl.1 rfl (lv_room (Nat.le_of_ble_eq_true rfl)) dX9_hasFootError_9 ⟨Nat.le_of_ble_eq_true rfl, Nat.le_of_ble_eq_true rfl⟩) ?_
      refine W.eq (g2 := F0 m 12 ls [.int (b2i (f_sameFoot σ (f_before σ j_3) j_3))]) rfl ?_
      exact vx_ret (W.zret (v := b2i (f_sameFoot σ (f_before σ j_3) j_3)) hx hb hr ((nz_of (bz_b2i _)).1) (fun T9 hT9 _ => ⟨show (f_xPrint σ id : XO) = none from (by first | (simp [Option.or, atO, eIOO, eIAE, eUOE, eNSE, eARE, eISE, hthr_x_1, q_2]; done) | (simp only [hthr_x_1]; simp [f_xPrint, f_xNo, f_xFound, atO, Option.or, atO, eIOO, eIAE, eUOE, eNSE, eARE, eISE, hthr_x_1, q_2]; done)), congrArg (fun z9 => Outcome.returned (some (Value.int z9))) (show (b2i (f_sameFoot σ (f_before σ j_3) j_3) : Int32) = b2i (atO (f_findPrint σ id) false (fun k => f_sameFoot σ (f_before σ k) k)) from (by first | rfl | (simp [atO, b2i, hthr_x_1, q_2]; done))), by rw [hT9]; exact hP, hS.F hT9⟩) hS.2.2 dX9_hasFootError_12)

theorem wi_X9_hasDepthError_X9 : ∀ w ∈ wsX90, w ∈ wsX9_hasDepthError := by decide +kernel
set_option maxHeartbeats 4000000 in
set_option maxRecDepth 100000 in
theorem c_X9_hasDepthError (l : Launch) (D : va_G) (ad : Nat → Nat) (cy : Nat → ClassId) (pm : Nat → Nat) (rj : Option Nat) (σ : Nat → Nat → Int32) (xq : Nat → Nat) (hst : l.stackTraces = false) (sz : Nat) (hi : sp_inj ad 459) (id : Int32) : vx_Met l yX9_hasDepthError wsX9_hasDepthError ({ frames := 7, cells := 1, slots := 6, locals := 112 } : Room) (sp_Pmx xq ad 459 D (tyG cy) sz [.ref (ad (429)), .int (id)] (cW ad cy pm rj σ)) (sp_QT (f_xPrint σ id) D (some (.int (b2i (atO (f_findPrint σ id) false (fun k => f_uneven σ (f_before σ k) k))))) (cW ad cy (pm) (rj) (σ)) (sp_A ad 459 sz)) (sp_XT (f_xPrint σ id) (sp_B D ad cy (pm) (σ) sz rj) (sp_A ad 459 sz)) 1 6 (sp_A ad 459 sz) := by
  refine vx_ofW (cc := cX9_hasDepthError) (maxL := 2) (ret := (some .boolean)) (by decide) rfl ?_
  intro p e s m args below meth c s₁ B hml ht hv
  obtain ⟨rfl, hsz, hP, hK, hE⟩ := hv
  have hx := B.exec
  have hb := B.bytes
  have hr := B.returns
  have hts := atoms_spec (ws := wsX9_hasDepthError) B.pre
  have hown : s.vm.findClass RX9 = some m.cls := findClass_of_methodNamed B.named
  have hlocks := B.notSynchronized
  subst hsz
  have hlt0 : ∀ k, k < 459 → ad k < s.heap.size := fun k hk => (sp_P_at hP hk).lt
  have hS : va_S (sp_A ad 459 s.heap.size) s.heap s.heap [] := va_S.rf
  have hAk : ∀ k, k < 459 → (sp_A ad 459 s.heap.size) (ad k) := fun k hk => Or.inl ⟨k, hk, rfl⟩
  skip
  have hl := lv_entry ([.ref (ad (429)), .int (id)]) (n := 2) (Nat.le_of_ble_eq_true rfl)
  refine W.eq (lg_entry_eq _ ([.ref (ad (429)), .int (id)]) _) ?_
  generalize (lg_sl ([.ref (ad (429)), .int (id)]) ++ List.replicate (2 - (lg_sl ([.ref (ad (429)), .int (id)])).length) Slot.unset).toArray = ls at hl ⊢
  have hl : lv_has ls 2 [(0, .ref (ad (429))), (1, .int (id))] := hl
  refine lv_aload_n hx hb dX9_hasDepthError_0 rfl (lv_at hl 0 rfl) ?_
  refine sp_get hx hb hts wi_X9_hasDepthError_X9 hown hK hP (κ := 429) (by decide) cE_sp rfl 1 (by decide) (hts _ (List.mem_of_getElem? (i := 1) rfl)) (fun _ h => h) rfl dX9_hasDepthError_1 ?_
  refine lv_aload_n hx hb dX9_hasDepthError_4 rfl (lv_at hl 0 rfl) ?_
  refine lv_iload_n hx hb dX9_hasDepthError_5 rfl (lv_at hl 1 rfl) ?_
  have hS0_x_1 := hS.1
  refine sp_callx (vx_runV (As := [.int (id)]) (rest := [.ref (ad (430))]) ⟨hx, hb, hml, hown, hts⟩ (c_X9_requirePrint l D ad cy pm rj σ xq hst _ hi id) (cwV 1 hts gX9_hasDepthError_X9_requirePrint rfl rfl rfl (by decide +kernel) ⟨Nat.le_of_ble_eq_true rfl, Nat.le_of_ble_eq_true rfl⟩) (sp_preVmx hK hP (hE.go hS) (κ := 429) (by decide) cE_sp rfl) rfl rfl hl.1 rfl (lv_room (Nat.le_of_ble_eq_true rfl)) dX9_hasDepthError_6 ⟨Nat.le_of_ble_eq_true rfl, Nat.le_of_ble_eq_true rfl⟩) hS (fun q h1 h2 => sp_Alt h1 h2) (sp_Ale hS.1) (fun E_x_1 r_x_1 ce_x_1 q9_x_1 H locs hthr_x_1 hB_x_1 hle hfr hS hce_x_1 hcv_x_1 hcl_x_1 => ?_) (fun hthr_x_1 H locs hP hle hfr hS => ?_)
  · skip
    obtain ⟨rj9, hPx, hN⟩ := hB_x_1
    exact vx_out (fun x hx => (ht x hx).elim) hlocks hce_x_1 hcv_x_1 hcl_x_1 (fun T9 hT9 _ => ⟨r_x_1, show (f_xPrint σ id : XO) = some (E_x_1, r_x_1) from (by first | (simp [Option.or, atO, eIOO, eIAE, eUOE, eNSE, eARE, eISE, hthr_x_1]; done) | (simp only [hthr_x_1]; simp [f_xPrint, f_xNo, f_xFound, atO, Option.or, atO, eIOO, eIAE, eUOE, eNSE, eARE, eISE, hthr_x_1]; done)), by rw [hT9]; exact ⟨rj9, hPx, hN.mono hS0_x_1⟩, hS.F hT9⟩) hS.2.2 (by omega) (by omega)
  · skip
    rcases opt_em (f_findPrint σ id) with q_2 | ⟨j_3, q_2⟩
    · exact absurd hthr_x_1 (by simp [f_xPrint, f_xNo, q_2])
    · have hj_3 := f_findPrint_lt q_2
      refine W.eq (g2 := F0 m 9 ls [.ref (ad (9 + j_3)), .ref (ad (430))]) (by rw [q_2]; rfl) ?_
      refine sp_call (W.runV (As := [.ref (ad (9 + j_3))]) (rest := []) ⟨hx, hb, hml, hown, hts⟩ (c_X4_depthIsWrong l D ad cy pm rj σ j_3 (by omega)) (cwV 1 hts gX9_hasDepthError_X4_depthIsWrong rfl rfl rfl (by decide +kernel) ⟨Nat.le_of_ble_eq_true rfl, Nat.le_of_ble_eq_true rfl⟩) (sp_preV hK hP (κ := 430) (by decide) cE_proof rfl) rfl rfl hl.1 rfl (lv_room (Nat.le_of_ble_eq_true rfl)) dX9_hasDepthError_9 ⟨Nat.le_of_ble_eq_true rfl, Nat.le_of_ble_eq_true rfl⟩) ?_
      refine W.eq (g2 := F0 m 12 ls [.int (b2i (f_uneven σ (f_before σ j_3) j_3))]) rfl ?_
      exact vx_ret (W.zret (v := b2i (f_uneven σ (f_before σ j_3) j_3)) hx hb hr ((nz_of (bz_b2i _)).1) (fun T9 hT9 _ => ⟨show (f_xPrint σ id : XO) = none from (by first | (simp [Option.or, atO, eIOO, eIAE, eUOE, eNSE, eARE, eISE, hthr_x_1, q_2]; done) | (simp only [hthr_x_1]; simp [f_xPrint, f_xNo, f_xFound, atO, Option.or, atO, eIOO, eIAE, eUOE, eNSE, eARE, eISE, hthr_x_1, q_2]; done)), congrArg (fun z9 => Outcome.returned (some (Value.int z9))) (show (b2i (f_uneven σ (f_before σ j_3) j_3) : Int32) = b2i (atO (f_findPrint σ id) false (fun k => f_uneven σ (f_before σ k) k)) from (by first | rfl | (simp [atO, b2i, hthr_x_1, q_2]; done))), by rw [hT9]; exact hP, hS.F hT9⟩) hS.2.2 dX9_hasDepthError_12)

theorem wi_X9_maxStride_X8 : ∀ w ∈ wsX80, w ∈ wsX9_maxStride := by decide +kernel
set_option maxHeartbeats 4000000 in
set_option maxRecDepth 100000 in
theorem c_X9_maxStride (l : Launch) (D : va_G) (ad : Nat → Nat) (cy : Nat → ClassId) (pm : Nat → Nat) (rj : Option Nat) (σ : Nat → Nat → Int32) (xq : Nat → Nat) (hst : l.stackTraces = false) (sz : Nat) (hi : sp_inj ad 459) (id : Int32) : vx_Met l yX9_maxStride wsX9_maxStride ({ frames := 7, cells := 1, slots := 6, locals := 112 } : Room) (sp_Pmx xq ad 459 D (tyG cy) sz [.ref (ad (429)), .int (id)] (cW ad cy pm rj σ)) (sp_QT (f_xTrack σ id) D (some (.int (atO (f_findTrack σ id) 0 (fun k => σ (3 + k) 2)))) (cW ad cy (pm) (rj) (σ)) (sp_A ad 459 sz)) (sp_XT (f_xTrack σ id) (sp_B D ad cy (pm) (σ) sz rj) (sp_A ad 459 sz)) 1 6 (sp_A ad 459 sz) := by
  refine vx_ofW (cc := cX9_maxStride) (maxL := 2) (ret := (some .int)) (by decide) rfl ?_
  intro p e s m args below meth c s₁ B hml ht hv
  obtain ⟨rfl, hsz, hP, hK, hE⟩ := hv
  have hx := B.exec
  have hb := B.bytes
  have hr := B.returns
  have hts := atoms_spec (ws := wsX9_maxStride) B.pre
  have hown : s.vm.findClass RX9 = some m.cls := findClass_of_methodNamed B.named
  have hlocks := B.notSynchronized
  subst hsz
  have hlt0 : ∀ k, k < 459 → ad k < s.heap.size := fun k hk => (sp_P_at hP hk).lt
  have hS : va_S (sp_A ad 459 s.heap.size) s.heap s.heap [] := va_S.rf
  have hAk : ∀ k, k < 459 → (sp_A ad 459 s.heap.size) (ad k) := fun k hk => Or.inl ⟨k, hk, rfl⟩
  skip
  have hl := lv_entry ([.ref (ad (429)), .int (id)]) (n := 2) (Nat.le_of_ble_eq_true rfl)
  refine W.eq (lg_entry_eq _ ([.ref (ad (429)), .int (id)]) _) ?_
  generalize (lg_sl ([.ref (ad (429)), .int (id)]) ++ List.replicate (2 - (lg_sl ([.ref (ad (429)), .int (id)])).length) Slot.unset).toArray = ls at hl ⊢
  have hl : lv_has ls 2 [(0, .ref (ad (429))), (1, .int (id))] := hl
  refine lv_aload_n hx hb dX9_maxStride_0 rfl (lv_at hl 0 rfl) ?_
  refine lv_iload_n hx hb dX9_maxStride_1 rfl (lv_at hl 1 rfl) ?_
  have hS0_x_1 := hS.1
  refine sp_callx (vx_runV (As := [.int (id)]) (rest := []) ⟨hx, hb, hml, hown, hts⟩ (c_X9_requireTrack l D ad cy pm rj σ xq hst _ hi id) (cwV 1 hts gX9_maxStride_X9_requireTrack rfl rfl rfl (by decide +kernel) ⟨Nat.le_of_ble_eq_true rfl, Nat.le_of_ble_eq_true rfl⟩) (sp_preVmx hK hP (hE.go hS) (κ := 429) (by decide) cE_sp rfl) rfl rfl hl.1 rfl (lv_room (Nat.le_of_ble_eq_true rfl)) dX9_maxStride_2 ⟨Nat.le_of_ble_eq_true rfl, Nat.le_of_ble_eq_true rfl⟩) hS (fun q h1 h2 => sp_Alt h1 h2) (sp_Ale hS.1) (fun E_x_1 r_x_1 ce_x_1 q9_x_1 H locs hthr_x_1 hB_x_1 hle hfr hS hce_x_1 hcv_x_1 hcl_x_1 => ?_) (fun hthr_x_1 H locs hP hle hfr hS => ?_)
  · skip
    obtain ⟨rj9, hPx, hN⟩ := hB_x_1
    exact vx_out (fun x hx => (ht x hx).elim) hlocks hce_x_1 hcv_x_1 hcl_x_1 (fun T9 hT9 _ => ⟨r_x_1, show (f_xTrack σ id : XO) = some (E_x_1, r_x_1) from (by first | (simp [Option.or, atO, eIOO, eIAE, eUOE, eNSE, eARE, eISE, hthr_x_1]; done) | (simp only [hthr_x_1]; simp [f_xTrack, f_xNo, f_xFound, atO, Option.or, atO, eIOO, eIAE, eUOE, eNSE, eARE, eISE, hthr_x_1]; done)), by rw [hT9]; exact ⟨rj9, hPx, hN.mono hS0_x_1⟩, hS.F hT9⟩) hS.2.2 (by omega) (by omega)
  · skip
    rcases opt_em (f_findTrack σ id) with q_2 | ⟨j_3, q_2⟩
    · exact absurd hthr_x_1 (by simp [f_xTrack, f_xNo, q_2])
    · have hj_3 := f_findTrack_lt q_2
      refine W.eq (g2 := F0 m 5 ls [.ref (ad (3 + j_3))]) (by rw [q_2]; rfl) ?_
      refine sp_get hx hb hts wi_X9_maxStride_X8 hown hK hP (κ := 3 + j_3) (by omega) (cE_track (by omega) (by omega)) rfl 2 (by decide) (hts _ (List.mem_of_getElem? (i := 1) rfl)) (fun _ h => h) rfl dX9_maxStride_5 ?_
      exact vx_ret (W.iret (v := σ (3 + j_3) 2) hx hb hr (fun T9 hT9 _ => ⟨show (f_xTrack σ id : XO) = none from (by first | (simp [Option.or, atO, eIOO, eIAE, eUOE, eNSE, eARE, eISE, hthr_x_1, q_2]; done) | (simp only [hthr_x_1]; simp [f_xTrack, f_xNo, f_xFound, atO, Option.or, atO, eIOO, eIAE, eUOE, eNSE, eARE, eISE, hthr_x_1, q_2]; done)), congrArg (fun z9 => Outcome.returned (some (Value.int z9))) (show (σ (3 + j_3) 2 : Int32) = atO (f_findTrack σ id) 0 (fun k => σ (3 + k) 2) from (by first | rfl | (simp [atO, b2i, hthr_x_1, q_2]; done))), by rw [hT9]; exact hP, hS.F hT9⟩) hS.2.2 dX9_maxStride_8)

theorem wi_X9_printCount_X9 : ∀ w ∈ wsX90, w ∈ wsX9_printCount := by decide +kernel
set_option maxHeartbeats 4000000 in
set_option maxRecDepth 100000 in
theorem c_X9_printCount (l : Launch) (D : va_G) (ad : Nat → Nat) (cy : Nat → ClassId) (pm : Nat → Nat) (rj : Option Nat) (σ : Nat → Nat → Int32) (xq : Nat → Nat) (hst : l.stackTraces = false) (sz : Nat) (hi : sp_inj ad 459) (id : Int32) : vx_Met l yX9_printCount wsX9_printCount ({ frames := 7, cells := 1, slots := 6, locals := 112 } : Room) (sp_Pmx xq ad 459 D (tyG cy) sz [.ref (ad (429)), .int (id)] (cW ad cy pm rj σ)) (sp_QT (f_xTrack σ id) D (some (.int (atO (f_findTrack σ id) 0 (fun k => f_countPrints σ k)))) (cW ad cy (pm) (rj) (σ)) (sp_A ad 459 sz)) (sp_XT (f_xTrack σ id) (sp_B D ad cy (pm) (σ) sz rj) (sp_A ad 459 sz)) 1 6 (sp_A ad 459 sz) := by
  refine vx_ofW (cc := cX9_printCount) (maxL := 2) (ret := (some .int)) (by decide) rfl ?_
  intro p e s m args below meth c s₁ B hml ht hv
  obtain ⟨rfl, hsz, hP, hK, hE⟩ := hv
  have hx := B.exec
  have hb := B.bytes
  have hr := B.returns
  have hts := atoms_spec (ws := wsX9_printCount) B.pre
  have hown : s.vm.findClass RX9 = some m.cls := findClass_of_methodNamed B.named
  have hlocks := B.notSynchronized
  subst hsz
  have hlt0 : ∀ k, k < 459 → ad k < s.heap.size := fun k hk => (sp_P_at hP hk).lt
  have hS : va_S (sp_A ad 459 s.heap.size) s.heap s.heap [] := va_S.rf
  have hAk : ∀ k, k < 459 → (sp_A ad 459 s.heap.size) (ad k) := fun k hk => Or.inl ⟨k, hk, rfl⟩
  skip
  have hl := lv_entry ([.ref (ad (429)), .int (id)]) (n := 2) (Nat.le_of_ble_eq_true rfl)
  refine W.eq (lg_entry_eq _ ([.ref (ad (429)), .int (id)]) _) ?_
  generalize (lg_sl ([.ref (ad (429)), .int (id)]) ++ List.replicate (2 - (lg_sl ([.ref (ad (429)), .int (id)])).length) Slot.unset).toArray = ls at hl ⊢
  have hl : lv_has ls 2 [(0, .ref (ad (429))), (1, .int (id))] := hl
  refine lv_aload_n hx hb dX9_printCount_0 rfl (lv_at hl 0 rfl) ?_
  refine sp_get hx hb hts wi_X9_printCount_X9 hown hK hP (κ := 429) (by decide) cE_sp rfl 0 (by decide) (hts _ (List.mem_of_getElem? (i := 1) rfl)) (fun _ h => h) rfl dX9_printCount_1 ?_
  refine lv_aload_n hx hb dX9_printCount_4 rfl (lv_at hl 0 rfl) ?_
  refine lv_iload_n hx hb dX9_printCount_5 rfl (lv_at hl 1 rfl) ?_
  have hS0_x_1 := hS.1
  refine sp_callx (vx_runV (As := [.int (id)]) (rest := [.ref (ad (0))]) ⟨hx, hb, hml, hown, hts⟩ (c_X9_requireTrack l D ad cy pm rj σ xq hst _ hi id) (cwV 1 hts gX9_printCount_X9_requireTrack rfl rfl rfl (by decide +kernel) ⟨Nat.le_of_ble_eq_true rfl, Nat.le_of_ble_eq_true rfl⟩) (sp_preVmx hK hP (hE.go hS) (κ := 429) (by decide) cE_sp rfl) rfl rfl hl.1 rfl (lv_room (Nat.le_of_ble_eq_true rfl)) dX9_printCount_6 ⟨Nat.le_of_ble_eq_true rfl, Nat.le_of_ble_eq_true rfl⟩) hS (fun q h1 h2 => sp_Alt h1 h2) (sp_Ale hS.1) (fun E_x_1 r_x_1 ce_x_1 q9_x_1 H locs hthr_x_1 hB_x_1 hle hfr hS hce_x_1 hcv_x_1 hcl_x_1 => ?_) (fun hthr_x_1 H locs hP hle hfr hS => ?_)
  · skip
    obtain ⟨rj9, hPx, hN⟩ := hB_x_1
    exact vx_out (fun x hx => (ht x hx).elim) hlocks hce_x_1 hcv_x_1 hcl_x_1 (fun T9 hT9 _ => ⟨r_x_1, show (f_xTrack σ id : XO) = some (E_x_1, r_x_1) from (by first | (simp [Option.or, atO, eIOO, eIAE, eUOE, eNSE, eARE, eISE, hthr_x_1]; done) | (simp only [hthr_x_1]; simp [f_xTrack, f_xNo, f_xFound, atO, Option.or, atO, eIOO, eIAE, eUOE, eNSE, eARE, eISE, hthr_x_1]; done)), by rw [hT9]; exact ⟨rj9, hPx, hN.mono hS0_x_1⟩, hS.F hT9⟩) hS.2.2 (by omega) (by omega)
  · skip
    rcases opt_em (f_findTrack σ id) with q_2 | ⟨j_3, q_2⟩
    · exact absurd hthr_x_1 (by simp [f_xTrack, f_xNo, q_2])
    · have hj_3 := f_findTrack_lt q_2
      refine W.eq (g2 := F0 m 9 ls [.ref (ad (3 + j_3)), .ref (ad (0))]) (by rw [q_2]; rfl) ?_
      refine sp_call (W.runV (As := [.ref (ad (3 + j_3))]) (rest := []) ⟨hx, hb, hml, hown, hts⟩ (c_X0_countPrints l D ad cy pm rj σ j_3 (by omega)) (cwV 1 hts gX9_printCount_X0_countPrints rfl rfl rfl (by decide +kernel) ⟨Nat.le_of_ble_eq_true rfl, Nat.le_of_ble_eq_true rfl⟩) (sp_preV hK hP (κ := 0) (by omega) (cE_beach (by omega) (by omega)) rfl) rfl rfl hl.1 rfl (lv_room (Nat.le_of_ble_eq_true rfl)) dX9_printCount_9 ⟨Nat.le_of_ble_eq_true rfl, Nat.le_of_ble_eq_true rfl⟩) ?_
      refine W.eq (g2 := F0 m 12 ls [.int (f_countPrints σ j_3)]) rfl ?_
      exact vx_ret (W.iret (v := f_countPrints σ j_3) hx hb hr (fun T9 hT9 _ => ⟨show (f_xTrack σ id : XO) = none from (by first | (simp [Option.or, atO, eIOO, eIAE, eUOE, eNSE, eARE, eISE, hthr_x_1, q_2]; done) | (simp only [hthr_x_1]; simp [f_xTrack, f_xNo, f_xFound, atO, Option.or, atO, eIOO, eIAE, eUOE, eNSE, eARE, eISE, hthr_x_1, q_2]; done)), congrArg (fun z9 => Outcome.returned (some (Value.int z9))) (show (f_countPrints σ j_3 : Int32) = atO (f_findTrack σ id) 0 (fun k => f_countPrints σ k) from (by first | rfl | (simp [atO, b2i, hthr_x_1, q_2]; done))), by rw [hT9]; exact hP, hS.F hT9⟩) hS.2.2 dX9_printCount_12)

theorem wi_X9_printAt_X9 : ∀ w ∈ wsX90, w ∈ wsX9_printAt := by decide +kernel
theorem wi_X9_printAt_X3 : ∀ w ∈ wsX30, w ∈ wsX9_printAt := by decide +kernel
set_option maxHeartbeats 4000000 in
set_option maxRecDepth 100000 in
theorem c_X9_printAt (l : Launch) (D : va_G) (ad : Nat → Nat) (cy : Nat → ClassId) (pm : Nat → Nat) (rj : Option Nat) (σ : Nat → Nat → Int32) (xq : Nat → Nat) (hst : l.stackTraces = false) (sz : Nat) (hi : sp_inj ad 459) (id : Int32) (q : Int32) : vx_Met l yX9_printAt wsX9_printAt ({ frames := 7, cells := 2, slots := 12, locals := 112 } : Room) (sp_Pmx xq ad 459 D (tyG cy) sz [.ref (ad (429)), .int (id), .int (q)] (cW ad cy pm rj σ)) (sp_QT ((f_xTrack σ id).or (atO (f_findTrack σ id) none (fun k => f_xFound (f_inPlace σ k q)))) D (some (.int (atO (f_findTrack σ id) 0 (fun k => atO (f_inPlace σ k q) 0 (fun j => σ (9 + j) 1))))) (cW ad cy (pm) (rj) (σ)) (sp_A ad 459 sz)) (sp_XT ((f_xTrack σ id).or (atO (f_findTrack σ id) none (fun k => f_xFound (f_inPlace σ k q)))) (sp_B D ad cy (pm) (σ) sz rj) (sp_A ad 459 sz)) 2 12 (sp_A ad 459 sz) := by
  refine vx_ofW (cc := cX9_printAt) (maxL := 3) (ret := (some .int)) (by decide) rfl ?_
  intro p e s m args below meth c s₁ B hml ht hv
  obtain ⟨rfl, hsz, hP, hK, hE⟩ := hv
  have hx := B.exec
  have hb := B.bytes
  have hr := B.returns
  have hts := atoms_spec (ws := wsX9_printAt) B.pre
  have hown : s.vm.findClass RX9 = some m.cls := findClass_of_methodNamed B.named
  have hlocks := B.notSynchronized
  subst hsz
  have hlt0 : ∀ k, k < 459 → ad k < s.heap.size := fun k hk => (sp_P_at hP hk).lt
  have hS : va_S (sp_A ad 459 s.heap.size) s.heap s.heap [] := va_S.rf
  have hAk : ∀ k, k < 459 → (sp_A ad 459 s.heap.size) (ad k) := fun k hk => Or.inl ⟨k, hk, rfl⟩
  skip
  have hl := lv_entry ([.ref (ad (429)), .int (id), .int (q)]) (n := 3) (Nat.le_of_ble_eq_true rfl)
  refine W.eq (lg_entry_eq _ ([.ref (ad (429)), .int (id), .int (q)]) _) ?_
  generalize (lg_sl ([.ref (ad (429)), .int (id), .int (q)]) ++ List.replicate (3 - (lg_sl ([.ref (ad (429)), .int (id), .int (q)])).length) Slot.unset).toArray = ls at hl ⊢
  have hl : lv_has ls 3 [(0, .ref (ad (429))), (1, .int (id)), (2, .int (q))] := hl
  refine lv_aload_n hx hb dX9_printAt_0 rfl (lv_at hl 0 rfl) ?_
  refine sp_get hx hb hts wi_X9_printAt_X9 hown hK hP (κ := 429) (by decide) cE_sp rfl 0 (by decide) (hts _ (List.mem_of_getElem? (i := 1) rfl)) (fun _ h => h) rfl dX9_printAt_1 ?_
  refine lv_aload_n hx hb dX9_printAt_4 rfl (lv_at hl 0 rfl) ?_
  refine lv_iload_n hx hb dX9_printAt_5 rfl (lv_at hl 1 rfl) ?_
  have hS0_x_1 := hS.1
  refine sp_callx (vx_runV (As := [.int (id)]) (rest := [.ref (ad (0))]) ⟨hx, hb, hml, hown, hts⟩ (c_X9_requireTrack l D ad cy pm rj σ xq hst _ hi id) (cwV 1 hts gX9_printAt_X9_requireTrack rfl rfl rfl (by decide +kernel) ⟨Nat.le_of_ble_eq_true rfl, Nat.le_of_ble_eq_true rfl⟩) (sp_preVmx hK hP (hE.go hS) (κ := 429) (by decide) cE_sp rfl) rfl rfl hl.1 rfl (lv_room (Nat.le_of_ble_eq_true rfl)) dX9_printAt_6 ⟨Nat.le_of_ble_eq_true rfl, Nat.le_of_ble_eq_true rfl⟩) hS (fun q h1 h2 => sp_Alt h1 h2) (sp_Ale hS.1) (fun E_x_1 r_x_1 ce_x_1 q9_x_1 H locs hthr_x_1 hB_x_1 hle hfr hS hce_x_1 hcv_x_1 hcl_x_1 => ?_) (fun hthr_x_1 H locs hP hle hfr hS => ?_)
  · skip
    obtain ⟨rj9, hPx, hN⟩ := hB_x_1
    exact vx_out (fun x hx => (ht x hx).elim) hlocks hce_x_1 hcv_x_1 hcl_x_1 (fun T9 hT9 _ => ⟨r_x_1, show ((f_xTrack σ id).or (atO (f_findTrack σ id) none (fun k => f_xFound (f_inPlace σ k q))) : XO) = some (E_x_1, r_x_1) from (by first | (simp [Option.or, atO, eIOO, eIAE, eUOE, eNSE, eARE, eISE, hthr_x_1]; done) | (simp only [hthr_x_1]; simp [f_xTrack, f_xNo, f_xFound, atO, Option.or, atO, eIOO, eIAE, eUOE, eNSE, eARE, eISE, hthr_x_1]; done)), by rw [hT9]; exact ⟨rj9, hPx, hN.mono hS0_x_1⟩, hS.F hT9⟩) hS.2.2 (by omega) (by omega)
  · skip
    rcases opt_em (f_findTrack σ id) with q_2 | ⟨j_3, q_2⟩
    · exact absurd hthr_x_1 (by simp [f_xTrack, f_xNo, q_2])
    · have hj_3 := f_findTrack_lt q_2
      refine W.eq (g2 := F0 m 9 ls [.ref (ad (3 + j_3)), .ref (ad (0))]) (by rw [q_2]; rfl) ?_
      refine lv_iload_n hx hb dX9_printAt_9 rfl (lv_at hl 2 rfl) ?_
      refine sp_call (W.runV (As := [.ref (ad (3 + j_3)), .int (q)]) (rest := []) ⟨hx, hb, hml, hown, hts⟩ (c_X0_inPlace l D ad cy pm rj σ j_3 (by omega) q) (cwV 2 hts gX9_printAt_X0_inPlace rfl rfl rfl (by decide +kernel) ⟨Nat.le_of_ble_eq_true rfl, Nat.le_of_ble_eq_true rfl⟩) (sp_preV hK hP (κ := 0) (by omega) (cE_beach (by omega) (by omega)) rfl) rfl rfl hl.1 rfl (lv_room (Nat.le_of_ble_eq_true rfl)) dX9_printAt_10 ⟨Nat.le_of_ble_eq_true rfl, Nat.le_of_ble_eq_true rfl⟩) ?_
      rcases opt_em (f_inPlace σ j_3 q) with q_4 | ⟨j_5, q_4⟩
      · refine W.eq (g2 := F0 m 13 ls [.null]) (by rw [q_4]; rfl) ?_
        have hS0_x_6 := hS.1
        refine sp_callx (vx_runS (As := [.null]) (rest := []) ⟨hx, hb, hml, hown, hts⟩ (c_X9_requireFound l D ad cy pm rj σ xq hst _ hi (none : Option Nat) (by intro j hj; first | (cases hj; done) | (cases hj; omega))) (va_cwS 1 hts gX9_printAt_X9_requireFound rfl rfl rfl (by decide +kernel) ⟨Nat.le_of_ble_eq_true rfl, Nat.le_of_ble_eq_true rfl⟩) (sp_preSmx hK hP (hE.go hS)) rfl rfl hl.1 rfl (lv_room (Nat.le_of_ble_eq_true rfl)) dX9_printAt_13 ⟨Nat.le_of_ble_eq_true rfl, Nat.le_of_ble_eq_true rfl⟩) hS (fun q h1 h2 => sp_Alt h1 h2) (sp_Ale hS.1) (fun E_x_6 r_x_6 ce_x_6 q9_x_6 H locs hthr_x_6 hB_x_6 hle hfr hS hce_x_6 hcv_x_6 hcl_x_6 => ?_) (fun hthr_x_6 H locs hP hle hfr hS => ?_)
        · skip
          obtain ⟨rj9, hPx, hN⟩ := hB_x_6
          exact vx_out (fun x hx => (ht x hx).elim) hlocks hce_x_6 hcv_x_6 hcl_x_6 (fun T9 hT9 _ => ⟨r_x_6, show ((f_xTrack σ id).or (atO (f_findTrack σ id) none (fun k => f_xFound (f_inPlace σ k q))) : XO) = some (E_x_6, r_x_6) from (by first | (simp [Option.or, atO, eIOO, eIAE, eUOE, eNSE, eARE, eISE, hthr_x_1, q_2, q_4, hthr_x_6]; done) | (simp only [hthr_x_1, hthr_x_6]; simp [f_xTrack, f_xNo, f_xFound, atO, Option.or, atO, eIOO, eIAE, eUOE, eNSE, eARE, eISE, hthr_x_1, q_2, q_4, hthr_x_6]; done)), by rw [hT9]; exact ⟨rj9, hPx, hN.mono hS0_x_6⟩, hS.F hT9⟩) hS.2.2 (by omega) (by omega)
        · skip
          exact absurd hthr_x_6 (by simp [f_xFound])
      · have hj_5 := f_inPlace_lt q_4
        refine W.eq (g2 := F0 m 13 ls [.ref (ad (9 + j_5))]) (by rw [q_4]; rfl) ?_
        have hS0_x_9 := hS.1
        refine sp_callx (vx_runS (As := [.ref (ad (9 + j_5))]) (rest := []) ⟨hx, hb, hml, hown, hts⟩ (c_X9_requireFound l D ad cy pm rj σ xq hst _ hi (some (j_5)) (by intro j hj; first | (cases hj; done) | (cases hj; omega))) (va_cwS 1 hts gX9_printAt_X9_requireFound rfl rfl rfl (by decide +kernel) ⟨Nat.le_of_ble_eq_true rfl, Nat.le_of_ble_eq_true rfl⟩) (sp_preSmx hK hP (hE.go hS)) rfl rfl hl.1 rfl (lv_room (Nat.le_of_ble_eq_true rfl)) dX9_printAt_13 ⟨Nat.le_of_ble_eq_true rfl, Nat.le_of_ble_eq_true rfl⟩) hS (fun q h1 h2 => sp_Alt h1 h2) (sp_Ale hS.1) (fun E_x_9 r_x_9 ce_x_9 q9_x_9 H locs hthr_x_9 hB_x_9 hle hfr hS hce_x_9 hcv_x_9 hcl_x_9 => ?_) (fun hthr_x_9 H locs hP hle hfr hS => ?_)
        · skip
          obtain ⟨rj9, hPx, hN⟩ := hB_x_9
          exact vx_out (fun x hx => (ht x hx).elim) hlocks hce_x_9 hcv_x_9 hcl_x_9 (fun T9 hT9 _ => ⟨r_x_9, show ((f_xTrack σ id).or (atO (f_findTrack σ id) none (fun k => f_xFound (f_inPlace σ k q))) : XO) = some (E_x_9, r_x_9) from (by first | (simp [Option.or, atO, eIOO, eIAE, eUOE, eNSE, eARE, eISE, hthr_x_1, q_2, q_4, hthr_x_9]; done) | (simp only [hthr_x_1, hthr_x_9]; simp [f_xTrack, f_xNo, f_xFound, atO, Option.or, atO, eIOO, eIAE, eUOE, eNSE, eARE, eISE, hthr_x_1, q_2, q_4, hthr_x_9]; done)), by rw [hT9]; exact ⟨rj9, hPx, hN.mono hS0_x_9⟩, hS.F hT9⟩) hS.2.2 (by omega) (by omega)
        · skip
          refine W.eq (g2 := F0 m 16 ls [.ref (ad (9 + j_5))]) rfl ?_
          refine sp_get hx hb hts wi_X9_printAt_X3 hown hK hP (κ := 9 + j_5) (by omega) (cE_print (by omega) (by omega)) rfl 1 (by decide) (hts _ (List.mem_of_getElem? (i := 2) rfl)) (fun _ h => h) rfl dX9_printAt_16 ?_
          exact vx_ret (W.iret (v := σ (9 + j_5) 1) hx hb hr (fun T9 hT9 _ => ⟨show ((f_xTrack σ id).or (atO (f_findTrack σ id) none (fun k => f_xFound (f_inPlace σ k q))) : XO) = none from (by first | (simp [Option.or, atO, eIOO, eIAE, eUOE, eNSE, eARE, eISE, hthr_x_1, q_2, q_4, hthr_x_9]; done) | (simp only [hthr_x_1, hthr_x_9]; simp [f_xTrack, f_xNo, f_xFound, atO, Option.or, atO, eIOO, eIAE, eUOE, eNSE, eARE, eISE, hthr_x_1, q_2, q_4, hthr_x_9]; done)), congrArg (fun z9 => Outcome.returned (some (Value.int z9))) (show (σ (9 + j_5) 1 : Int32) = atO (f_findTrack σ id) 0 (fun k => atO (f_inPlace σ k q) 0 (fun j => σ (9 + j) 1)) from (by first | rfl | (simp [atO, b2i, hthr_x_1, q_2, q_4, hthr_x_9]; done))), by rw [hT9]; exact hP, hS.F hT9⟩) hS.2.2 dX9_printAt_19)

theorem wi_X9_trackLength_X9 : ∀ w ∈ wsX90, w ∈ wsX9_trackLength := by decide +kernel
set_option maxHeartbeats 4000000 in
set_option maxRecDepth 100000 in
theorem c_X9_trackLength (l : Launch) (D : va_G) (ad : Nat → Nat) (cy : Nat → ClassId) (pm : Nat → Nat) (rj : Option Nat) (σ : Nat → Nat → Int32) (xq : Nat → Nat) (hst : l.stackTraces = false) (sz : Nat) (hi : sp_inj ad 459) (id : Int32) : vx_Met l yX9_trackLength wsX9_trackLength ({ frames := 7, cells := 1, slots := 6, locals := 112 } : Room) (sp_Pmx xq ad 459 D (tyG cy) sz [.ref (ad (429)), .int (id)] (cW ad cy pm rj σ)) (sp_QT (f_xTrack σ id) D (some (.int (atO (f_findTrack σ id) 0 (fun k => f_len σ k)))) (cW ad cy (pm) (rj) (σ)) (sp_A ad 459 sz)) (sp_XT (f_xTrack σ id) (sp_B D ad cy (pm) (σ) sz rj) (sp_A ad 459 sz)) 1 6 (sp_A ad 459 sz) := by
  refine vx_ofW (cc := cX9_trackLength) (maxL := 2) (ret := (some .int)) (by decide) rfl ?_
  intro p e s m args below meth c s₁ B hml ht hv
  obtain ⟨rfl, hsz, hP, hK, hE⟩ := hv
  have hx := B.exec
  have hb := B.bytes
  have hr := B.returns
  have hts := atoms_spec (ws := wsX9_trackLength) B.pre
  have hown : s.vm.findClass RX9 = some m.cls := findClass_of_methodNamed B.named
  have hlocks := B.notSynchronized
  subst hsz
  have hlt0 : ∀ k, k < 459 → ad k < s.heap.size := fun k hk => (sp_P_at hP hk).lt
  have hS : va_S (sp_A ad 459 s.heap.size) s.heap s.heap [] := va_S.rf
  have hAk : ∀ k, k < 459 → (sp_A ad 459 s.heap.size) (ad k) := fun k hk => Or.inl ⟨k, hk, rfl⟩
  skip
  have hl := lv_entry ([.ref (ad (429)), .int (id)]) (n := 2) (Nat.le_of_ble_eq_true rfl)
  refine W.eq (lg_entry_eq _ ([.ref (ad (429)), .int (id)]) _) ?_
  generalize (lg_sl ([.ref (ad (429)), .int (id)]) ++ List.replicate (2 - (lg_sl ([.ref (ad (429)), .int (id)])).length) Slot.unset).toArray = ls at hl ⊢
  have hl : lv_has ls 2 [(0, .ref (ad (429))), (1, .int (id))] := hl
  refine lv_aload_n hx hb dX9_trackLength_0 rfl (lv_at hl 0 rfl) ?_
  refine sp_get hx hb hts wi_X9_trackLength_X9 hown hK hP (κ := 429) (by decide) cE_sp rfl 1 (by decide) (hts _ (List.mem_of_getElem? (i := 1) rfl)) (fun _ h => h) rfl dX9_trackLength_1 ?_
  refine lv_aload_n hx hb dX9_trackLength_4 rfl (lv_at hl 0 rfl) ?_
  refine lv_iload_n hx hb dX9_trackLength_5 rfl (lv_at hl 1 rfl) ?_
  have hS0_x_1 := hS.1
  refine sp_callx (vx_runV (As := [.int (id)]) (rest := [.ref (ad (430))]) ⟨hx, hb, hml, hown, hts⟩ (c_X9_requireTrack l D ad cy pm rj σ xq hst _ hi id) (cwV 1 hts gX9_trackLength_X9_requireTrack rfl rfl rfl (by decide +kernel) ⟨Nat.le_of_ble_eq_true rfl, Nat.le_of_ble_eq_true rfl⟩) (sp_preVmx hK hP (hE.go hS) (κ := 429) (by decide) cE_sp rfl) rfl rfl hl.1 rfl (lv_room (Nat.le_of_ble_eq_true rfl)) dX9_trackLength_6 ⟨Nat.le_of_ble_eq_true rfl, Nat.le_of_ble_eq_true rfl⟩) hS (fun q h1 h2 => sp_Alt h1 h2) (sp_Ale hS.1) (fun E_x_1 r_x_1 ce_x_1 q9_x_1 H locs hthr_x_1 hB_x_1 hle hfr hS hce_x_1 hcv_x_1 hcl_x_1 => ?_) (fun hthr_x_1 H locs hP hle hfr hS => ?_)
  · skip
    obtain ⟨rj9, hPx, hN⟩ := hB_x_1
    exact vx_out (fun x hx => (ht x hx).elim) hlocks hce_x_1 hcv_x_1 hcl_x_1 (fun T9 hT9 _ => ⟨r_x_1, show (f_xTrack σ id : XO) = some (E_x_1, r_x_1) from (by first | (simp [Option.or, atO, eIOO, eIAE, eUOE, eNSE, eARE, eISE, hthr_x_1]; done) | (simp only [hthr_x_1]; simp [f_xTrack, f_xNo, f_xFound, atO, Option.or, atO, eIOO, eIAE, eUOE, eNSE, eARE, eISE, hthr_x_1]; done)), by rw [hT9]; exact ⟨rj9, hPx, hN.mono hS0_x_1⟩, hS.F hT9⟩) hS.2.2 (by omega) (by omega)
  · skip
    rcases opt_em (f_findTrack σ id) with q_2 | ⟨j_3, q_2⟩
    · exact absurd hthr_x_1 (by simp [f_xTrack, f_xNo, q_2])
    · have hj_3 := f_findTrack_lt q_2
      refine W.eq (g2 := F0 m 9 ls [.ref (ad (3 + j_3)), .ref (ad (430))]) (by rw [q_2]; rfl) ?_
      refine sp_call (W.runV (As := [.ref (ad (3 + j_3))]) (rest := []) ⟨hx, hb, hml, hown, hts⟩ (c_X4_lengthByPrints l D ad cy pm rj σ j_3 (by omega)) (cwV 1 hts gX9_trackLength_X4_lengthByPrints rfl rfl rfl (by decide +kernel) ⟨Nat.le_of_ble_eq_true rfl, Nat.le_of_ble_eq_true rfl⟩) (sp_preV hK hP (κ := 430) (by decide) cE_proof rfl) rfl rfl hl.1 rfl (lv_room (Nat.le_of_ble_eq_true rfl)) dX9_trackLength_9 ⟨Nat.le_of_ble_eq_true rfl, Nat.le_of_ble_eq_true rfl⟩) ?_
      refine W.eq (g2 := F0 m 12 ls [.int (f_len σ j_3)]) rfl ?_
      exact vx_ret (W.iret (v := f_len σ j_3) hx hb hr (fun T9 hT9 _ => ⟨show (f_xTrack σ id : XO) = none from (by first | (simp [Option.or, atO, eIOO, eIAE, eUOE, eNSE, eARE, eISE, hthr_x_1, q_2]; done) | (simp only [hthr_x_1]; simp [f_xTrack, f_xNo, f_xFound, atO, Option.or, atO, eIOO, eIAE, eUOE, eNSE, eARE, eISE, hthr_x_1, q_2]; done)), congrArg (fun z9 => Outcome.returned (some (Value.int z9))) (show (f_len σ j_3 : Int32) = atO (f_findTrack σ id) 0 (fun k => f_len σ k) from (by first | rfl | (simp [atO, b2i, hthr_x_1, q_2]; done))), by rw [hT9]; exact hP, hS.F hT9⟩) hS.2.2 dX9_trackLength_12)

theorem wi_X9_trackLengthAgain_X9 : ∀ w ∈ wsX90, w ∈ wsX9_trackLengthAgain := by decide +kernel
set_option maxHeartbeats 4000000 in
set_option maxRecDepth 100000 in
theorem c_X9_trackLengthAgain (l : Launch) (D : va_G) (ad : Nat → Nat) (cy : Nat → ClassId) (pm : Nat → Nat) (rj : Option Nat) (σ : Nat → Nat → Int32) (xq : Nat → Nat) (hst : l.stackTraces = false) (sz : Nat) (hi : sp_inj ad 459) (id : Int32) : vx_Met l yX9_trackLengthAgain wsX9_trackLengthAgain ({ frames := 7, cells := 1, slots := 6, locals := 112 } : Room) (sp_Pmx xq ad 459 D (tyG cy) sz [.ref (ad (429)), .int (id)] (cW ad cy pm rj σ)) (sp_QT (f_xTrack σ id) D (some (.int (atO (f_findTrack σ id) 0 (fun k => f_lenD σ k)))) (cW ad cy (pm) (rj) (σ)) (sp_A ad 459 sz)) (sp_XT (f_xTrack σ id) (sp_B D ad cy (pm) (σ) sz rj) (sp_A ad 459 sz)) 1 6 (sp_A ad 459 sz) := by
  refine vx_ofW (cc := cX9_trackLengthAgain) (maxL := 2) (ret := (some .int)) (by decide) rfl ?_
  intro p e s m args below meth c s₁ B hml ht hv
  obtain ⟨rfl, hsz, hP, hK, hE⟩ := hv
  have hx := B.exec
  have hb := B.bytes
  have hr := B.returns
  have hts := atoms_spec (ws := wsX9_trackLengthAgain) B.pre
  have hown : s.vm.findClass RX9 = some m.cls := findClass_of_methodNamed B.named
  have hlocks := B.notSynchronized
  subst hsz
  have hlt0 : ∀ k, k < 459 → ad k < s.heap.size := fun k hk => (sp_P_at hP hk).lt
  have hS : va_S (sp_A ad 459 s.heap.size) s.heap s.heap [] := va_S.rf
  have hAk : ∀ k, k < 459 → (sp_A ad 459 s.heap.size) (ad k) := fun k hk => Or.inl ⟨k, hk, rfl⟩
  skip
  have hl := lv_entry ([.ref (ad (429)), .int (id)]) (n := 2) (Nat.le_of_ble_eq_true rfl)
  refine W.eq (lg_entry_eq _ ([.ref (ad (429)), .int (id)]) _) ?_
  generalize (lg_sl ([.ref (ad (429)), .int (id)]) ++ List.replicate (2 - (lg_sl ([.ref (ad (429)), .int (id)])).length) Slot.unset).toArray = ls at hl ⊢
  have hl : lv_has ls 2 [(0, .ref (ad (429))), (1, .int (id))] := hl
  refine lv_aload_n hx hb dX9_trackLengthAgain_0 rfl (lv_at hl 0 rfl) ?_
  refine sp_get hx hb hts wi_X9_trackLengthAgain_X9 hown hK hP (κ := 429) (by decide) cE_sp rfl 1 (by decide) (hts _ (List.mem_of_getElem? (i := 1) rfl)) (fun _ h => h) rfl dX9_trackLengthAgain_1 ?_
  refine lv_aload_n hx hb dX9_trackLengthAgain_4 rfl (lv_at hl 0 rfl) ?_
  refine lv_iload_n hx hb dX9_trackLengthAgain_5 rfl (lv_at hl 1 rfl) ?_
  have hS0_x_1 := hS.1
  refine sp_callx (vx_runV (As := [.int (id)]) (rest := [.ref (ad (430))]) ⟨hx, hb, hml, hown, hts⟩ (c_X9_requireTrack l D ad cy pm rj σ xq hst _ hi id) (cwV 1 hts gX9_trackLengthAgain_X9_requireTrack rfl rfl rfl (by decide +kernel) ⟨Nat.le_of_ble_eq_true rfl, Nat.le_of_ble_eq_true rfl⟩) (sp_preVmx hK hP (hE.go hS) (κ := 429) (by decide) cE_sp rfl) rfl rfl hl.1 rfl (lv_room (Nat.le_of_ble_eq_true rfl)) dX9_trackLengthAgain_6 ⟨Nat.le_of_ble_eq_true rfl, Nat.le_of_ble_eq_true rfl⟩) hS (fun q h1 h2 => sp_Alt h1 h2) (sp_Ale hS.1) (fun E_x_1 r_x_1 ce_x_1 q9_x_1 H locs hthr_x_1 hB_x_1 hle hfr hS hce_x_1 hcv_x_1 hcl_x_1 => ?_) (fun hthr_x_1 H locs hP hle hfr hS => ?_)
  · skip
    obtain ⟨rj9, hPx, hN⟩ := hB_x_1
    exact vx_out (fun x hx => (ht x hx).elim) hlocks hce_x_1 hcv_x_1 hcl_x_1 (fun T9 hT9 _ => ⟨r_x_1, show (f_xTrack σ id : XO) = some (E_x_1, r_x_1) from (by first | (simp [Option.or, atO, eIOO, eIAE, eUOE, eNSE, eARE, eISE, hthr_x_1]; done) | (simp only [hthr_x_1]; simp [f_xTrack, f_xNo, f_xFound, atO, Option.or, atO, eIOO, eIAE, eUOE, eNSE, eARE, eISE, hthr_x_1]; done)), by rw [hT9]; exact ⟨rj9, hPx, hN.mono hS0_x_1⟩, hS.F hT9⟩) hS.2.2 (by omega) (by omega)
  · skip
    rcases opt_em (f_findTrack σ id) with q_2 | ⟨j_3, q_2⟩
    · exact absurd hthr_x_1 (by simp [f_xTrack, f_xNo, q_2])
    · have hj_3 := f_findTrack_lt q_2
      refine W.eq (g2 := F0 m 9 ls [.ref (ad (3 + j_3)), .ref (ad (430))]) (by rw [q_2]; rfl) ?_
      refine sp_call (W.runV (As := [.ref (ad (3 + j_3))]) (rest := []) ⟨hx, hb, hml, hown, hts⟩ (c_X4_lengthByDirections l D ad cy pm rj σ j_3 (by omega)) (cwV 1 hts gX9_trackLengthAgain_X4_lengthByDirections rfl rfl rfl (by decide +kernel) ⟨Nat.le_of_ble_eq_true rfl, Nat.le_of_ble_eq_true rfl⟩) (sp_preV hK hP (κ := 430) (by decide) cE_proof rfl) rfl rfl hl.1 rfl (lv_room (Nat.le_of_ble_eq_true rfl)) dX9_trackLengthAgain_9 ⟨Nat.le_of_ble_eq_true rfl, Nat.le_of_ble_eq_true rfl⟩) ?_
      refine W.eq (g2 := F0 m 12 ls [.int (f_lenD σ j_3)]) rfl ?_
      exact vx_ret (W.iret (v := f_lenD σ j_3) hx hb hr (fun T9 hT9 _ => ⟨show (f_xTrack σ id : XO) = none from (by first | (simp [Option.or, atO, eIOO, eIAE, eUOE, eNSE, eARE, eISE, hthr_x_1, q_2]; done) | (simp only [hthr_x_1]; simp [f_xTrack, f_xNo, f_xFound, atO, Option.or, atO, eIOO, eIAE, eUOE, eNSE, eARE, eISE, hthr_x_1, q_2]; done)), congrArg (fun z9 => Outcome.returned (some (Value.int z9))) (show (f_lenD σ j_3 : Int32) = atO (f_findTrack σ id) 0 (fun k => f_lenD σ k) from (by first | rfl | (simp [atO, b2i, hthr_x_1, q_2]; done))), by rw [hT9]; exact hP, hS.F hT9⟩) hS.2.2 dX9_trackLengthAgain_12)

theorem wi_X9_errorCount_X9 : ∀ w ∈ wsX90, w ∈ wsX9_errorCount := by decide +kernel
theorem wi_X9_errorCount_X8 : ∀ w ∈ wsX80, w ∈ wsX9_errorCount := by decide +kernel
set_option maxHeartbeats 4000000 in
set_option maxRecDepth 100000 in
theorem c_X9_errorCount (l : Launch) (D : va_G) (ad : Nat → Nat) (cy : Nat → ClassId) (pm : Nat → Nat) (rj : Option Nat) (σ : Nat → Nat → Int32) (xq : Nat → Nat) (hst : l.stackTraces = false) (sz : Nat) (hi : sp_inj ad 459) (id : Int32) : vx_Met l yX9_errorCount wsX9_errorCount ({ frames := 7, cells := 1, slots := 6, locals := 112 } : Room) (sp_Pmx xq ad 459 D (tyG cy) sz [.ref (ad (429)), .int (id)] (cW ad cy pm rj σ)) (sp_QT (f_xTrack σ id) D (some (.int (atO (f_findTrack σ id) 0 (fun k => f_errs σ (σ (3 + k) 1))))) (cW ad cy (pm) (rj) (σ)) (sp_A ad 459 sz)) (sp_XT (f_xTrack σ id) (sp_B D ad cy (pm) (σ) sz rj) (sp_A ad 459 sz)) 1 6 (sp_A ad 459 sz) := by
  refine vx_ofW (cc := cX9_errorCount) (maxL := 2) (ret := (some .int)) (by decide) rfl ?_
  intro p e s m args below meth c s₁ B hml ht hv
  obtain ⟨rfl, hsz, hP, hK, hE⟩ := hv
  have hx := B.exec
  have hb := B.bytes
  have hr := B.returns
  have hts := atoms_spec (ws := wsX9_errorCount) B.pre
  have hown : s.vm.findClass RX9 = some m.cls := findClass_of_methodNamed B.named
  have hlocks := B.notSynchronized
  subst hsz
  have hlt0 : ∀ k, k < 459 → ad k < s.heap.size := fun k hk => (sp_P_at hP hk).lt
  have hS : va_S (sp_A ad 459 s.heap.size) s.heap s.heap [] := va_S.rf
  have hAk : ∀ k, k < 459 → (sp_A ad 459 s.heap.size) (ad k) := fun k hk => Or.inl ⟨k, hk, rfl⟩
  skip
  have hl := lv_entry ([.ref (ad (429)), .int (id)]) (n := 2) (Nat.le_of_ble_eq_true rfl)
  refine W.eq (lg_entry_eq _ ([.ref (ad (429)), .int (id)]) _) ?_
  generalize (lg_sl ([.ref (ad (429)), .int (id)]) ++ List.replicate (2 - (lg_sl ([.ref (ad (429)), .int (id)])).length) Slot.unset).toArray = ls at hl ⊢
  have hl : lv_has ls 2 [(0, .ref (ad (429))), (1, .int (id))] := hl
  refine lv_aload_n hx hb dX9_errorCount_0 rfl (lv_at hl 0 rfl) ?_
  refine sp_get hx hb hts wi_X9_errorCount_X9 hown hK hP (κ := 429) (by decide) cE_sp rfl 1 (by decide) (hts _ (List.mem_of_getElem? (i := 1) rfl)) (fun _ h => h) rfl dX9_errorCount_1 ?_
  refine lv_aload_n hx hb dX9_errorCount_4 rfl (lv_at hl 0 rfl) ?_
  refine lv_iload_n hx hb dX9_errorCount_5 rfl (lv_at hl 1 rfl) ?_
  have hS0_x_1 := hS.1
  refine sp_callx (vx_runV (As := [.int (id)]) (rest := [.ref (ad (430))]) ⟨hx, hb, hml, hown, hts⟩ (c_X9_requireTrack l D ad cy pm rj σ xq hst _ hi id) (cwV 1 hts gX9_errorCount_X9_requireTrack rfl rfl rfl (by decide +kernel) ⟨Nat.le_of_ble_eq_true rfl, Nat.le_of_ble_eq_true rfl⟩) (sp_preVmx hK hP (hE.go hS) (κ := 429) (by decide) cE_sp rfl) rfl rfl hl.1 rfl (lv_room (Nat.le_of_ble_eq_true rfl)) dX9_errorCount_6 ⟨Nat.le_of_ble_eq_true rfl, Nat.le_of_ble_eq_true rfl⟩) hS (fun q h1 h2 => sp_Alt h1 h2) (sp_Ale hS.1) (fun E_x_1 r_x_1 ce_x_1 q9_x_1 H locs hthr_x_1 hB_x_1 hle hfr hS hce_x_1 hcv_x_1 hcl_x_1 => ?_) (fun hthr_x_1 H locs hP hle hfr hS => ?_)
  · skip
    obtain ⟨rj9, hPx, hN⟩ := hB_x_1
    exact vx_out (fun x hx => (ht x hx).elim) hlocks hce_x_1 hcv_x_1 hcl_x_1 (fun T9 hT9 _ => ⟨r_x_1, show (f_xTrack σ id : XO) = some (E_x_1, r_x_1) from (by first | (simp [Option.or, atO, eIOO, eIAE, eUOE, eNSE, eARE, eISE, hthr_x_1]; done) | (simp only [hthr_x_1]; simp [f_xTrack, f_xNo, f_xFound, atO, Option.or, atO, eIOO, eIAE, eUOE, eNSE, eARE, eISE, hthr_x_1]; done)), by rw [hT9]; exact ⟨rj9, hPx, hN.mono hS0_x_1⟩, hS.F hT9⟩) hS.2.2 (by omega) (by omega)
  · skip
    rcases opt_em (f_findTrack σ id) with q_2 | ⟨j_3, q_2⟩
    · exact absurd hthr_x_1 (by simp [f_xTrack, f_xNo, q_2])
    · have hj_3 := f_findTrack_lt q_2
      refine W.eq (g2 := F0 m 9 ls [.ref (ad (3 + j_3)), .ref (ad (430))]) (by rw [q_2]; rfl) ?_
      refine sp_get hx hb hts wi_X9_errorCount_X8 hown hK hP (κ := 3 + j_3) (by omega) (cE_track (by omega) (by omega)) rfl 1 (by decide) (hts _ (List.mem_of_getElem? (i := 2) rfl)) (fun _ h => h) rfl dX9_errorCount_9 ?_
      refine sp_call (W.runV (As := [.int (σ (3 + j_3) 1)]) (rest := []) ⟨hx, hb, hml, hown, hts⟩ (c_X4_errorsByPrints l D ad cy pm rj σ (σ (3 + j_3) 1)) (cwV 1 hts gX9_errorCount_X4_errorsByPrints rfl rfl rfl (by decide +kernel) ⟨Nat.le_of_ble_eq_true rfl, Nat.le_of_ble_eq_true rfl⟩) (sp_preV hK hP (κ := 430) (by decide) cE_proof rfl) rfl rfl hl.1 rfl (lv_room (Nat.le_of_ble_eq_true rfl)) dX9_errorCount_12 ⟨Nat.le_of_ble_eq_true rfl, Nat.le_of_ble_eq_true rfl⟩) ?_
      refine W.eq (g2 := F0 m 15 ls [.int (f_errs σ (σ (3 + j_3) 1))]) rfl ?_
      exact vx_ret (W.iret (v := f_errs σ (σ (3 + j_3) 1)) hx hb hr (fun T9 hT9 _ => ⟨show (f_xTrack σ id : XO) = none from (by first | (simp [Option.or, atO, eIOO, eIAE, eUOE, eNSE, eARE, eISE, hthr_x_1, q_2]; done) | (simp only [hthr_x_1]; simp [f_xTrack, f_xNo, f_xFound, atO, Option.or, atO, eIOO, eIAE, eUOE, eNSE, eARE, eISE, hthr_x_1, q_2]; done)), congrArg (fun z9 => Outcome.returned (some (Value.int z9))) (show (f_errs σ (σ (3 + j_3) 1) : Int32) = atO (f_findTrack σ id) 0 (fun k => f_errs σ (σ (3 + k) 1)) from (by first | rfl | (simp [atO, b2i, hthr_x_1, q_2]; done))), by rw [hT9]; exact hP, hS.F hT9⟩) hS.2.2 dX9_errorCount_15)

theorem wi_X9_errorCountAgain_X9 : ∀ w ∈ wsX90, w ∈ wsX9_errorCountAgain := by decide +kernel
theorem wi_X9_errorCountAgain_X8 : ∀ w ∈ wsX80, w ∈ wsX9_errorCountAgain := by decide +kernel
set_option maxHeartbeats 4000000 in
set_option maxRecDepth 100000 in
theorem c_X9_errorCountAgain (l : Launch) (D : va_G) (ad : Nat → Nat) (cy : Nat → ClassId) (pm : Nat → Nat) (rj : Option Nat) (σ : Nat → Nat → Int32) (xq : Nat → Nat) (hst : l.stackTraces = false) (sz : Nat) (hi : sp_inj ad 459) (id : Int32) : vx_Met l yX9_errorCountAgain wsX9_errorCountAgain ({ frames := 7, cells := 1, slots := 6, locals := 112 } : Room) (sp_Pmx xq ad 459 D (tyG cy) sz [.ref (ad (429)), .int (id)] (cW ad cy pm rj σ)) (sp_QT (f_xTrack σ id) D (some (.int (atO (f_findTrack σ id) 0 (fun k => f_errsK σ (σ (3 + k) 1))))) (cW ad cy (pm) (rj) (σ)) (sp_A ad 459 sz)) (sp_XT (f_xTrack σ id) (sp_B D ad cy (pm) (σ) sz rj) (sp_A ad 459 sz)) 1 6 (sp_A ad 459 sz) := by
  refine vx_ofW (cc := cX9_errorCountAgain) (maxL := 2) (ret := (some .int)) (by decide) rfl ?_
  intro p e s m args below meth c s₁ B hml ht hv
  obtain ⟨rfl, hsz, hP, hK, hE⟩ := hv
  have hx := B.exec
  have hb := B.bytes
  have hr := B.returns
  have hts := atoms_spec (ws := wsX9_errorCountAgain) B.pre
  have hown : s.vm.findClass RX9 = some m.cls := findClass_of_methodNamed B.named
  have hlocks := B.notSynchronized
  subst hsz
  have hlt0 : ∀ k, k < 459 → ad k < s.heap.size := fun k hk => (sp_P_at hP hk).lt
  have hS : va_S (sp_A ad 459 s.heap.size) s.heap s.heap [] := va_S.rf
  have hAk : ∀ k, k < 459 → (sp_A ad 459 s.heap.size) (ad k) := fun k hk => Or.inl ⟨k, hk, rfl⟩
  skip
  have hl := lv_entry ([.ref (ad (429)), .int (id)]) (n := 2) (Nat.le_of_ble_eq_true rfl)
  refine W.eq (lg_entry_eq _ ([.ref (ad (429)), .int (id)]) _) ?_
  generalize (lg_sl ([.ref (ad (429)), .int (id)]) ++ List.replicate (2 - (lg_sl ([.ref (ad (429)), .int (id)])).length) Slot.unset).toArray = ls at hl ⊢
  have hl : lv_has ls 2 [(0, .ref (ad (429))), (1, .int (id))] := hl
  refine lv_aload_n hx hb dX9_errorCountAgain_0 rfl (lv_at hl 0 rfl) ?_
  refine sp_get hx hb hts wi_X9_errorCountAgain_X9 hown hK hP (κ := 429) (by decide) cE_sp rfl 1 (by decide) (hts _ (List.mem_of_getElem? (i := 1) rfl)) (fun _ h => h) rfl dX9_errorCountAgain_1 ?_
  refine lv_aload_n hx hb dX9_errorCountAgain_4 rfl (lv_at hl 0 rfl) ?_
  refine lv_iload_n hx hb dX9_errorCountAgain_5 rfl (lv_at hl 1 rfl) ?_
  have hS0_x_1 := hS.1
  refine sp_callx (vx_runV (As := [.int (id)]) (rest := [.ref (ad (430))]) ⟨hx, hb, hml, hown, hts⟩ (c_X9_requireTrack l D ad cy pm rj σ xq hst _ hi id) (cwV 1 hts gX9_errorCountAgain_X9_requireTrack rfl rfl rfl (by decide +kernel) ⟨Nat.le_of_ble_eq_true rfl, Nat.le_of_ble_eq_true rfl⟩) (sp_preVmx hK hP (hE.go hS) (κ := 429) (by decide) cE_sp rfl) rfl rfl hl.1 rfl (lv_room (Nat.le_of_ble_eq_true rfl)) dX9_errorCountAgain_6 ⟨Nat.le_of_ble_eq_true rfl, Nat.le_of_ble_eq_true rfl⟩) hS (fun q h1 h2 => sp_Alt h1 h2) (sp_Ale hS.1) (fun E_x_1 r_x_1 ce_x_1 q9_x_1 H locs hthr_x_1 hB_x_1 hle hfr hS hce_x_1 hcv_x_1 hcl_x_1 => ?_) (fun hthr_x_1 H locs hP hle hfr hS => ?_)
  · skip
    obtain ⟨rj9, hPx, hN⟩ := hB_x_1
    exact vx_out (fun x hx => (ht x hx).elim) hlocks hce_x_1 hcv_x_1 hcl_x_1 (fun T9 hT9 _ => ⟨r_x_1, show (f_xTrack σ id : XO) = some (E_x_1, r_x_1) from (by first | (simp [Option.or, atO, eIOO, eIAE, eUOE, eNSE, eARE, eISE, hthr_x_1]; done) | (simp only [hthr_x_1]; simp [f_xTrack, f_xNo, f_xFound, atO, Option.or, atO, eIOO, eIAE, eUOE, eNSE, eARE, eISE, hthr_x_1]; done)), by rw [hT9]; exact ⟨rj9, hPx, hN.mono hS0_x_1⟩, hS.F hT9⟩) hS.2.2 (by omega) (by omega)
  · skip
    rcases opt_em (f_findTrack σ id) with q_2 | ⟨j_3, q_2⟩
    · exact absurd hthr_x_1 (by simp [f_xTrack, f_xNo, q_2])
    · have hj_3 := f_findTrack_lt q_2
      refine W.eq (g2 := F0 m 9 ls [.ref (ad (3 + j_3)), .ref (ad (430))]) (by rw [q_2]; rfl) ?_
      refine sp_get hx hb hts wi_X9_errorCountAgain_X8 hown hK hP (κ := 3 + j_3) (by omega) (cE_track (by omega) (by omega)) rfl 1 (by decide) (hts _ (List.mem_of_getElem? (i := 2) rfl)) (fun _ h => h) rfl dX9_errorCountAgain_9 ?_
      refine sp_call (W.runV (As := [.int (σ (3 + j_3) 1)]) (rest := []) ⟨hx, hb, hml, hown, hts⟩ (c_X4_errorsByKinds l D ad cy pm rj σ (σ (3 + j_3) 1)) (cwV 1 hts gX9_errorCountAgain_X4_errorsByKinds rfl rfl rfl (by decide +kernel) ⟨Nat.le_of_ble_eq_true rfl, Nat.le_of_ble_eq_true rfl⟩) (sp_preV hK hP (κ := 430) (by decide) cE_proof rfl) rfl rfl hl.1 rfl (lv_room (Nat.le_of_ble_eq_true rfl)) dX9_errorCountAgain_12 ⟨Nat.le_of_ble_eq_true rfl, Nat.le_of_ble_eq_true rfl⟩) ?_
      refine W.eq (g2 := F0 m 15 ls [.int (f_errsK σ (σ (3 + j_3) 1))]) rfl ?_
      exact vx_ret (W.iret (v := f_errsK σ (σ (3 + j_3) 1)) hx hb hr (fun T9 hT9 _ => ⟨show (f_xTrack σ id : XO) = none from (by first | (simp [Option.or, atO, eIOO, eIAE, eUOE, eNSE, eARE, eISE, hthr_x_1, q_2]; done) | (simp only [hthr_x_1]; simp [f_xTrack, f_xNo, f_xFound, atO, Option.or, atO, eIOO, eIAE, eUOE, eNSE, eARE, eISE, hthr_x_1, q_2]; done)), congrArg (fun z9 => Outcome.returned (some (Value.int z9))) (show (f_errsK σ (σ (3 + j_3) 1) : Int32) = atO (f_findTrack σ id) 0 (fun k => f_errsK σ (σ (3 + k) 1)) from (by first | rfl | (simp [atO, b2i, hthr_x_1, q_2]; done))), by rw [hT9]; exact hP, hS.F hT9⟩) hS.2.2 dX9_errorCountAgain_15)

theorem wi_X9_duration_X9 : ∀ w ∈ wsX90, w ∈ wsX9_duration := by decide +kernel
theorem wi_X9_duration_X3 : ∀ w ∈ wsX30, w ∈ wsX9_duration := by decide +kernel
set_option maxHeartbeats 4000000 in
set_option maxRecDepth 100000 in
theorem c_X9_duration (l : Launch) (D : va_G) (ad : Nat → Nat) (cy : Nat → ClassId) (pm : Nat → Nat) (rj : Option Nat) (σ : Nat → Nat → Int32) (xq : Nat → Nat) (hst : l.stackTraces = false) (sz : Nat) (hi : sp_inj ad 459) (id : Int32) : vx_Met l yX9_duration wsX9_duration ({ frames := 7, cells := 3, slots := 18, locals := 112 } : Room) (sp_Pmx xq ad 459 D (tyG cy) sz [.ref (ad (429)), .int (id)] (cW ad cy pm rj σ)) (sp_QT ((f_xTrack σ id).or (atO (f_findTrack σ id) none (fun k => (f_xFound (f_inPlace σ k 0)).or (f_xFound (f_inPlace σ k (f_countPrints σ k - 1)))))) D (some (.int (atO (f_findTrack σ id) 0 (fun k => atO (f_inPlace σ k 0) 0 (fun a => atO (f_inPlace σ k (f_countPrints σ k - 1)) 0 (fun b => σ (9 + b) 3 - σ (9 + a) 3)))))) (cW ad cy (pm) (rj) (σ)) (sp_A ad 459 sz)) (sp_XT ((f_xTrack σ id).or (atO (f_findTrack σ id) none (fun k => (f_xFound (f_inPlace σ k 0)).or (f_xFound (f_inPlace σ k (f_countPrints σ k - 1)))))) (sp_B D ad cy (pm) (σ) sz rj) (sp_A ad 459 sz)) 3 18 (sp_A ad 459 sz) := by
  refine vx_ofW (cc := cX9_duration) (maxL := 5) (ret := (some .int)) (by decide) rfl ?_
  intro p e s m args below meth c s₁ B hml ht hv
  obtain ⟨rfl, hsz, hP, hK, hE⟩ := hv
  have hx := B.exec
  have hb := B.bytes
  have hr := B.returns
  have hts := atoms_spec (ws := wsX9_duration) B.pre
  have hown : s.vm.findClass RX9 = some m.cls := findClass_of_methodNamed B.named
  have hlocks := B.notSynchronized
  subst hsz
  have hlt0 : ∀ k, k < 459 → ad k < s.heap.size := fun k hk => (sp_P_at hP hk).lt
  have hS : va_S (sp_A ad 459 s.heap.size) s.heap s.heap [] := va_S.rf
  have hAk : ∀ k, k < 459 → (sp_A ad 459 s.heap.size) (ad k) := fun k hk => Or.inl ⟨k, hk, rfl⟩
  skip
  have hl := lv_entry ([.ref (ad (429)), .int (id)]) (n := 5) (Nat.le_of_ble_eq_true rfl)
  refine W.eq (lg_entry_eq _ ([.ref (ad (429)), .int (id)]) _) ?_
  generalize (lg_sl ([.ref (ad (429)), .int (id)]) ++ List.replicate (5 - (lg_sl ([.ref (ad (429)), .int (id)])).length) Slot.unset).toArray = ls at hl ⊢
  have hl : lv_has ls 5 [(0, .ref (ad (429))), (1, .int (id))] := hl
  refine lv_aload_n hx hb dX9_duration_0 rfl (lv_at hl 0 rfl) ?_
  refine lv_iload_n hx hb dX9_duration_1 rfl (lv_at hl 1 rfl) ?_
  have hS0_x_1 := hS.1
  refine sp_callx (vx_runV (As := [.int (id)]) (rest := []) ⟨hx, hb, hml, hown, hts⟩ (c_X9_requireTrack l D ad cy pm rj σ xq hst _ hi id) (cwV 1 hts gX9_duration_X9_requireTrack rfl rfl rfl (by decide +kernel) ⟨Nat.le_of_ble_eq_true rfl, Nat.le_of_ble_eq_true rfl⟩) (sp_preVmx hK hP (hE.go hS) (κ := 429) (by decide) cE_sp rfl) rfl rfl hl.1 rfl (lv_room (Nat.le_of_ble_eq_true rfl)) dX9_duration_2 ⟨Nat.le_of_ble_eq_true rfl, Nat.le_of_ble_eq_true rfl⟩) hS (fun q h1 h2 => sp_Alt h1 h2) (sp_Ale hS.1) (fun E_x_1 r_x_1 ce_x_1 q9_x_1 H locs hthr_x_1 hB_x_1 hle hfr hS hce_x_1 hcv_x_1 hcl_x_1 => ?_) (fun hthr_x_1 H locs hP hle hfr hS => ?_)
  · skip
    obtain ⟨rj9, hPx, hN⟩ := hB_x_1
    exact vx_out (fun x hx => (ht x hx).elim) hlocks hce_x_1 hcv_x_1 hcl_x_1 (fun T9 hT9 _ => ⟨r_x_1, show ((f_xTrack σ id).or (atO (f_findTrack σ id) none (fun k => (f_xFound (f_inPlace σ k 0)).or (f_xFound (f_inPlace σ k (f_countPrints σ k - 1))))) : XO) = some (E_x_1, r_x_1) from (by first | (simp [Option.or, atO, eIOO, eIAE, eUOE, eNSE, eARE, eISE, hthr_x_1]; done) | (simp only [hthr_x_1]; simp [f_xTrack, f_xNo, f_xFound, atO, Option.or, atO, eIOO, eIAE, eUOE, eNSE, eARE, eISE, hthr_x_1]; done)), by rw [hT9]; exact ⟨rj9, hPx, hN.mono hS0_x_1⟩, hS.F hT9⟩) hS.2.2 (by omega) (by omega)
  · skip
    rcases opt_em (f_findTrack σ id) with q_2 | ⟨j_3, q_2⟩
    · exact absurd hthr_x_1 (by simp [f_xTrack, f_xNo, q_2])
    · have hj_3 := f_findTrack_lt q_2
      refine W.eq (g2 := F0 m 5 ls [.ref (ad (3 + j_3))]) (by rw [q_2]; rfl) ?_
      refine lv_astore_n (lv' := [(2, .ref (ad (3 + j_3))), (0, .ref (ad (429))), (1, .int (id))]) hx hb dX9_duration_5 rfl hl (by decide) rfl (fun ls hl => ?_)
      refine lv_aload_n hx hb dX9_duration_6 rfl (lv_at hl 1 rfl) ?_
      refine sp_get hx hb hts wi_X9_duration_X9 hown hK hP (κ := 429) (by decide) cE_sp rfl 0 (by decide) (hts _ (List.mem_of_getElem? (i := 1) rfl)) (fun _ h => h) rfl dX9_duration_7 ?_
      refine lv_aload_n hx hb dX9_duration_10 rfl (lv_at hl 0 rfl) ?_
      refine lv_iconst (v := 0) hx hb dX9_duration_11 (by decide) ?_
      refine sp_call (W.runV (As := [.ref (ad (3 + j_3)), .int (0)]) (rest := []) ⟨hx, hb, hml, hown, hts⟩ (c_X0_inPlace l D ad cy pm rj σ j_3 (by omega) 0) (cwV 2 hts gX9_duration_X0_inPlace rfl rfl rfl (by decide +kernel) ⟨Nat.le_of_ble_eq_true rfl, Nat.le_of_ble_eq_true rfl⟩) (sp_preV hK hP (κ := 0) (by omega) (cE_beach (by omega) (by omega)) rfl) rfl rfl hl.1 rfl (lv_room (Nat.le_of_ble_eq_true rfl)) dX9_duration_12 ⟨Nat.le_of_ble_eq_true rfl, Nat.le_of_ble_eq_true rfl⟩) ?_
      rcases opt_em (f_inPlace σ j_3 0) with q_4 | ⟨j_5, q_4⟩
      · refine W.eq (g2 := F0 m 15 ls [.null]) (by rw [q_4]; rfl) ?_
        have hS0_x_6 := hS.1
        refine sp_callx (vx_runS (As := [.null]) (rest := []) ⟨hx, hb, hml, hown, hts⟩ (c_X9_requireFound l D ad cy pm rj σ xq hst _ hi (none : Option Nat) (by intro j hj; first | (cases hj; done) | (cases hj; omega))) (va_cwS 1 hts gX9_duration_X9_requireFound rfl rfl rfl (by decide +kernel) ⟨Nat.le_of_ble_eq_true rfl, Nat.le_of_ble_eq_true rfl⟩) (sp_preSmx hK hP (hE.go hS)) rfl rfl hl.1 rfl (lv_room (Nat.le_of_ble_eq_true rfl)) dX9_duration_15 ⟨Nat.le_of_ble_eq_true rfl, Nat.le_of_ble_eq_true rfl⟩) hS (fun q h1 h2 => sp_Alt h1 h2) (sp_Ale hS.1) (fun E_x_6 r_x_6 ce_x_6 q9_x_6 H locs hthr_x_6 hB_x_6 hle hfr hS hce_x_6 hcv_x_6 hcl_x_6 => ?_) (fun hthr_x_6 H locs hP hle hfr hS => ?_)
        · skip
          obtain ⟨rj9, hPx, hN⟩ := hB_x_6
          exact vx_out (fun x hx => (ht x hx).elim) hlocks hce_x_6 hcv_x_6 hcl_x_6 (fun T9 hT9 _ => ⟨r_x_6, show ((f_xTrack σ id).or (atO (f_findTrack σ id) none (fun k => (f_xFound (f_inPlace σ k 0)).or (f_xFound (f_inPlace σ k (f_countPrints σ k - 1))))) : XO) = some (E_x_6, r_x_6) from (by first | (simp [Option.or, atO, eIOO, eIAE, eUOE, eNSE, eARE, eISE, hthr_x_1, q_2, q_4, hthr_x_6]; done) | (simp only [hthr_x_1, hthr_x_6]; simp [f_xTrack, f_xNo, f_xFound, atO, Option.or, atO, eIOO, eIAE, eUOE, eNSE, eARE, eISE, hthr_x_1, q_2, q_4, hthr_x_6]; done)), by rw [hT9]; exact ⟨rj9, hPx, hN.mono hS0_x_6⟩, hS.F hT9⟩) hS.2.2 (by omega) (by omega)
        · skip
          exact absurd hthr_x_6 (by simp [f_xFound])
      · have hj_5 := f_inPlace_lt q_4
        refine W.eq (g2 := F0 m 15 ls [.ref (ad (9 + j_5))]) (by rw [q_4]; rfl) ?_
        have hS0_x_9 := hS.1
        refine sp_callx (vx_runS (As := [.ref (ad (9 + j_5))]) (rest := []) ⟨hx, hb, hml, hown, hts⟩ (c_X9_requireFound l D ad cy pm rj σ xq hst _ hi (some (j_5)) (by intro j hj; first | (cases hj; done) | (cases hj; omega))) (va_cwS 1 hts gX9_duration_X9_requireFound rfl rfl rfl (by decide +kernel) ⟨Nat.le_of_ble_eq_true rfl, Nat.le_of_ble_eq_true rfl⟩) (sp_preSmx hK hP (hE.go hS)) rfl rfl hl.1 rfl (lv_room (Nat.le_of_ble_eq_true rfl)) dX9_duration_15 ⟨Nat.le_of_ble_eq_true rfl, Nat.le_of_ble_eq_true rfl⟩) hS (fun q h1 h2 => sp_Alt h1 h2) (sp_Ale hS.1) (fun E_x_9 r_x_9 ce_x_9 q9_x_9 H locs hthr_x_9 hB_x_9 hle hfr hS hce_x_9 hcv_x_9 hcl_x_9 => ?_) (fun hthr_x_9 H locs hP hle hfr hS => ?_)
        · skip
          obtain ⟨rj9, hPx, hN⟩ := hB_x_9
          exact vx_out (fun x hx => (ht x hx).elim) hlocks hce_x_9 hcv_x_9 hcl_x_9 (fun T9 hT9 _ => ⟨r_x_9, show ((f_xTrack σ id).or (atO (f_findTrack σ id) none (fun k => (f_xFound (f_inPlace σ k 0)).or (f_xFound (f_inPlace σ k (f_countPrints σ k - 1))))) : XO) = some (E_x_9, r_x_9) from (by first | (simp [Option.or, atO, eIOO, eIAE, eUOE, eNSE, eARE, eISE, hthr_x_1, q_2, q_4, hthr_x_9]; done) | (simp only [hthr_x_1, hthr_x_9]; simp [f_xTrack, f_xNo, f_xFound, atO, Option.or, atO, eIOO, eIAE, eUOE, eNSE, eARE, eISE, hthr_x_1, q_2, q_4, hthr_x_9]; done)), by rw [hT9]; exact ⟨rj9, hPx, hN.mono hS0_x_9⟩, hS.F hT9⟩) hS.2.2 (by omega) (by omega)
        · skip
          refine W.eq (g2 := F0 m 18 ls [.ref (ad (9 + j_5))]) rfl ?_
          refine lv_astore_n (lv' := [(3, .ref (ad (9 + j_5))), (2, .ref (ad (3 + j_3))), (0, .ref (ad (429))), (1, .int (id))]) hx hb dX9_duration_18 rfl hl (by decide) rfl (fun ls hl => ?_)
          refine lv_aload_n hx hb dX9_duration_19 rfl (lv_at hl 2 rfl) ?_
          refine sp_get hx hb hts wi_X9_duration_X9 hown hK hP (κ := 429) (by decide) cE_sp rfl 0 (by decide) (hts _ (List.mem_of_getElem? (i := 1) rfl)) (fun _ h => h) rfl dX9_duration_20 ?_
          refine lv_aload_n hx hb dX9_duration_23 rfl (lv_at hl 1 rfl) ?_
          refine lv_aload_n hx hb dX9_duration_24 rfl (lv_at hl 2 rfl) ?_
          refine sp_get hx hb hts wi_X9_duration_X9 hown hK hP (κ := 429) (by decide) cE_sp rfl 0 (by decide) (hts _ (List.mem_of_getElem? (i := 1) rfl)) (fun _ h => h) rfl dX9_duration_25 ?_
          refine lv_aload_n hx hb dX9_duration_28 rfl (lv_at hl 1 rfl) ?_
          refine sp_call (W.runV (As := [.ref (ad (3 + j_3))]) (rest := [.ref (ad (3 + j_3)), .ref (ad (0))]) ⟨hx, hb, hml, hown, hts⟩ (c_X0_countPrints l D ad cy pm rj σ j_3 (by omega)) (cwV 1 hts gX9_duration_X0_countPrints rfl rfl rfl (by decide +kernel) ⟨Nat.le_of_ble_eq_true rfl, Nat.le_of_ble_eq_true rfl⟩) (sp_preV hK hP (κ := 0) (by omega) (cE_beach (by omega) (by omega)) rfl) rfl rfl hl.1 rfl (lv_room (Nat.le_of_ble_eq_true rfl)) dX9_duration_29 ⟨Nat.le_of_ble_eq_true rfl, Nat.le_of_ble_eq_true rfl⟩) ?_
          refine W.eq (g2 := F0 m 32 ls [.int (f_countPrints σ j_3), .ref (ad (3 + j_3)), .ref (ad (0))]) rfl ?_
          refine lv_iconst (v := 1) hx hb dX9_duration_32 (by decide) ?_
          refine lv_isub hx hb dX9_duration_33 ?_
          refine sp_call (W.runV (As := [.ref (ad (3 + j_3)), .int ((f_countPrints σ j_3) - 1)]) (rest := []) ⟨hx, hb, hml, hown, hts⟩ (c_X0_inPlace l D ad cy pm rj σ j_3 (by omega) ((f_countPrints σ j_3) - 1)) (cwV 2 hts gX9_duration_X0_inPlace rfl rfl rfl (by decide +kernel) ⟨Nat.le_of_ble_eq_true rfl, Nat.le_of_ble_eq_true rfl⟩) (sp_preV hK hP (κ := 0) (by omega) (cE_beach (by omega) (by omega)) rfl) rfl rfl hl.1 rfl (lv_room (Nat.le_of_ble_eq_true rfl)) dX9_duration_34 ⟨Nat.le_of_ble_eq_true rfl, Nat.le_of_ble_eq_true rfl⟩) ?_
          rcases opt_em (f_inPlace σ j_3 ((f_countPrints σ j_3) - 1)) with q_12 | ⟨j_13, q_12⟩
          · refine W.eq (g2 := F0 m 37 ls [.null]) (by rw [q_12]; rfl) ?_
            have hS0_x_14 := hS.1
            refine sp_callx (vx_runS (As := [.null]) (rest := []) ⟨hx, hb, hml, hown, hts⟩ (c_X9_requireFound l D ad cy pm rj σ xq hst _ hi (none : Option Nat) (by intro j hj; first | (cases hj; done) | (cases hj; omega))) (va_cwS 1 hts gX9_duration_X9_requireFound rfl rfl rfl (by decide +kernel) ⟨Nat.le_of_ble_eq_true rfl, Nat.le_of_ble_eq_true rfl⟩) (sp_preSmx hK hP (hE.go hS)) rfl rfl hl.1 rfl (lv_room (Nat.le_of_ble_eq_true rfl)) dX9_duration_37 ⟨Nat.le_of_ble_eq_true rfl, Nat.le_of_ble_eq_true rfl⟩) hS (fun q h1 h2 => sp_Alt h1 h2) (sp_Ale hS.1) (fun E_x_14 r_x_14 ce_x_14 q9_x_14 H locs hthr_x_14 hB_x_14 hle hfr hS hce_x_14 hcv_x_14 hcl_x_14 => ?_) (fun hthr_x_14 H locs hP hle hfr hS => ?_)
            · skip
              obtain ⟨rj9, hPx, hN⟩ := hB_x_14
              exact vx_out (fun x hx => (ht x hx).elim) hlocks hce_x_14 hcv_x_14 hcl_x_14 (fun T9 hT9 _ => ⟨r_x_14, show ((f_xTrack σ id).or (atO (f_findTrack σ id) none (fun k => (f_xFound (f_inPlace σ k 0)).or (f_xFound (f_inPlace σ k (f_countPrints σ k - 1))))) : XO) = some (E_x_14, r_x_14) from (by first | (simp [Option.or, atO, eIOO, eIAE, eUOE, eNSE, eARE, eISE, hthr_x_1, q_2, q_4, hthr_x_9, q_12, hthr_x_14]; done) | (simp only [hthr_x_1, hthr_x_9, hthr_x_14]; simp [f_xTrack, f_xNo, f_xFound, atO, Option.or, atO, eIOO, eIAE, eUOE, eNSE, eARE, eISE, hthr_x_1, q_2, q_4, hthr_x_9, q_12, hthr_x_14]; done)), by rw [hT9]; exact ⟨rj9, hPx, hN.mono hS0_x_14⟩, hS.F hT9⟩) hS.2.2 (by omega) (by omega)
            · skip
              exact absurd hthr_x_14 (by simp [f_xFound])
          · have hj_13 := f_inPlace_lt q_12
            refine W.eq (g2 := F0 m 37 ls [.ref (ad (9 + j_13))]) (by rw [q_12]; rfl) ?_
            have hS0_x_17 := hS.1
            refine sp_callx (vx_runS (As := [.ref (ad (9 + j_13))]) (rest := []) ⟨hx, hb, hml, hown, hts⟩ (c_X9_requireFound l D ad cy pm rj σ xq hst _ hi (some (j_13)) (by intro j hj; first | (cases hj; done) | (cases hj; omega))) (va_cwS 1 hts gX9_duration_X9_requireFound rfl rfl rfl (by decide +kernel) ⟨Nat.le_of_ble_eq_true rfl, Nat.le_of_ble_eq_true rfl⟩) (sp_preSmx hK hP (hE.go hS)) rfl rfl hl.1 rfl (lv_room (Nat.le_of_ble_eq_true rfl)) dX9_duration_37 ⟨Nat.le_of_ble_eq_true rfl, Nat.le_of_ble_eq_true rfl⟩) hS (fun q h1 h2 => sp_Alt h1 h2) (sp_Ale hS.1) (fun E_x_17 r_x_17 ce_x_17 q9_x_17 H locs hthr_x_17 hB_x_17 hle hfr hS hce_x_17 hcv_x_17 hcl_x_17 => ?_) (fun hthr_x_17 H locs hP hle hfr hS => ?_)
            · skip
              obtain ⟨rj9, hPx, hN⟩ := hB_x_17
              exact vx_out (fun x hx => (ht x hx).elim) hlocks hce_x_17 hcv_x_17 hcl_x_17 (fun T9 hT9 _ => ⟨r_x_17, show ((f_xTrack σ id).or (atO (f_findTrack σ id) none (fun k => (f_xFound (f_inPlace σ k 0)).or (f_xFound (f_inPlace σ k (f_countPrints σ k - 1))))) : XO) = some (E_x_17, r_x_17) from (by first | (simp [Option.or, atO, eIOO, eIAE, eUOE, eNSE, eARE, eISE, hthr_x_1, q_2, q_4, hthr_x_9, q_12, hthr_x_17]; done) | (simp only [hthr_x_1, hthr_x_9, hthr_x_17]; simp [f_xTrack, f_xNo, f_xFound, atO, Option.or, atO, eIOO, eIAE, eUOE, eNSE, eARE, eISE, hthr_x_1, q_2, q_4, hthr_x_9, q_12, hthr_x_17]; done)), by rw [hT9]; exact ⟨rj9, hPx, hN.mono hS0_x_17⟩, hS.F hT9⟩) hS.2.2 (by omega) (by omega)
            · skip
              refine W.eq (g2 := F0 m 40 ls [.ref (ad (9 + j_13))]) rfl ?_
              refine lv_astore (lv' := [(4, .ref (ad (9 + j_13))), (3, .ref (ad (9 + j_5))), (2, .ref (ad (3 + j_3))), (0, .ref (ad (429))), (1, .int (id))]) hx hb dX9_duration_40 hl (by decide) rfl (fun ls hl => ?_)
              refine lv_aload hx hb dX9_duration_42 (lv_at hl 0 rfl) ?_
              refine sp_get hx hb hts wi_X9_duration_X3 hown hK hP (κ := 9 + j_13) (by omega) (cE_print (by omega) (by omega)) rfl 3 (by decide) (hts _ (List.mem_of_getElem? (i := 2) rfl)) (fun _ h => h) rfl dX9_duration_44 ?_
              refine lv_aload_n hx hb dX9_duration_47 rfl (lv_at hl 1 rfl) ?_
              refine sp_get hx hb hts wi_X9_duration_X3 hown hK hP (κ := 9 + j_5) (by omega) (cE_print (by omega) (by omega)) rfl 3 (by decide) (hts _ (List.mem_of_getElem? (i := 2) rfl)) (fun _ h => h) rfl dX9_duration_48 ?_
              refine lv_isub hx hb dX9_duration_51 ?_
              exact vx_ret (W.iret (v := (σ (9 + j_13) 3) - (σ (9 + j_5) 3)) hx hb hr (fun T9 hT9 _ => ⟨show ((f_xTrack σ id).or (atO (f_findTrack σ id) none (fun k => (f_xFound (f_inPlace σ k 0)).or (f_xFound (f_inPlace σ k (f_countPrints σ k - 1))))) : XO) = none from (by first | (simp [Option.or, atO, eIOO, eIAE, eUOE, eNSE, eARE, eISE, hthr_x_1, q_2, q_4, hthr_x_9, q_12, hthr_x_17]; done) | (simp only [hthr_x_1, hthr_x_9, hthr_x_17]; simp [f_xTrack, f_xNo, f_xFound, atO, Option.or, atO, eIOO, eIAE, eUOE, eNSE, eARE, eISE, hthr_x_1, q_2, q_4, hthr_x_9, q_12, hthr_x_17]; done)), congrArg (fun z9 => Outcome.returned (some (Value.int z9))) (show ((σ (9 + j_13) 3) - (σ (9 + j_5) 3) : Int32) = atO (f_findTrack σ id) 0 (fun k => atO (f_inPlace σ k 0) 0 (fun a => atO (f_inPlace σ k (f_countPrints σ k - 1)) 0 (fun b => σ (9 + b) 3 - σ (9 + a) 3))) from (by first | rfl | (simp [atO, b2i, hthr_x_1, q_2, q_4, hthr_x_9, q_12, hthr_x_17]; done))), by rw [hT9]; exact hP, hS.F hT9⟩) hS.2.2 dX9_duration_52)

theorem wi_X9_errorsIfMoved_X9 : ∀ w ∈ wsX90, w ∈ wsX9_errorsIfMoved := by decide +kernel
set_option maxHeartbeats 4000000 in
set_option maxRecDepth 100000 in
theorem c_X9_errorsIfMoved (l : Launch) (D : va_G) (ad : Nat → Nat) (cy : Nat → ClassId) (pm : Nat → Nat) (rj : Option Nat) (σ : Nat → Nat → Int32) (xq : Nat → Nat) (hst : l.stackTraces = false) (sz : Nat) (hi : sp_inj ad 459) (id : Int32) (r : Int32) (c1 : Int32) : vx_Met l yX9_errorsIfMoved wsX9_errorsIfMoved ({ frames := 7, cells := 2, slots := 12, locals := 120 } : Room) (sp_Pmx xq ad 459 D (tyG cy) sz [.ref (ad (429)), .int (id), .int (r), .int (c1)] (cW ad cy pm rj σ)) (sp_QT ((f_xPrint σ id).or (f_xCell r c1)) D (some (.int (atO (f_findPrint σ id) 0 (fun k => f_errsW σ k r c1)))) (cW ad cy (pm) (rj) (σ)) (sp_A ad 459 sz)) (sp_XT ((f_xPrint σ id).or (f_xCell r c1)) (sp_B D ad cy (pm) (σ) sz rj) (sp_A ad 459 sz)) 2 12 (sp_A ad 459 sz) := by
  refine vx_ofW (cc := cX9_errorsIfMoved) (maxL := 5) (ret := (some .int)) (by decide) rfl ?_
  intro p e s m args below meth c s₁ B hml ht hv
  obtain ⟨rfl, hsz, hP, hK, hE⟩ := hv
  have hx := B.exec
  have hb := B.bytes
  have hr := B.returns
  have hts := atoms_spec (ws := wsX9_errorsIfMoved) B.pre
  have hown : s.vm.findClass RX9 = some m.cls := findClass_of_methodNamed B.named
  have hlocks := B.notSynchronized
  subst hsz
  have hlt0 : ∀ k, k < 459 → ad k < s.heap.size := fun k hk => (sp_P_at hP hk).lt
  have hS : va_S (sp_A ad 459 s.heap.size) s.heap s.heap [] := va_S.rf
  have hAk : ∀ k, k < 459 → (sp_A ad 459 s.heap.size) (ad k) := fun k hk => Or.inl ⟨k, hk, rfl⟩
  skip
  have hl := lv_entry ([.ref (ad (429)), .int (id), .int (r), .int (c1)]) (n := 5) (Nat.le_of_ble_eq_true rfl)
  refine W.eq (lg_entry_eq _ ([.ref (ad (429)), .int (id), .int (r), .int (c1)]) _) ?_
  generalize (lg_sl ([.ref (ad (429)), .int (id), .int (r), .int (c1)]) ++ List.replicate (5 - (lg_sl ([.ref (ad (429)), .int (id), .int (r), .int (c1)])).length) Slot.unset).toArray = ls at hl ⊢
  have hl : lv_has ls 5 [(0, .ref (ad (429))), (1, .int (id)), (2, .int (r)), (3, .int (c1))] := hl
  refine lv_aload_n hx hb dX9_errorsIfMoved_0 rfl (lv_at hl 0 rfl) ?_
  refine lv_iload_n hx hb dX9_errorsIfMoved_1 rfl (lv_at hl 1 rfl) ?_
  have hS0_x_1 := hS.1
  refine sp_callx (vx_runV (As := [.int (id)]) (rest := []) ⟨hx, hb, hml, hown, hts⟩ (c_X9_requirePrint l D ad cy pm rj σ xq hst _ hi id) (cwV 1 hts gX9_errorsIfMoved_X9_requirePrint rfl rfl rfl (by decide +kernel) ⟨Nat.le_of_ble_eq_true rfl, Nat.le_of_ble_eq_true rfl⟩) (sp_preVmx hK hP (hE.go hS) (κ := 429) (by decide) cE_sp rfl) rfl rfl hl.1 rfl (lv_room (Nat.le_of_ble_eq_true rfl)) dX9_errorsIfMoved_2 ⟨Nat.le_of_ble_eq_true rfl, Nat.le_of_ble_eq_true rfl⟩) hS (fun q h1 h2 => sp_Alt h1 h2) (sp_Ale hS.1) (fun E_x_1 r_x_1 ce_x_1 q9_x_1 H locs hthr_x_1 hB_x_1 hle hfr hS hce_x_1 hcv_x_1 hcl_x_1 => ?_) (fun hthr_x_1 H locs hP hle hfr hS => ?_)
  · skip
    obtain ⟨rj9, hPx, hN⟩ := hB_x_1
    exact vx_out (fun x hx => (ht x hx).elim) hlocks hce_x_1 hcv_x_1 hcl_x_1 (fun T9 hT9 _ => ⟨r_x_1, show ((f_xPrint σ id).or (f_xCell r c1) : XO) = some (E_x_1, r_x_1) from (by first | (simp [Option.or, eIOO, eIAE, eUOE, eNSE, eARE, eISE, hthr_x_1]; done) | (simp only [hthr_x_1]; simp [f_xPrint, f_xNo, f_xCell, Option.or, atO, eIOO, eIAE, eUOE, eNSE, eARE, eISE, hthr_x_1]; done)), by rw [hT9]; exact ⟨rj9, hPx, hN.mono hS0_x_1⟩, hS.F hT9⟩) hS.2.2 (by omega) (by omega)
  · skip
    rcases opt_em (f_findPrint σ id) with q_2 | ⟨j_3, q_2⟩
    · exact absurd hthr_x_1 (by simp [f_xPrint, f_xNo, q_2])
    · have hj_3 := f_findPrint_lt q_2
      refine W.eq (g2 := F0 m 5 ls [.ref (ad (9 + j_3))]) (by rw [q_2]; rfl) ?_
      refine lv_astore (lv' := [(4, .ref (ad (9 + j_3))), (0, .ref (ad (429))), (1, .int (id)), (2, .int (r)), (3, .int (c1))]) hx hb dX9_errorsIfMoved_5 hl (by decide) rfl (fun ls hl => ?_)
      refine lv_iload_n hx hb dX9_errorsIfMoved_7 rfl (lv_at hl 3 rfl) ?_
      refine lv_iload_n hx hb dX9_errorsIfMoved_8 rfl (lv_at hl 4 rfl) ?_
      have hS0_x_4 := hS.1
      refine sp_callx (vx_runS (As := [.int (r), .int (c1)]) (rest := []) ⟨hx, hb, hml, hown, hts⟩ (c_X9_requireCell l D ad cy pm rj σ xq hst _ hi r c1) (va_cwS 2 hts gX9_errorsIfMoved_X9_requireCell rfl rfl rfl (by decide +kernel) ⟨Nat.le_of_ble_eq_true rfl, Nat.le_of_ble_eq_true rfl⟩) (sp_preSmx hK hP (hE.go hS)) rfl rfl hl.1 rfl (lv_room (Nat.le_of_ble_eq_true rfl)) dX9_errorsIfMoved_9 ⟨Nat.le_of_ble_eq_true rfl, Nat.le_of_ble_eq_true rfl⟩) hS (fun q h1 h2 => sp_Alt h1 h2) (sp_Ale hS.1) (fun E_x_4 r_x_4 ce_x_4 q9_x_4 H locs hthr_x_4 hB_x_4 hle hfr hS hce_x_4 hcv_x_4 hcl_x_4 => ?_) (fun hthr_x_4 H locs hP hle hfr hS => ?_)
      · skip
        obtain ⟨rj9, hPx, hN⟩ := hB_x_4
        exact vx_out (fun x hx => (ht x hx).elim) hlocks hce_x_4 hcv_x_4 hcl_x_4 (fun T9 hT9 _ => ⟨r_x_4, show ((f_xPrint σ id).or (f_xCell r c1) : XO) = some (E_x_4, r_x_4) from (by first | (simp [Option.or, eIOO, eIAE, eUOE, eNSE, eARE, eISE, hthr_x_1, q_2, hthr_x_4]; done) | (simp only [hthr_x_1, hthr_x_4]; simp [f_xPrint, f_xNo, f_xCell, Option.or, atO, eIOO, eIAE, eUOE, eNSE, eARE, eISE, hthr_x_1, q_2, hthr_x_4]; done)), by rw [hT9]; exact ⟨rj9, hPx, hN.mono hS0_x_4⟩, hS.F hT9⟩) hS.2.2 (by omega) (by omega)
      · skip
        refine W.eq (g2 := F0 m 12 ls []) rfl ?_
        refine lv_aload_n hx hb dX9_errorsIfMoved_12 rfl (lv_at hl 1 rfl) ?_
        refine sp_get hx hb hts wi_X9_errorsIfMoved_X9 hown hK hP (κ := 429) (by decide) cE_sp rfl 1 (by decide) (hts _ (List.mem_of_getElem? (i := 1) rfl)) (fun _ h => h) rfl dX9_errorsIfMoved_13 ?_
        refine lv_aload hx hb dX9_errorsIfMoved_16 (lv_at hl 0 rfl) ?_
        refine lv_iload_n hx hb dX9_errorsIfMoved_18 rfl (lv_at hl 3 rfl) ?_
        refine lv_iload_n hx hb dX9_errorsIfMoved_19 rfl (lv_at hl 4 rfl) ?_
        refine sp_callm (va_runV (As := [.ref (ad (9 + j_3)), .int (r), .int (c1)]) (rest := []) ⟨hx, hb, hml, hown, hts⟩ (c_X4_errorsWith l D ad cy pm rj σ _ hi j_3 (by omega) r c1) (cwV 3 hts gX9_errorsIfMoved_X4_errorsWith rfl rfl rfl (by decide +kernel) ⟨Nat.le_of_ble_eq_true rfl, Nat.le_of_ble_eq_true rfl⟩) (sp_preVm hK hP (κ := 430) (by decide) cE_proof rfl) rfl rfl hl.1 rfl (lv_room (Nat.le_of_ble_eq_true rfl)) dX9_errorsIfMoved_20 ⟨Nat.le_of_ble_eq_true rfl, Nat.le_of_ble_eq_true rfl⟩) hS (fun q h1 h2 => sp_Alt h1 h2) (sp_Ale hS.1) (fun H locs hP hle hfr hS => ?_)
        refine W.eq (g2 := F0 m 23 ls [.int (f_errsW σ j_3 r c1)]) rfl ?_
        exact vx_ret (W.iret (v := f_errsW σ j_3 r c1) hx hb hr (fun T9 hT9 _ => ⟨show ((f_xPrint σ id).or (f_xCell r c1) : XO) = none from (by first | (simp [Option.or, eIOO, eIAE, eUOE, eNSE, eARE, eISE, hthr_x_1, q_2, hthr_x_4]; done) | (simp only [hthr_x_1, hthr_x_4]; simp [f_xPrint, f_xNo, f_xCell, Option.or, atO, eIOO, eIAE, eUOE, eNSE, eARE, eISE, hthr_x_1, q_2, hthr_x_4]; done)), congrArg (fun z9 => Outcome.returned (some (Value.int z9))) (show (f_errsW σ j_3 r c1 : Int32) = atO (f_findPrint σ id) 0 (fun k => f_errsW σ k r c1) from (by first | rfl | (simp [atO, b2i, hthr_x_1, q_2, hthr_x_4]; done))), by rw [hT9]; exact hP, hS.F hT9⟩) hS.2.2 dX9_errorsIfMoved_23)

theorem wi_X9_canMove_X9 : ∀ w ∈ wsX90, w ∈ wsX9_canMove := by decide +kernel
set_option maxHeartbeats 4000000 in
set_option maxRecDepth 100000 in
theorem c_X9_canMove (l : Launch) (D : va_G) (ad : Nat → Nat) (cy : Nat → ClassId) (pm : Nat → Nat) (rj : Option Nat) (σ : Nat → Nat → Int32) (xq : Nat → Nat) (hst : l.stackTraces = false) (sz : Nat) (hi : sp_inj ad 459) (id : Int32) (r : Int32) (c1 : Int32) : vx_Met l yX9_canMove wsX9_canMove ({ frames := 7, cells := 3, slots := 15, locals := 112 } : Room) (sp_Pmx xq ad 459 D (tyG cy) sz [.ref (ad (429)), .int (id), .int (r), .int (c1)] (cW ad cy pm rj σ)) (sp_QT ((f_xPrint σ id).or (f_xCell r c1)) D (some (.int (b2i (atO (f_findPrint σ id) false (fun k => (f_objMove σ k r c1).isNone))))) (cW ad cy (pm) (rj) (σ)) (sp_A ad 459 sz)) (sp_XT ((f_xPrint σ id).or (f_xCell r c1)) (sp_B D ad cy (pm) (σ) sz rj) (sp_A ad 459 sz)) 3 15 (sp_A ad 459 sz) := by
  refine vx_ofW (cc := cX9_canMove) (maxL := 5) (ret := (some .boolean)) (by decide) rfl ?_
  intro p e s m args below meth c s₁ B hml ht hv
  obtain ⟨rfl, hsz, hP, hK, hE⟩ := hv
  have hx := B.exec
  have hb := B.bytes
  have hr := B.returns
  have hts := atoms_spec (ws := wsX9_canMove) B.pre
  have hown : s.vm.findClass RX9 = some m.cls := findClass_of_methodNamed B.named
  have hlocks := B.notSynchronized
  subst hsz
  have hlt0 : ∀ k, k < 459 → ad k < s.heap.size := fun k hk => (sp_P_at hP hk).lt
  have hS : va_S (sp_A ad 459 s.heap.size) s.heap s.heap [] := va_S.rf
  have hAk : ∀ k, k < 459 → (sp_A ad 459 s.heap.size) (ad k) := fun k hk => Or.inl ⟨k, hk, rfl⟩
  skip
  have hl := lv_entry ([.ref (ad (429)), .int (id), .int (r), .int (c1)]) (n := 5) (Nat.le_of_ble_eq_true rfl)
  refine W.eq (lg_entry_eq _ ([.ref (ad (429)), .int (id), .int (r), .int (c1)]) _) ?_
  generalize (lg_sl ([.ref (ad (429)), .int (id), .int (r), .int (c1)]) ++ List.replicate (5 - (lg_sl ([.ref (ad (429)), .int (id), .int (r), .int (c1)])).length) Slot.unset).toArray = ls at hl ⊢
  have hl : lv_has ls 5 [(0, .ref (ad (429))), (1, .int (id)), (2, .int (r)), (3, .int (c1))] := hl
  refine lv_aload_n hx hb dX9_canMove_0 rfl (lv_at hl 0 rfl) ?_
  refine lv_iload_n hx hb dX9_canMove_1 rfl (lv_at hl 1 rfl) ?_
  have hS0_x_1 := hS.1
  refine sp_callx (vx_runV (As := [.int (id)]) (rest := []) ⟨hx, hb, hml, hown, hts⟩ (c_X9_requirePrint l D ad cy pm rj σ xq hst _ hi id) (cwV 1 hts gX9_canMove_X9_requirePrint rfl rfl rfl (by decide +kernel) ⟨Nat.le_of_ble_eq_true rfl, Nat.le_of_ble_eq_true rfl⟩) (sp_preVmx hK hP (hE.go hS) (κ := 429) (by decide) cE_sp rfl) rfl rfl hl.1 rfl (lv_room (Nat.le_of_ble_eq_true rfl)) dX9_canMove_2 ⟨Nat.le_of_ble_eq_true rfl, Nat.le_of_ble_eq_true rfl⟩) hS (fun q h1 h2 => sp_Alt h1 h2) (sp_Ale hS.1) (fun E_x_1 r_x_1 ce_x_1 q9_x_1 H locs hthr_x_1 hB_x_1 hle hfr hS hce_x_1 hcv_x_1 hcl_x_1 => ?_) (fun hthr_x_1 H locs hP hle hfr hS => ?_)
  · skip
    obtain ⟨rj9, hPx, hN⟩ := hB_x_1
    exact vx_out (fun x hx => (ht x hx).elim) hlocks hce_x_1 hcv_x_1 hcl_x_1 (fun T9 hT9 _ => ⟨r_x_1, show ((f_xPrint σ id).or (f_xCell r c1) : XO) = some (E_x_1, r_x_1) from (by first | (simp [Option.or, eIOO, eIAE, eUOE, eNSE, eARE, eISE, hthr_x_1]; done) | (simp only [hthr_x_1]; simp [f_xPrint, f_xNo, f_xCell, Option.or, atO, eIOO, eIAE, eUOE, eNSE, eARE, eISE, hthr_x_1]; done)), by rw [hT9]; exact ⟨rj9, hPx, hN.mono hS0_x_1⟩, hS.F hT9⟩) hS.2.2 (by omega) (by omega)
  · skip
    rcases opt_em (f_findPrint σ id) with q_2 | ⟨j_3, q_2⟩
    · exact absurd hthr_x_1 (by simp [f_xPrint, f_xNo, q_2])
    · have hj_3 := f_findPrint_lt q_2
      refine W.eq (g2 := F0 m 5 ls [.ref (ad (9 + j_3))]) (by rw [q_2]; rfl) ?_
      refine lv_astore (lv' := [(4, .ref (ad (9 + j_3))), (0, .ref (ad (429))), (1, .int (id)), (2, .int (r)), (3, .int (c1))]) hx hb dX9_canMove_5 hl (by decide) rfl (fun ls hl => ?_)
      refine lv_iload_n hx hb dX9_canMove_7 rfl (lv_at hl 3 rfl) ?_
      refine lv_iload_n hx hb dX9_canMove_8 rfl (lv_at hl 4 rfl) ?_
      have hS0_x_4 := hS.1
      refine sp_callx (vx_runS (As := [.int (r), .int (c1)]) (rest := []) ⟨hx, hb, hml, hown, hts⟩ (c_X9_requireCell l D ad cy pm rj σ xq hst _ hi r c1) (va_cwS 2 hts gX9_canMove_X9_requireCell rfl rfl rfl (by decide +kernel) ⟨Nat.le_of_ble_eq_true rfl, Nat.le_of_ble_eq_true rfl⟩) (sp_preSmx hK hP (hE.go hS)) rfl rfl hl.1 rfl (lv_room (Nat.le_of_ble_eq_true rfl)) dX9_canMove_9 ⟨Nat.le_of_ble_eq_true rfl, Nat.le_of_ble_eq_true rfl⟩) hS (fun q h1 h2 => sp_Alt h1 h2) (sp_Ale hS.1) (fun E_x_4 r_x_4 ce_x_4 q9_x_4 H locs hthr_x_4 hB_x_4 hle hfr hS hce_x_4 hcv_x_4 hcl_x_4 => ?_) (fun hthr_x_4 H locs hP hle hfr hS => ?_)
      · skip
        obtain ⟨rj9, hPx, hN⟩ := hB_x_4
        exact vx_out (fun x hx => (ht x hx).elim) hlocks hce_x_4 hcv_x_4 hcl_x_4 (fun T9 hT9 _ => ⟨r_x_4, show ((f_xPrint σ id).or (f_xCell r c1) : XO) = some (E_x_4, r_x_4) from (by first | (simp [Option.or, eIOO, eIAE, eUOE, eNSE, eARE, eISE, hthr_x_1, q_2, hthr_x_4]; done) | (simp only [hthr_x_1, hthr_x_4]; simp [f_xPrint, f_xNo, f_xCell, Option.or, atO, eIOO, eIAE, eUOE, eNSE, eARE, eISE, hthr_x_1, q_2, hthr_x_4]; done)), by rw [hT9]; exact ⟨rj9, hPx, hN.mono hS0_x_4⟩, hS.F hT9⟩) hS.2.2 (by omega) (by omega)
      · skip
        refine W.eq (g2 := F0 m 12 ls []) rfl ?_
        refine lv_aload_n hx hb dX9_canMove_12 rfl (lv_at hl 1 rfl) ?_
        refine sp_get hx hb hts wi_X9_canMove_X9 hown hK hP (κ := 429) (by decide) cE_sp rfl 0 (by decide) (hts _ (List.mem_of_getElem? (i := 1) rfl)) (fun _ h => h) rfl dX9_canMove_13 ?_
        refine lv_aload hx hb dX9_canMove_16 (lv_at hl 0 rfl) ?_
        refine lv_iload_n hx hb dX9_canMove_18 rfl (lv_at hl 3 rfl) ?_
        refine lv_iload_n hx hb dX9_canMove_19 rfl (lv_at hl 4 rfl) ?_
        have hge0_q_5 := hS.1
        refine sp_callR (va_runV (As := [.ref (ad (9 + j_3)), .int (r), .int (c1)]) (rest := []) ⟨hx, hb, hml, hown, hts⟩ (c_X0_objectionToMove l D ad cy pm rj σ _ j_3 (by omega) r c1) (cwV 3 hts gX9_canMove_X0_objectionToMove rfl rfl rfl (by decide +kernel) ⟨Nat.le_of_ble_eq_true rfl, Nat.le_of_ble_eq_true rfl⟩) (sp_preVm hK hP (κ := 0) (by omega) (cE_beach (by omega) (by omega)) rfl) rfl rfl hl.1 rfl (lv_room (Nat.le_of_ble_eq_true rfl)) dX9_canMove_20 ⟨Nat.le_of_ble_eq_true rfl, Nat.le_of_ble_eq_true rfl⟩) hS (fun z h => Or.inr (Nat.le_trans hS.1 h)) (fun v_6 H locs hle_q_5 hk_q_5 hS => ?_) (fun x1_q_5 x2_q_5 q_5 v_6 hge_q_5 H locs hle_q_5 hk_q_5 hS hat_q_5 => ?_)
        · have hP := sp_P_ext hP hk_q_5
          refine lv_ifnonnullN hx hb dX9_canMove_23 ?_
          refine lv_iconst (v := 1) hx hb dX9_canMove_26 (by decide) ?_
          refine lv_goto (tgt := 31) hx hb dX9_canMove_27 (by decide) ?_
          exact vx_ret (W.zret (v := 1) hx hb hr (by decide) (fun T9 hT9 _ => ⟨show ((f_xPrint σ id).or (f_xCell r c1) : XO) = none from (by first | (simp [Option.or, eIOO, eIAE, eUOE, eNSE, eARE, eISE, hthr_x_1, q_2, hthr_x_4, v_6]; done) | (simp only [hthr_x_1, hthr_x_4]; simp [f_xPrint, f_xNo, f_xCell, Option.or, atO, eIOO, eIAE, eUOE, eNSE, eARE, eISE, hthr_x_1, q_2, hthr_x_4, v_6]; done)), congrArg (fun z9 => Outcome.returned (some (Value.int z9))) (show (1 : Int32) = b2i (atO (f_findPrint σ id) false (fun k => (f_objMove σ k r c1).isNone)) from (by first | rfl | (simp [atO, b2i, hthr_x_1, q_2, hthr_x_4, v_6]; done))), by rw [hT9]; exact hP, hS.F hT9⟩) hS.2.2 dX9_canMove_31)
        · have hP := sp_P_ext hP hk_q_5
          refine lv_ifnonnull (tgt := 30) hx hb dX9_canMove_23 (by decide) ?_
          refine lv_iconst (v := 0) hx hb dX9_canMove_30 (by decide) ?_
          exact vx_ret (W.zret (v := 0) hx hb hr (by decide) (fun T9 hT9 _ => ⟨show ((f_xPrint σ id).or (f_xCell r c1) : XO) = none from (by first | (simp [Option.or, eIOO, eIAE, eUOE, eNSE, eARE, eISE, hthr_x_1, q_2, hthr_x_4, v_6]; done) | (simp only [hthr_x_1, hthr_x_4]; simp [f_xPrint, f_xNo, f_xCell, Option.or, atO, eIOO, eIAE, eUOE, eNSE, eARE, eISE, hthr_x_1, q_2, hthr_x_4, v_6]; done)), congrArg (fun z9 => Outcome.returned (some (Value.int z9))) (show (0 : Int32) = b2i (atO (f_findPrint σ id) false (fun k => (f_objMove σ k r c1).isNone)) from (by first | rfl | (simp [atO, b2i, hthr_x_1, q_2, hthr_x_4, v_6]; done))), by rw [hT9]; exact hP, hS.F hT9⟩) hS.2.2 dX9_canMove_31)

theorem wi_X9_suggestCell_X9 : ∀ w ∈ wsX90, w ∈ wsX9_suggestCell := by decide +kernel
set_option maxHeartbeats 4000000 in
set_option maxRecDepth 100000 in
theorem c_X9_suggestCell (l : Launch) (D : va_G) (ad : Nat → Nat) (cy : Nat → ClassId) (pm : Nat → Nat) (rj : Option Nat) (σ : Nat → Nat → Int32) (xq : Nat → Nat) (hst : l.stackTraces = false) (sz : Nat) (hi : sp_inj ad 459) (id : Int32) : vx_Met l yX9_suggestCell wsX9_suggestCell ({ frames := 7, cells := 26, slots := 81, locals := 149 } : Room) (sp_Pmx xq ad 459 D (tyG cy) sz [.ref (ad (429)), .int (id)] (cW ad cy pm rj σ)) (sp_QT (f_xPrint σ id) D (some (.int (atO (f_findPrint σ id) 0 (fun k => f_best σ k)))) (cW ad cy (pm) (rj) (σ)) (sp_A ad 459 sz)) (sp_XT (f_xPrint σ id) (sp_B D ad cy (pm) (σ) sz rj) (sp_A ad 459 sz)) 26 81 (sp_A ad 459 sz) := by
  refine vx_ofW (cc := cX9_suggestCell) (maxL := 2) (ret := (some .int)) (by decide) rfl ?_
  intro p e s m args below meth c s₁ B hml ht hv
  obtain ⟨rfl, hsz, hP, hK, hE⟩ := hv
  have hx := B.exec
  have hb := B.bytes
  have hr := B.returns
  have hts := atoms_spec (ws := wsX9_suggestCell) B.pre
  have hown : s.vm.findClass RX9 = some m.cls := findClass_of_methodNamed B.named
  have hlocks := B.notSynchronized
  subst hsz
  have hlt0 : ∀ k, k < 459 → ad k < s.heap.size := fun k hk => (sp_P_at hP hk).lt
  have hS : va_S (sp_A ad 459 s.heap.size) s.heap s.heap [] := va_S.rf
  have hAk : ∀ k, k < 459 → (sp_A ad 459 s.heap.size) (ad k) := fun k hk => Or.inl ⟨k, hk, rfl⟩
  skip
  have hl := lv_entry ([.ref (ad (429)), .int (id)]) (n := 2) (Nat.le_of_ble_eq_true rfl)
  refine W.eq (lg_entry_eq _ ([.ref (ad (429)), .int (id)]) _) ?_
  generalize (lg_sl ([.ref (ad (429)), .int (id)]) ++ List.replicate (2 - (lg_sl ([.ref (ad (429)), .int (id)])).length) Slot.unset).toArray = ls at hl ⊢
  have hl : lv_has ls 2 [(0, .ref (ad (429))), (1, .int (id))] := hl
  refine lv_aload_n hx hb dX9_suggestCell_0 rfl (lv_at hl 0 rfl) ?_
  refine sp_get hx hb hts wi_X9_suggestCell_X9 hown hK hP (κ := 429) (by decide) cE_sp rfl 1 (by decide) (hts _ (List.mem_of_getElem? (i := 1) rfl)) (fun _ h => h) rfl dX9_suggestCell_1 ?_
  refine lv_aload_n hx hb dX9_suggestCell_4 rfl (lv_at hl 0 rfl) ?_
  refine lv_iload_n hx hb dX9_suggestCell_5 rfl (lv_at hl 1 rfl) ?_
  have hS0_x_1 := hS.1
  refine sp_callx (vx_runV (As := [.int (id)]) (rest := [.ref (ad (430))]) ⟨hx, hb, hml, hown, hts⟩ (c_X9_requirePrint l D ad cy pm rj σ xq hst _ hi id) (cwV 1 hts gX9_suggestCell_X9_requirePrint rfl rfl rfl (by decide +kernel) ⟨Nat.le_of_ble_eq_true rfl, Nat.le_of_ble_eq_true rfl⟩) (sp_preVmx hK hP (hE.go hS) (κ := 429) (by decide) cE_sp rfl) rfl rfl hl.1 rfl (lv_room (Nat.le_of_ble_eq_true rfl)) dX9_suggestCell_6 ⟨Nat.le_of_ble_eq_true rfl, Nat.le_of_ble_eq_true rfl⟩) hS (fun q h1 h2 => sp_Alt h1 h2) (sp_Ale hS.1) (fun E_x_1 r_x_1 ce_x_1 q9_x_1 H locs hthr_x_1 hB_x_1 hle hfr hS hce_x_1 hcv_x_1 hcl_x_1 => ?_) (fun hthr_x_1 H locs hP hle hfr hS => ?_)
  · skip
    obtain ⟨rj9, hPx, hN⟩ := hB_x_1
    exact vx_out (fun x hx => (ht x hx).elim) hlocks hce_x_1 hcv_x_1 hcl_x_1 (fun T9 hT9 _ => ⟨r_x_1, show (f_xPrint σ id : XO) = some (E_x_1, r_x_1) from (by first | (simp [Option.or, atO, eIOO, eIAE, eUOE, eNSE, eARE, eISE, hthr_x_1]; done) | (simp only [hthr_x_1]; simp [f_xPrint, f_xNo, f_xFound, atO, Option.or, atO, eIOO, eIAE, eUOE, eNSE, eARE, eISE, hthr_x_1]; done)), by rw [hT9]; exact ⟨rj9, hPx, hN.mono hS0_x_1⟩, hS.F hT9⟩) hS.2.2 (by omega) (by omega)
  · skip
    rcases opt_em (f_findPrint σ id) with q_2 | ⟨j_3, q_2⟩
    · exact absurd hthr_x_1 (by simp [f_xPrint, f_xNo, q_2])
    · have hj_3 := f_findPrint_lt q_2
      refine W.eq (g2 := F0 m 9 ls [.ref (ad (9 + j_3)), .ref (ad (430))]) (by rw [q_2]; rfl) ?_
      refine sp_callm (va_runV (As := [.ref (ad (9 + j_3))]) (rest := []) ⟨hx, hb, hml, hown, hts⟩ (c_X4_bestCellFor l D ad cy pm rj σ xq _ hi j_3 (by omega)) (cwV 1 hts gX9_suggestCell_X4_bestCellFor rfl rfl rfl (by decide +kernel) ⟨Nat.le_of_ble_eq_true rfl, Nat.le_of_ble_eq_true rfl⟩) (sp_preVmx hK hP (hE.go hS) (κ := 430) (by decide) cE_proof rfl) rfl rfl hl.1 rfl (lv_room (Nat.le_of_ble_eq_true rfl)) dX9_suggestCell_9 ⟨Nat.le_of_ble_eq_true rfl, Nat.le_of_ble_eq_true rfl⟩) hS (fun q h1 h2 => sp_Alt h1 h2) (sp_Ale hS.1) (fun H locs hP hle hfr hS => ?_)
      refine W.eq (g2 := F0 m 12 ls [.int (f_best σ j_3)]) rfl ?_
      exact vx_ret (W.iret (v := f_best σ j_3) hx hb hr (fun T9 hT9 _ => ⟨show (f_xPrint σ id : XO) = none from (by first | (simp [Option.or, atO, eIOO, eIAE, eUOE, eNSE, eARE, eISE, hthr_x_1, q_2]; done) | (simp only [hthr_x_1]; simp [f_xPrint, f_xNo, f_xFound, atO, Option.or, atO, eIOO, eIAE, eUOE, eNSE, eARE, eISE, hthr_x_1, q_2]; done)), congrArg (fun z9 => Outcome.returned (some (Value.int z9))) (show (f_best σ j_3 : Int32) = atO (f_findPrint σ id) 0 (fun k => f_best σ k) from (by first | rfl | (simp [atO, b2i, hthr_x_1, q_2]; done))), by rw [hT9]; exact hP, hS.F hT9⟩) hS.2.2 dX9_suggestCell_12)

theorem wi_X9_trackByErrors_X9 : ∀ w ∈ wsX90, w ∈ wsX9_trackByErrors := by decide +kernel
theorem wi_X9_trackByErrors_X0 : ∀ w ∈ wsX00, w ∈ wsX9_trackByErrors := by decide +kernel
theorem wi_X9_trackByErrors_X8 : ∀ w ∈ wsX80, w ∈ wsX9_trackByErrors := by decide +kernel
set_option maxHeartbeats 4000000 in
set_option maxRecDepth 100000 in
theorem c_X9_trackByErrors (l : Launch) (D : va_G) (ad : Nat → Nat) (cy : Nat → ClassId) (pm : Nat → Nat) (rj : Option Nat) (σ : Nat → Nat → Int32) (xq : Nat → Nat) (hst : l.stackTraces = false) (sz : Nat) (hi : sp_inj ad 459) (q : Int32) : vx_Met l yX9_trackByErrors wsX9_trackByErrors ({ frames := 6, cells := 1, slots := 6, locals := 125 } : Room) (sp_Pmx xq ad 459 D (tyG cy) sz [.ref (ad (429)), .int (q)] (cW ad cy pm rj σ)) (sp_QT (f_xFound (fstI (P_tbe σ q) 6)) D (some (.int (atO (fstI (P_tbe σ q) 6) 0 (fun k => σ (3 + k) 1)))) (cW ad cy (pm) (rj) (σ)) (sp_A ad 459 sz)) (sp_XT (f_xFound (fstI (P_tbe σ q) 6)) (sp_B D ad cy (pm) (σ) sz rj) (sp_A ad 459 sz)) 1 6 (sp_A ad 459 sz) := by
  refine vx_ofW (cc := cX9_trackByErrors) (maxL := 6) (ret := (some .int)) (by decide) rfl ?_
  intro p e s m args below meth c s₁ B hml ht hv
  obtain ⟨rfl, hsz, hP, hK, hE⟩ := hv
  have hx := B.exec
  have hb := B.bytes
  have hr := B.returns
  have hts := atoms_spec (ws := wsX9_trackByErrors) B.pre
  have hown : s.vm.findClass RX9 = some m.cls := findClass_of_methodNamed B.named
  have hlocks := B.notSynchronized
  subst hsz
  have hlt0 : ∀ k, k < 459 → ad k < s.heap.size := fun k hk => (sp_P_at hP hk).lt
  have hS : va_S (sp_A ad 459 s.heap.size) s.heap s.heap [] := va_S.rf
  have hAk : ∀ k, k < 459 → (sp_A ad 459 s.heap.size) (ad k) := fun k hk => Or.inl ⟨k, hk, rfl⟩
  skip
  have hl := lv_entry ([.ref (ad (429)), .int (q)]) (n := 6) (Nat.le_of_ble_eq_true rfl)
  refine W.eq (lg_entry_eq _ ([.ref (ad (429)), .int (q)]) _) ?_
  generalize (lg_sl ([.ref (ad (429)), .int (q)]) ++ List.replicate (6 - (lg_sl ([.ref (ad (429)), .int (q)])).length) Slot.unset).toArray = ls at hl ⊢
  have hl : lv_has ls 6 [(0, .ref (ad (429))), (1, .int (q))] := hl
  refine lv_aload_n hx hb dX9_trackByErrors_0 rfl (lv_at hl 0 rfl) ?_
  refine sp_get hx hb hts wi_X9_trackByErrors_X9 hown hK hP (κ := 429) (by decide) cE_sp rfl 0 (by decide) (hts _ (List.mem_of_getElem? (i := 3) rfl)) (fun _ h => h) rfl dX9_trackByErrors_1 ?_
  refine sp_get hx hb hts wi_X9_trackByErrors_X0 hown hK hP (κ := 0) (by omega) (cE_beach (by omega) (by omega)) rfl 0 (by decide) (hts _ (List.mem_of_getElem? (i := 4) rfl)) (fun _ h => h) rfl dX9_trackByErrors_4 ?_
  refine lv_astore_n (lv' := [(2, .ref (ad (1))), (0, .ref (ad (429))), (1, .int (q))]) hx hb dX9_trackByErrors_7 rfl hl (by decide) rfl (fun ls hl => ?_)
  refine lv_aload_n hx hb dX9_trackByErrors_8 rfl (lv_at hl 0 rfl) ?_
  refine sp_alen hx hb hK hP (κ := 1) (by omega) 5 (cE_tracks (by omega) (by omega)) rfl (v := 6) rfl dX9_trackByErrors_9 ?_
  refine lv_istore_n (lv' := [(3, .int (6)), (2, .ref (ad (1))), (0, .ref (ad (429))), (1, .int (q))]) hx hb dX9_trackByErrors_10 rfl hl (by decide) rfl (fun ls hl => ?_)
  refine lv_iconst (v := 0) hx hb dX9_trackByErrors_11 (by decide) ?_
  refine lv_istore (lv' := [(4, .int (0)), (3, .int (6)), (2, .ref (ad (1))), (0, .ref (ad (429))), (1, .int (q))]) hx hb dX9_trackByErrors_12 hl (by decide) rfl (fun ls hl => ?_)
  have loop_14 : ∀ (n i : Nat), (i ≤ 6) → (6 - i < n) → (fstI (P_tbe σ q) i = none) → ∀ ls : Array Slot, lv_has ls 6 [(4, .int (nI i)), (3, .int (6)), (2, .ref (ad (1))), (0, .ref (ad (429))), (1, .int (q))] → W p l e (headSpec wsX9_trackByErrors ({ frames := 6, cells := 1, slots := 6, locals := 125 } : Room)).room s m ([.ref (ad (429)), .int (q)] : List Value).toArray below meth c s.heap [] 0 0 (vx_MQ below (sp_QT (f_xFound (fstI (P_tbe σ q) 6)) D (some (.int (atO (fstI (P_tbe σ q) 6) 0 (fun k => σ (3 + k) 1)))) (cW ad cy (pm) (rj) (σ)) (sp_A ad 459 s.heap.size)) (sp_XT (f_xFound (fstI (P_tbe σ q) 6)) (sp_B D ad cy (pm) (σ) s.heap.size rj) (sp_A ad 459 s.heap.size)) ([.ref (ad (429)), .int (q)] : List Value).toArray s 1 6 (sp_A ad 459 s.heap.size)) (F0 m 14 ls []) := by
    intro n
    induction n with
    | zero => intro i hle hlt hi_0 ls hl; exact absurd hlt (Nat.not_lt_zero _)
    | succ n ih =>
      intro i hle hlt hi_0 ls hl
      refine lv_iload hx hb dX9_trackByErrors_14 (lv_at hl 0 rfl) ?_
      refine lv_iload_n hx hb dX9_trackByErrors_16 rfl (lv_at hl 1 rfl) ?_
      refine lv_icmp_ge (tgt := 59) hx hb dX9_trackByErrors_17 (by decide) (fun c_1 => ?_) (fun c_1 => ?_)
      · skip
        have c_1d := Int32.not_lt.mpr c_1
        have hx_i : i = 6 := by have := (nI_leI (a := 6) (b := i) (by omega) (by omega)).mp c_1; omega
        try rw [hx_i] at hi_0
        have hf : fstI (P_tbe σ q) 6 = none := hi_0
        refine nx_throwSW (sa := xq 14) hx hb hst hown (hts _ (List.mem_of_getElem? (i := 1) rfl)) (hts _ (List.mem_of_getElem? (i := 2) rfl)) hE.t14 (vx_hat (fun w hw => hts w (List.mem_cons_of_mem _ (List.mem_append_right _ hw))) (by decide +kernel) (vx_c (va_Nw.use rfl hE.k3) (vx_c (va_Nw.use rfl hE.d0) (vx_c (va_Nw.use rfl hE.d1) (vx_c (va_Nw.use rfl hE.d2) vx_n))))) (by decide +kernel) hE.2.2.1 hE.2.2.2.1 hS (by rw [hml]; exact hl.1) dX9_trackByErrors_59 dX9_trackByErrors_62 dX9_trackByErrors_63 dX9_trackByErrors_66 dX9_trackByErrors_69 (fun x hx => (ht x hx).elim) (Nat.le_of_ble_eq_true rfl) (by decide) (Nat.le_of_ble_eq_true rfl) (Nat.le_of_ble_eq_true rfl) hlocks (fun T9 _ h1 h2 => ⟨none, show (f_xFound (fstI (P_tbe σ q) 6) : XO) = some ("java/util/NoSuchElementException", none) from (by simp [f_xFound, hf, eNSE]), ⟨rj, sp_P_ext hP h2, rfl⟩, sp_SF hS h1 h2⟩) hS.2.2 (by omega) (by omega)
      · skip
        have c_1d := Int32.not_le.mp c_1
        have hb_i : i < 6 := Nat.lt_of_not_le (fun z => c_1 (nI_le z (by omega)))
        refine lv_aload_n hx hb dX9_trackByErrors_20 rfl (lv_at hl 2 rfl) ?_
        refine lv_iload hx hb dX9_trackByErrors_21 (lv_at hl 0 rfl) ?_
        refine sp_aald hx hb hK hP (κ := 1) (by omega) 5 (cE_tracks (by omega) (by omega)) rfl i rfl (by omega) (by decide) (q := ad (3 + i)) rfl dX9_trackByErrors_23 ?_
        refine lv_astore (lv' := [(5, .ref (ad (3 + i))), (4, .int (nI i)), (3, .int (6)), (2, .ref (ad (1))), (0, .ref (ad (429))), (1, .int (q))]) hx hb dX9_trackByErrors_24 hl (by decide) rfl (fun ls hl => ?_)
        refine lv_aload hx hb dX9_trackByErrors_26 (lv_at hl 0 rfl) ?_
        refine sp_get hx hb hts wi_X9_trackByErrors_X8 hown hK hP (κ := 3 + i) (by omega) (cE_track (by omega) (by omega)) rfl 0 (by decide) (hts _ (List.mem_of_getElem? (i := 5) rfl)) (fun _ h => h) rfl dX9_trackByErrors_28 ?_
        refine lv_if_eq (tgt := 53) hx hb dX9_trackByErrors_31 (by decide) (fun c_2 => ?_) (fun c_2 => ?_)
        · rw [bz_eq0] at c_2
          refine lv_iinc (v := nI (i + 1)) (lv' := [(4, .int (nI (i + 1))), (5, .ref (ad (3 + i))), (3, .int (6)), (2, .ref (ad (1))), (0, .ref (ad (429))), (1, .int (q))]) hx hb dX9_trackByErrors_53 hl (k := 1) rfl (nI_1 _) (by decide) rfl (fun ls hl => ?_)
          refine lv_goto (tgt := 14) hx hb dX9_trackByErrors_56 (by decide) ?_
          exact ih (i + 1) (by omega) (by omega) (fstI_succ_no hi_0 (by simp [P_tbe, b2i, atO, c_2])) ls (lv_sub hl [0, 2, 3, 4, 5] rfl)
        · rw [bz_eq0] at c_2
          refine lv_aload_n hx hb dX9_trackByErrors_34 rfl (lv_at hl 4 rfl) ?_
          refine sp_get hx hb hts wi_X9_trackByErrors_X9 hown hK hP (κ := 429) (by decide) cE_sp rfl 1 (by decide) (hts _ (List.mem_of_getElem? (i := 6) rfl)) (fun _ h => h) rfl dX9_trackByErrors_35 ?_
          refine lv_aload hx hb dX9_trackByErrors_38 (lv_at hl 0 rfl) ?_
          refine sp_call (W.runV (As := [.ref (ad (3 + i))]) (rest := []) ⟨hx, hb, hml, hown, hts⟩ (c_X4_countAheadOf l D ad cy pm rj σ i (by omega)) (cwV 1 hts gX9_trackByErrors_X4_countAheadOf rfl rfl rfl (by decide +kernel) ⟨Nat.le_of_ble_eq_true rfl, Nat.le_of_ble_eq_true rfl⟩) (sp_preV hK hP (κ := 430) (by decide) cE_proof rfl) rfl rfl hl.1 rfl (lv_room (Nat.le_of_ble_eq_true rfl)) dX9_trackByErrors_40 ⟨Nat.le_of_ble_eq_true rfl, Nat.le_of_ble_eq_true rfl⟩) ?_
          refine W.eq (g2 := F0 m 43 ls [.int (f_aheadT σ i)]) rfl ?_
          refine lv_iload_n hx hb dX9_trackByErrors_43 rfl (lv_at hl 5 rfl) ?_
          refine lv_icmp_ne (tgt := 53) hx hb dX9_trackByErrors_44 (by decide) (fun c_3 => ?_) (fun c_3 => ?_)
          · skip
            refine lv_iinc (v := nI (i + 1)) (lv' := [(4, .int (nI (i + 1))), (5, .ref (ad (3 + i))), (3, .int (6)), (2, .ref (ad (1))), (0, .ref (ad (429))), (1, .int (q))]) hx hb dX9_trackByErrors_53 hl (k := 1) rfl (nI_1 _) (by decide) rfl (fun ls hl => ?_)
            refine lv_goto (tgt := 14) hx hb dX9_trackByErrors_56 (by decide) ?_
            exact ih (i + 1) (by omega) (by omega) (fstI_succ_no hi_0 (by simp [P_tbe, b2i, atO, c_2, c_3])) ls (lv_sub hl [0, 2, 3, 4, 5] rfl)
          · skip
            have hf : fstI (P_tbe σ q) 6 = some i := fstI_hit hi_0 (by simp [P_tbe, c_2, c_3]) hb_i
            refine lv_aload hx hb dX9_trackByErrors_47 (lv_at hl 0 rfl) ?_
            refine sp_get hx hb hts wi_X9_trackByErrors_X8 hown hK hP (κ := 3 + i) (by omega) (cE_track (by omega) (by omega)) rfl 1 (by decide) (hts _ (List.mem_of_getElem? (i := 7) rfl)) (fun _ h => h) rfl dX9_trackByErrors_49 ?_
            refine W.widen (k := 1) (n := 6) (by omega) (by omega) ?_
            exact vx_ret (W.iret (v := σ (3 + i) 1) hx hb hr (fun T9 hT9 _ => ⟨show (f_xFound (fstI (P_tbe σ q) 6) : XO) = none from (by simp [f_xFound, hf, eNSE]), congrArg (fun z9 => Outcome.returned (some (Value.int z9))) (show (σ (3 + i) 1 : Int32) = atO (fstI (P_tbe σ q) 6) 0 (fun k => σ (3 + k) 1) from (by simp [atO, hf])), by rw [hT9]; exact hP, hS.F hT9⟩) hS.2.2 dX9_trackByErrors_52)
  exact loop_14 (6 + 1) (0)  (by omega) (by omega) (rfl) ls (lv_sub hl [0, 1, 2, 3, 4] rfl)

theorem wi_X9_printByDoubts_X9 : ∀ w ∈ wsX90, w ∈ wsX9_printByDoubts := by decide +kernel
theorem wi_X9_printByDoubts_X0 : ∀ w ∈ wsX00, w ∈ wsX9_printByDoubts := by decide +kernel
theorem wi_X9_printByDoubts_X3 : ∀ w ∈ wsX30, w ∈ wsX9_printByDoubts := by decide +kernel
set_option maxHeartbeats 4000000 in
set_option maxRecDepth 100000 in
theorem c_X9_printByDoubts (l : Launch) (D : va_G) (ad : Nat → Nat) (cy : Nat → ClassId) (pm : Nat → Nat) (rj : Option Nat) (σ : Nat → Nat → Int32) (xq : Nat → Nat) (hst : l.stackTraces = false) (sz : Nat) (hi : sp_inj ad 459) (q : Int32) : vx_Met l yX9_printByDoubts wsX9_printByDoubts ({ frames := 6, cells := 1, slots := 6, locals := 90 } : Room) (sp_Pmx xq ad 459 D (tyG cy) sz [.ref (ad (429)), .int (q)] (cW ad cy pm rj σ)) (sp_QT (f_xFound (fstI (P_pbd σ q) 30)) D (some (.int (atO (fstI (P_pbd σ q) 30) 0 (fun k => σ (9 + k) 1)))) (cW ad cy (pm) (rj) (σ)) (sp_A ad 459 sz)) (sp_XT (f_xFound (fstI (P_pbd σ q) 30)) (sp_B D ad cy (pm) (σ) sz rj) (sp_A ad 459 sz)) 1 6 (sp_A ad 459 sz) := by
  refine vx_ofW (cc := cX9_printByDoubts) (maxL := 6) (ret := (some .int)) (by decide) rfl ?_
  intro p e s m args below meth c s₁ B hml ht hv
  obtain ⟨rfl, hsz, hP, hK, hE⟩ := hv
  have hx := B.exec
  have hb := B.bytes
  have hr := B.returns
  have hts := atoms_spec (ws := wsX9_printByDoubts) B.pre
  have hown : s.vm.findClass RX9 = some m.cls := findClass_of_methodNamed B.named
  have hlocks := B.notSynchronized
  subst hsz
  have hlt0 : ∀ k, k < 459 → ad k < s.heap.size := fun k hk => (sp_P_at hP hk).lt
  have hS : va_S (sp_A ad 459 s.heap.size) s.heap s.heap [] := va_S.rf
  have hAk : ∀ k, k < 459 → (sp_A ad 459 s.heap.size) (ad k) := fun k hk => Or.inl ⟨k, hk, rfl⟩
  skip
  have hl := lv_entry ([.ref (ad (429)), .int (q)]) (n := 6) (Nat.le_of_ble_eq_true rfl)
  refine W.eq (lg_entry_eq _ ([.ref (ad (429)), .int (q)]) _) ?_
  generalize (lg_sl ([.ref (ad (429)), .int (q)]) ++ List.replicate (6 - (lg_sl ([.ref (ad (429)), .int (q)])).length) Slot.unset).toArray = ls at hl ⊢
  have hl : lv_has ls 6 [(0, .ref (ad (429))), (1, .int (q))] := hl
  refine lv_aload_n hx hb dX9_printByDoubts_0 rfl (lv_at hl 0 rfl) ?_
  refine sp_get hx hb hts wi_X9_printByDoubts_X9 hown hK hP (κ := 429) (by decide) cE_sp rfl 0 (by decide) (hts _ (List.mem_of_getElem? (i := 3) rfl)) (fun _ h => h) rfl dX9_printByDoubts_1 ?_
  refine sp_get hx hb hts wi_X9_printByDoubts_X0 hown hK hP (κ := 0) (by omega) (cE_beach (by omega) (by omega)) rfl 1 (by decide) (hts _ (List.mem_of_getElem? (i := 4) rfl)) (fun _ h => h) rfl dX9_printByDoubts_4 ?_
  refine lv_astore_n (lv' := [(2, .ref (ad (2))), (0, .ref (ad (429))), (1, .int (q))]) hx hb dX9_printByDoubts_7 rfl hl (by decide) rfl (fun ls hl => ?_)
  refine lv_aload_n hx hb dX9_printByDoubts_8 rfl (lv_at hl 0 rfl) ?_
  refine sp_alen hx hb hK hP (κ := 2) (by omega) 4 (cE_prints (by omega) (by omega)) rfl (v := 30) rfl dX9_printByDoubts_9 ?_
  refine lv_istore_n (lv' := [(3, .int (30)), (2, .ref (ad (2))), (0, .ref (ad (429))), (1, .int (q))]) hx hb dX9_printByDoubts_10 rfl hl (by decide) rfl (fun ls hl => ?_)
  refine lv_iconst (v := 0) hx hb dX9_printByDoubts_11 (by decide) ?_
  refine lv_istore (lv' := [(4, .int (0)), (3, .int (30)), (2, .ref (ad (2))), (0, .ref (ad (429))), (1, .int (q))]) hx hb dX9_printByDoubts_12 hl (by decide) rfl (fun ls hl => ?_)
  have loop_14 : ∀ (n i : Nat), (i ≤ 30) → (30 - i < n) → (fstI (P_pbd σ q) i = none) → ∀ ls : Array Slot, lv_has ls 6 [(4, .int (nI i)), (3, .int (30)), (2, .ref (ad (2))), (0, .ref (ad (429))), (1, .int (q))] → W p l e (headSpec wsX9_printByDoubts ({ frames := 6, cells := 1, slots := 6, locals := 90 } : Room)).room s m ([.ref (ad (429)), .int (q)] : List Value).toArray below meth c s.heap [] 0 0 (vx_MQ below (sp_QT (f_xFound (fstI (P_pbd σ q) 30)) D (some (.int (atO (fstI (P_pbd σ q) 30) 0 (fun k => σ (9 + k) 1)))) (cW ad cy (pm) (rj) (σ)) (sp_A ad 459 s.heap.size)) (sp_XT (f_xFound (fstI (P_pbd σ q) 30)) (sp_B D ad cy (pm) (σ) s.heap.size rj) (sp_A ad 459 s.heap.size)) ([.ref (ad (429)), .int (q)] : List Value).toArray s 1 6 (sp_A ad 459 s.heap.size)) (F0 m 14 ls []) := by
    intro n
    induction n with
    | zero => intro i hle hlt hi_0 ls hl; exact absurd hlt (Nat.not_lt_zero _)
    | succ n ih =>
      intro i hle hlt hi_0 ls hl
      refine lv_iload hx hb dX9_printByDoubts_14 (lv_at hl 0 rfl) ?_
      refine lv_iload_n hx hb dX9_printByDoubts_16 rfl (lv_at hl 1 rfl) ?_
      refine lv_icmp_ge (tgt := 59) hx hb dX9_printByDoubts_17 (by decide) (fun c_1 => ?_) (fun c_1 => ?_)
      · skip
        have c_1d := Int32.not_lt.mpr c_1
        have hx_i : i = 30 := by have := (nI_leI (a := 30) (b := i) (by omega) (by omega)).mp c_1; omega
        try rw [hx_i] at hi_0
        have hf : fstI (P_pbd σ q) 30 = none := hi_0
        refine nx_throwSW (sa := xq 14) hx hb hst hown (hts _ (List.mem_of_getElem? (i := 1) rfl)) (hts _ (List.mem_of_getElem? (i := 2) rfl)) hE.t14 (vx_hat (fun w hw => hts w (List.mem_cons_of_mem _ (List.mem_append_right _ hw))) (by decide +kernel) (vx_c (va_Nw.use rfl hE.k3) (vx_c (va_Nw.use rfl hE.d0) (vx_c (va_Nw.use rfl hE.d1) (vx_c (va_Nw.use rfl hE.d2) vx_n))))) (by decide +kernel) hE.2.2.1 hE.2.2.2.1 hS (by rw [hml]; exact hl.1) dX9_printByDoubts_59 dX9_printByDoubts_62 dX9_printByDoubts_63 dX9_printByDoubts_66 dX9_printByDoubts_69 (fun x hx => (ht x hx).elim) (Nat.le_of_ble_eq_true rfl) (by decide) (Nat.le_of_ble_eq_true rfl) (Nat.le_of_ble_eq_true rfl) hlocks (fun T9 _ h1 h2 => ⟨none, show (f_xFound (fstI (P_pbd σ q) 30) : XO) = some ("java/util/NoSuchElementException", none) from (by simp [f_xFound, hf, eNSE]), ⟨rj, sp_P_ext hP h2, rfl⟩, sp_SF hS h1 h2⟩) hS.2.2 (by omega) (by omega)
      · skip
        have c_1d := Int32.not_le.mp c_1
        have hb_i : i < 30 := Nat.lt_of_not_le (fun z => c_1 (nI_le z (by omega)))
        refine lv_aload_n hx hb dX9_printByDoubts_20 rfl (lv_at hl 2 rfl) ?_
        refine lv_iload hx hb dX9_printByDoubts_21 (lv_at hl 0 rfl) ?_
        refine sp_aald hx hb hK hP (κ := 2) (by omega) 4 (cE_prints (by omega) (by omega)) rfl i rfl (by omega) (by decide) (q := ad (9 + i)) rfl dX9_printByDoubts_23 ?_
        refine lv_astore (lv' := [(5, .ref (ad (9 + i))), (4, .int (nI i)), (3, .int (30)), (2, .ref (ad (2))), (0, .ref (ad (429))), (1, .int (q))]) hx hb dX9_printByDoubts_24 hl (by decide) rfl (fun ls hl => ?_)
        refine lv_aload hx hb dX9_printByDoubts_26 (lv_at hl 0 rfl) ?_
        refine sp_get hx hb hts wi_X9_printByDoubts_X3 hown hK hP (κ := 9 + i) (by omega) (cE_print (by omega) (by omega)) rfl 0 (by decide) (hts _ (List.mem_of_getElem? (i := 5) rfl)) (fun _ h => h) rfl dX9_printByDoubts_28 ?_
        refine lv_if_eq (tgt := 53) hx hb dX9_printByDoubts_31 (by decide) (fun c_2 => ?_) (fun c_2 => ?_)
        · rw [bz_eq0] at c_2
          refine lv_iinc (v := nI (i + 1)) (lv' := [(4, .int (nI (i + 1))), (5, .ref (ad (9 + i))), (3, .int (30)), (2, .ref (ad (2))), (0, .ref (ad (429))), (1, .int (q))]) hx hb dX9_printByDoubts_53 hl (k := 1) rfl (nI_1 _) (by decide) rfl (fun ls hl => ?_)
          refine lv_goto (tgt := 14) hx hb dX9_printByDoubts_56 (by decide) ?_
          exact ih (i + 1) (by omega) (by omega) (fstI_succ_no hi_0 (by simp [P_pbd, b2i, atO, c_2])) ls (lv_sub hl [0, 2, 3, 4, 5] rfl)
        · rw [bz_eq0] at c_2
          refine lv_aload_n hx hb dX9_printByDoubts_34 rfl (lv_at hl 4 rfl) ?_
          refine sp_get hx hb hts wi_X9_printByDoubts_X9 hown hK hP (κ := 429) (by decide) cE_sp rfl 0 (by decide) (hts _ (List.mem_of_getElem? (i := 3) rfl)) (fun _ h => h) rfl dX9_printByDoubts_35 ?_
          refine lv_aload hx hb dX9_printByDoubts_38 (lv_at hl 0 rfl) ?_
          refine sp_call (W.runV (As := [.ref (ad (9 + i))]) (rest := []) ⟨hx, hb, hml, hown, hts⟩ (c_X0_countAheadOf l D ad cy pm rj σ i (by omega)) (cwV 1 hts gX9_printByDoubts_X0_countAheadOf rfl rfl rfl (by decide +kernel) ⟨Nat.le_of_ble_eq_true rfl, Nat.le_of_ble_eq_true rfl⟩) (sp_preV hK hP (κ := 0) (by omega) (cE_beach (by omega) (by omega)) rfl) rfl rfl hl.1 rfl (lv_room (Nat.le_of_ble_eq_true rfl)) dX9_printByDoubts_40 ⟨Nat.le_of_ble_eq_true rfl, Nat.le_of_ble_eq_true rfl⟩) ?_
          refine W.eq (g2 := F0 m 43 ls [.int (f_aheadP σ i)]) rfl ?_
          refine lv_iload_n hx hb dX9_printByDoubts_43 rfl (lv_at hl 5 rfl) ?_
          refine lv_icmp_ne (tgt := 53) hx hb dX9_printByDoubts_44 (by decide) (fun c_3 => ?_) (fun c_3 => ?_)
          · skip
            refine lv_iinc (v := nI (i + 1)) (lv' := [(4, .int (nI (i + 1))), (5, .ref (ad (9 + i))), (3, .int (30)), (2, .ref (ad (2))), (0, .ref (ad (429))), (1, .int (q))]) hx hb dX9_printByDoubts_53 hl (k := 1) rfl (nI_1 _) (by decide) rfl (fun ls hl => ?_)
            refine lv_goto (tgt := 14) hx hb dX9_printByDoubts_56 (by decide) ?_
            exact ih (i + 1) (by omega) (by omega) (fstI_succ_no hi_0 (by simp [P_pbd, b2i, atO, c_2, c_3])) ls (lv_sub hl [0, 2, 3, 4, 5] rfl)
          · skip
            have hf : fstI (P_pbd σ q) 30 = some i := fstI_hit hi_0 (by simp [P_pbd, c_2, c_3]) hb_i
            refine lv_aload hx hb dX9_printByDoubts_47 (lv_at hl 0 rfl) ?_
            refine sp_get hx hb hts wi_X9_printByDoubts_X3 hown hK hP (κ := 9 + i) (by omega) (cE_print (by omega) (by omega)) rfl 1 (by decide) (hts _ (List.mem_of_getElem? (i := 6) rfl)) (fun _ h => h) rfl dX9_printByDoubts_49 ?_
            refine W.widen (k := 1) (n := 6) (by omega) (by omega) ?_
            exact vx_ret (W.iret (v := σ (9 + i) 1) hx hb hr (fun T9 hT9 _ => ⟨show (f_xFound (fstI (P_pbd σ q) 30) : XO) = none from (by simp [f_xFound, hf, eNSE]), congrArg (fun z9 => Outcome.returned (some (Value.int z9))) (show (σ (9 + i) 1 : Int32) = atO (fstI (P_pbd σ q) 30) 0 (fun k => σ (9 + k) 1) from (by simp [atO, hf])), by rw [hT9]; exact hP, hS.F hT9⟩) hS.2.2 dX9_printByDoubts_52)
  exact loop_14 (30 + 1) (0)  (by omega) (by omega) (rfl) ls (lv_sub hl [0, 1, 2, 3, 4] rfl)

theorem wi_X9_printIn_X9 : ∀ w ∈ wsX90, w ∈ wsX9_printIn := by decide +kernel
theorem wi_X9_printIn_X3 : ∀ w ∈ wsX30, w ∈ wsX9_printIn := by decide +kernel
set_option maxHeartbeats 4000000 in
set_option maxRecDepth 100000 in
theorem c_X9_printIn (l : Launch) (D : va_G) (ad : Nat → Nat) (cy : Nat → ClassId) (pm : Nat → Nat) (rj : Option Nat) (σ : Nat → Nat → Int32) (xq : Nat → Nat) (hst : l.stackTraces = false) (sz : Nat) (hi : sp_inj ad 459) (r : Int32) (c1 : Int32) : vx_Met l yX9_printIn wsX9_printIn ({ frames := 7, cells := 2, slots := 12, locals := 111 } : Room) (sp_Pmx xq ad 459 D (tyG cy) sz [.ref (ad (429)), .int (r), .int (c1)] (cW ad cy pm rj σ)) (sp_QT ((f_xCell r c1).or (f_xFound (f_inCell σ r c1))) D (some (.int (atO (f_inCell σ r c1) 0 (fun k => σ (9 + k) 1)))) (cW ad cy (pm) (rj) (σ)) (sp_A ad 459 sz)) (sp_XT ((f_xCell r c1).or (f_xFound (f_inCell σ r c1))) (sp_B D ad cy (pm) (σ) sz rj) (sp_A ad 459 sz)) 2 12 (sp_A ad 459 sz) := by
  refine vx_ofW (cc := cX9_printIn) (maxL := 3) (ret := (some .int)) (by decide) rfl ?_
  intro p e s m args below meth c s₁ B hml ht hv
  obtain ⟨rfl, hsz, hP, hK, hE⟩ := hv
  have hx := B.exec
  have hb := B.bytes
  have hr := B.returns
  have hts := atoms_spec (ws := wsX9_printIn) B.pre
  have hown : s.vm.findClass RX9 = some m.cls := findClass_of_methodNamed B.named
  have hlocks := B.notSynchronized
  subst hsz
  have hlt0 : ∀ k, k < 459 → ad k < s.heap.size := fun k hk => (sp_P_at hP hk).lt
  have hS : va_S (sp_A ad 459 s.heap.size) s.heap s.heap [] := va_S.rf
  have hAk : ∀ k, k < 459 → (sp_A ad 459 s.heap.size) (ad k) := fun k hk => Or.inl ⟨k, hk, rfl⟩
  skip
  have hl := lv_entry ([.ref (ad (429)), .int (r), .int (c1)]) (n := 3) (Nat.le_of_ble_eq_true rfl)
  refine W.eq (lg_entry_eq _ ([.ref (ad (429)), .int (r), .int (c1)]) _) ?_
  generalize (lg_sl ([.ref (ad (429)), .int (r), .int (c1)]) ++ List.replicate (3 - (lg_sl ([.ref (ad (429)), .int (r), .int (c1)])).length) Slot.unset).toArray = ls at hl ⊢
  have hl : lv_has ls 3 [(0, .ref (ad (429))), (1, .int (r)), (2, .int (c1))] := hl
  refine lv_iload_n hx hb dX9_printIn_0 rfl (lv_at hl 1 rfl) ?_
  refine lv_iload_n hx hb dX9_printIn_1 rfl (lv_at hl 2 rfl) ?_
  have hS0_x_1 := hS.1
  refine sp_callx (vx_runS (As := [.int (r), .int (c1)]) (rest := []) ⟨hx, hb, hml, hown, hts⟩ (c_X9_requireCell l D ad cy pm rj σ xq hst _ hi r c1) (va_cwS 2 hts gX9_printIn_X9_requireCell rfl rfl rfl (by decide +kernel) ⟨Nat.le_of_ble_eq_true rfl, Nat.le_of_ble_eq_true rfl⟩) (sp_preSmx hK hP (hE.go hS)) rfl rfl hl.1 rfl (lv_room (Nat.le_of_ble_eq_true rfl)) dX9_printIn_2 ⟨Nat.le_of_ble_eq_true rfl, Nat.le_of_ble_eq_true rfl⟩) hS (fun q h1 h2 => sp_Alt h1 h2) (sp_Ale hS.1) (fun E_x_1 r_x_1 ce_x_1 q9_x_1 H locs hthr_x_1 hB_x_1 hle hfr hS hce_x_1 hcv_x_1 hcl_x_1 => ?_) (fun hthr_x_1 H locs hP hle hfr hS => ?_)
  · skip
    obtain ⟨rj9, hPx, hN⟩ := hB_x_1
    exact vx_out (fun x hx => (ht x hx).elim) hlocks hce_x_1 hcv_x_1 hcl_x_1 (fun T9 hT9 _ => ⟨r_x_1, show ((f_xCell r c1).or (f_xFound (f_inCell σ r c1)) : XO) = some (E_x_1, r_x_1) from (by first | (simp [Option.or, eIOO, eIAE, eUOE, eNSE, eARE, eISE, hthr_x_1]; done) | (simp only [hthr_x_1]; simp [f_xCell, f_xFound, Option.or, atO, eIOO, eIAE, eUOE, eNSE, eARE, eISE, hthr_x_1]; done)), by rw [hT9]; exact ⟨rj9, hPx, hN.mono hS0_x_1⟩, hS.F hT9⟩) hS.2.2 (by omega) (by omega)
  · skip
    refine W.eq (g2 := F0 m 5 ls []) rfl ?_
    refine lv_aload_n hx hb dX9_printIn_5 rfl (lv_at hl 0 rfl) ?_
    refine sp_get hx hb hts wi_X9_printIn_X9 hown hK hP (κ := 429) (by decide) cE_sp rfl 0 (by decide) (hts _ (List.mem_of_getElem? (i := 1) rfl)) (fun _ h => h) rfl dX9_printIn_6 ?_
    refine lv_iload_n hx hb dX9_printIn_9 rfl (lv_at hl 1 rfl) ?_
    refine lv_iload_n hx hb dX9_printIn_10 rfl (lv_at hl 2 rfl) ?_
    refine sp_call (W.runV (As := [.int (r), .int (c1)]) (rest := []) ⟨hx, hb, hml, hown, hts⟩ (c_X0_inCell l D ad cy pm rj σ r c1) (cwV 2 hts gX9_printIn_X0_inCell rfl rfl rfl (by decide +kernel) ⟨Nat.le_of_ble_eq_true rfl, Nat.le_of_ble_eq_true rfl⟩) (sp_preV hK hP (κ := 0) (by omega) (cE_beach (by omega) (by omega)) rfl) rfl rfl hl.1 rfl (lv_room (Nat.le_of_ble_eq_true rfl)) dX9_printIn_11 ⟨Nat.le_of_ble_eq_true rfl, Nat.le_of_ble_eq_true rfl⟩) ?_
    rcases opt_em (f_inCell σ r c1) with q_2 | ⟨j_3, q_2⟩
    · refine W.eq (g2 := F0 m 14 ls [.null]) (by rw [q_2]; rfl) ?_
      have hS0_x_4 := hS.1
      refine sp_callx (vx_runS (As := [.null]) (rest := []) ⟨hx, hb, hml, hown, hts⟩ (c_X9_requireFound l D ad cy pm rj σ xq hst _ hi (none : Option Nat) (by intro j hj; first | (cases hj; done) | (cases hj; omega))) (va_cwS 1 hts gX9_printIn_X9_requireFound rfl rfl rfl (by decide +kernel) ⟨Nat.le_of_ble_eq_true rfl, Nat.le_of_ble_eq_true rfl⟩) (sp_preSmx hK hP (hE.go hS)) rfl rfl hl.1 rfl (lv_room (Nat.le_of_ble_eq_true rfl)) dX9_printIn_14 ⟨Nat.le_of_ble_eq_true rfl, Nat.le_of_ble_eq_true rfl⟩) hS (fun q h1 h2 => sp_Alt h1 h2) (sp_Ale hS.1) (fun E_x_4 r_x_4 ce_x_4 q9_x_4 H locs hthr_x_4 hB_x_4 hle hfr hS hce_x_4 hcv_x_4 hcl_x_4 => ?_) (fun hthr_x_4 H locs hP hle hfr hS => ?_)
      · skip
        obtain ⟨rj9, hPx, hN⟩ := hB_x_4
        exact vx_out (fun x hx => (ht x hx).elim) hlocks hce_x_4 hcv_x_4 hcl_x_4 (fun T9 hT9 _ => ⟨r_x_4, show ((f_xCell r c1).or (f_xFound (f_inCell σ r c1)) : XO) = some (E_x_4, r_x_4) from (by first | (simp [Option.or, eIOO, eIAE, eUOE, eNSE, eARE, eISE, hthr_x_1, q_2, hthr_x_4]; done) | (simp only [hthr_x_1, hthr_x_4]; simp [f_xCell, f_xFound, Option.or, atO, eIOO, eIAE, eUOE, eNSE, eARE, eISE, hthr_x_1, q_2, hthr_x_4]; done)), by rw [hT9]; exact ⟨rj9, hPx, hN.mono hS0_x_4⟩, hS.F hT9⟩) hS.2.2 (by omega) (by omega)
      · skip
        exact absurd hthr_x_4 (by simp [f_xFound])
    · have hj_3 := f_inCell_lt q_2
      refine W.eq (g2 := F0 m 14 ls [.ref (ad (9 + j_3))]) (by rw [q_2]; rfl) ?_
      have hS0_x_7 := hS.1
      refine sp_callx (vx_runS (As := [.ref (ad (9 + j_3))]) (rest := []) ⟨hx, hb, hml, hown, hts⟩ (c_X9_requireFound l D ad cy pm rj σ xq hst _ hi (some (j_3)) (by intro j hj; first | (cases hj; done) | (cases hj; omega))) (va_cwS 1 hts gX9_printIn_X9_requireFound rfl rfl rfl (by decide +kernel) ⟨Nat.le_of_ble_eq_true rfl, Nat.le_of_ble_eq_true rfl⟩) (sp_preSmx hK hP (hE.go hS)) rfl rfl hl.1 rfl (lv_room (Nat.le_of_ble_eq_true rfl)) dX9_printIn_14 ⟨Nat.le_of_ble_eq_true rfl, Nat.le_of_ble_eq_true rfl⟩) hS (fun q h1 h2 => sp_Alt h1 h2) (sp_Ale hS.1) (fun E_x_7 r_x_7 ce_x_7 q9_x_7 H locs hthr_x_7 hB_x_7 hle hfr hS hce_x_7 hcv_x_7 hcl_x_7 => ?_) (fun hthr_x_7 H locs hP hle hfr hS => ?_)
      · skip
        obtain ⟨rj9, hPx, hN⟩ := hB_x_7
        exact vx_out (fun x hx => (ht x hx).elim) hlocks hce_x_7 hcv_x_7 hcl_x_7 (fun T9 hT9 _ => ⟨r_x_7, show ((f_xCell r c1).or (f_xFound (f_inCell σ r c1)) : XO) = some (E_x_7, r_x_7) from (by first | (simp [Option.or, eIOO, eIAE, eUOE, eNSE, eARE, eISE, hthr_x_1, q_2, hthr_x_7]; done) | (simp only [hthr_x_1, hthr_x_7]; simp [f_xCell, f_xFound, Option.or, atO, eIOO, eIAE, eUOE, eNSE, eARE, eISE, hthr_x_1, q_2, hthr_x_7]; done)), by rw [hT9]; exact ⟨rj9, hPx, hN.mono hS0_x_7⟩, hS.F hT9⟩) hS.2.2 (by omega) (by omega)
      · skip
        refine W.eq (g2 := F0 m 17 ls [.ref (ad (9 + j_3))]) rfl ?_
        refine sp_get hx hb hts wi_X9_printIn_X3 hown hK hP (κ := 9 + j_3) (by omega) (cE_print (by omega) (by omega)) rfl 1 (by decide) (hts _ (List.mem_of_getElem? (i := 2) rfl)) (fun _ h => h) rfl dX9_printIn_17 ?_
        exact vx_ret (W.iret (v := σ (9 + j_3) 1) hx hb hr (fun T9 hT9 _ => ⟨show ((f_xCell r c1).or (f_xFound (f_inCell σ r c1)) : XO) = none from (by first | (simp [Option.or, eIOO, eIAE, eUOE, eNSE, eARE, eISE, hthr_x_1, q_2, hthr_x_7]; done) | (simp only [hthr_x_1, hthr_x_7]; simp [f_xCell, f_xFound, Option.or, atO, eIOO, eIAE, eUOE, eNSE, eARE, eISE, hthr_x_1, q_2, hthr_x_7]; done)), congrArg (fun z9 => Outcome.returned (some (Value.int z9))) (show (σ (9 + j_3) 1 : Int32) = atO (f_inCell σ r c1) 0 (fun k => σ (9 + k) 1) from (by first | rfl | (simp [atO, b2i, hthr_x_1, q_2, hthr_x_7]; done))), by rw [hT9]; exact hP, hS.F hT9⟩) hS.2.2 dX9_printIn_20)

theorem wi_X9_printsInRow_X9 : ∀ w ∈ wsX90, w ∈ wsX9_printsInRow := by decide +kernel
set_option maxHeartbeats 4000000 in
set_option maxRecDepth 100000 in
theorem c_X9_printsInRow (l : Launch) (D : va_G) (ad : Nat → Nat) (cy : Nat → ClassId) (pm : Nat → Nat) (rj : Option Nat) (σ : Nat → Nat → Int32) (xq : Nat → Nat) (hst : l.stackTraces = false) (sz : Nat) (hi : sp_inj ad 459) (r : Int32) : vx_Met l yX9_printsInRow wsX9_printsInRow ({ frames := 7, cells := 1, slots := 6, locals := 110 } : Room) (sp_Pmx xq ad 459 D (tyG cy) sz [.ref (ad (429)), .int (r)] (cW ad cy pm rj σ)) (sp_QT (f_xRow r) D (some (.int (f_countPrintsInRows σ r (r + 1)))) (cW ad cy (pm) (rj) (σ)) (sp_A ad 459 sz)) (sp_XT (f_xRow r) (sp_B D ad cy (pm) (σ) sz rj) (sp_A ad 459 sz)) 1 6 (sp_A ad 459 sz) := by
  refine vx_ofW (cc := cX9_printsInRow) (maxL := 2) (ret := (some .int)) (by decide) rfl ?_
  intro p e s m args below meth c s₁ B hml ht hv
  obtain ⟨rfl, hsz, hP, hK, hE⟩ := hv
  have hx := B.exec
  have hb := B.bytes
  have hr := B.returns
  have hts := atoms_spec (ws := wsX9_printsInRow) B.pre
  have hown : s.vm.findClass RX9 = some m.cls := findClass_of_methodNamed B.named
  have hlocks := B.notSynchronized
  subst hsz
  have hlt0 : ∀ k, k < 459 → ad k < s.heap.size := fun k hk => (sp_P_at hP hk).lt
  have hS : va_S (sp_A ad 459 s.heap.size) s.heap s.heap [] := va_S.rf
  have hAk : ∀ k, k < 459 → (sp_A ad 459 s.heap.size) (ad k) := fun k hk => Or.inl ⟨k, hk, rfl⟩
  skip
  have hl := lv_entry ([.ref (ad (429)), .int (r)]) (n := 2) (Nat.le_of_ble_eq_true rfl)
  refine W.eq (lg_entry_eq _ ([.ref (ad (429)), .int (r)]) _) ?_
  generalize (lg_sl ([.ref (ad (429)), .int (r)]) ++ List.replicate (2 - (lg_sl ([.ref (ad (429)), .int (r)])).length) Slot.unset).toArray = ls at hl ⊢
  have hl : lv_has ls 2 [(0, .ref (ad (429))), (1, .int (r))] := hl
  refine lv_iload_n hx hb dX9_printsInRow_0 rfl (lv_at hl 1 rfl) ?_
  have hS0_x_1 := hS.1
  refine sp_callx (vx_runS (As := [.int (r)]) (rest := []) ⟨hx, hb, hml, hown, hts⟩ (c_X9_requireRow l D ad cy pm rj σ xq hst _ hi r) (va_cwS 1 hts gX9_printsInRow_X9_requireRow rfl rfl rfl (by decide +kernel) ⟨Nat.le_of_ble_eq_true rfl, Nat.le_of_ble_eq_true rfl⟩) (sp_preSmx hK hP (hE.go hS)) rfl rfl hl.1 rfl (lv_room (Nat.le_of_ble_eq_true rfl)) dX9_printsInRow_1 ⟨Nat.le_of_ble_eq_true rfl, Nat.le_of_ble_eq_true rfl⟩) hS (fun q h1 h2 => sp_Alt h1 h2) (sp_Ale hS.1) (fun E_x_1 r_x_1 ce_x_1 q9_x_1 H locs hthr_x_1 hB_x_1 hle hfr hS hce_x_1 hcv_x_1 hcl_x_1 => ?_) (fun hthr_x_1 H locs hP hle hfr hS => ?_)
  · skip
    obtain ⟨rj9, hPx, hN⟩ := hB_x_1
    exact vx_out (fun x hx => (ht x hx).elim) hlocks hce_x_1 hcv_x_1 hcl_x_1 (fun T9 hT9 _ => ⟨r_x_1, show (f_xRow r : XO) = some (E_x_1, r_x_1) from (by first | (simp [Option.or, eIOO, eIAE, eUOE, eNSE, eARE, eISE, hthr_x_1]; done) | (simp only [hthr_x_1]; simp [f_xRow, eIOO, eIAE, eUOE, eNSE, eARE, eISE, hthr_x_1]; done)), by rw [hT9]; exact ⟨rj9, hPx, hN.mono hS0_x_1⟩, hS.F hT9⟩) hS.2.2 (by omega) (by omega)
  · skip
    refine W.eq (g2 := F0 m 4 ls []) rfl ?_
    refine lv_aload_n hx hb dX9_printsInRow_4 rfl (lv_at hl 0 rfl) ?_
    refine sp_get hx hb hts wi_X9_printsInRow_X9 hown hK hP (κ := 429) (by decide) cE_sp rfl 0 (by decide) (hts _ (List.mem_of_getElem? (i := 1) rfl)) (fun _ h => h) rfl dX9_printsInRow_5 ?_
    refine lv_iload_n hx hb dX9_printsInRow_8 rfl (lv_at hl 1 rfl) ?_
    refine lv_iload_n hx hb dX9_printsInRow_9 rfl (lv_at hl 1 rfl) ?_
    refine lv_iconst (v := 1) hx hb dX9_printsInRow_10 (by decide) ?_
    refine lv_iadd hx hb dX9_printsInRow_11 ?_
    refine sp_call (W.runV (As := [.int (r), .int (r + 1)]) (rest := []) ⟨hx, hb, hml, hown, hts⟩ (c_X0_countPrintsInRows l D ad cy pm rj σ r (r + 1)) (cwV 2 hts gX9_printsInRow_X0_countPrintsInRows rfl rfl rfl (by decide +kernel) ⟨Nat.le_of_ble_eq_true rfl, Nat.le_of_ble_eq_true rfl⟩) (sp_preV hK hP (κ := 0) (by omega) (cE_beach (by omega) (by omega)) rfl) rfl rfl hl.1 rfl (lv_room (Nat.le_of_ble_eq_true rfl)) dX9_printsInRow_12 ⟨Nat.le_of_ble_eq_true rfl, Nat.le_of_ble_eq_true rfl⟩) ?_
    refine W.eq (g2 := F0 m 15 ls [.int (f_countPrintsInRows σ r (r + 1))]) rfl ?_
    exact vx_ret (W.iret (v := f_countPrintsInRows σ r (r + 1)) hx hb hr (fun T9 hT9 _ => ⟨show (f_xRow r : XO) = none from (by first | (simp [Option.or, eIOO, eIAE, eUOE, eNSE, eARE, eISE, hthr_x_1]; done) | (simp only [hthr_x_1]; simp [f_xRow, eIOO, eIAE, eUOE, eNSE, eARE, eISE, hthr_x_1]; done)), congrArg (fun z9 => Outcome.returned (some (Value.int z9))) (show (f_countPrintsInRows σ r (r + 1) : Int32) = f_countPrintsInRows σ r (r + 1) from (by first | rfl | (simp [b2i, hthr_x_1]; done))), by rw [hT9]; exact hP, hS.F hT9⟩) hS.2.2 dX9_printsInRow_15)

theorem wi_X9_tideLevel_X9 : ∀ w ∈ wsX90, w ∈ wsX9_tideLevel := by decide +kernel
theorem wi_X9_tideLevel_X0 : ∀ w ∈ wsX00, w ∈ wsX9_tideLevel := by decide +kernel
set_option maxHeartbeats 4000000 in
set_option maxRecDepth 100000 in
theorem c_X9_tideLevel (l : Launch) (D : va_G) (ad : Nat → Nat) (cy : Nat → ClassId) (pm : Nat → Nat) (rj : Option Nat) (σ : Nat → Nat → Int32) : Met l yX9_tideLevel wsX9_tideLevel ({ frames := 0, cells := 0, slots := 0, locals := 0 } : Room) (sp_Pc D (tyG cy) [.ref (ad (429))] (cW ad cy pm rj σ)) (sp_S (some (.int (σ 0 2)))) 0 0 (fun _ => False) := by
  refine Met.ofW (cc := cX9_tideLevel) (maxL := 1) (ret := (some .int)) (by decide) rfl ?_
  intro p e s m args below meth c s₁ B hml hv
  obtain ⟨rfl, hP, hK⟩ := hv
  have hx := B.exec
  have hb := B.bytes
  have hr := B.returns
  have hts := atoms_spec (ws := wsX9_tideLevel) B.pre
  have hown : s.vm.findClass RX9 = some m.cls := findClass_of_methodNamed B.named
  have hlocks := B.notSynchronized
  have hl := lv_entry ([.ref (ad (429))]) (n := 1) (Nat.le_of_ble_eq_true rfl)
  refine W.eq (lg_entry_eq _ ([.ref (ad (429))]) _) ?_
  generalize (lg_sl ([.ref (ad (429))]) ++ List.replicate (1 - (lg_sl ([.ref (ad (429))])).length) Slot.unset).toArray = ls at hl ⊢
  have hl : lv_has ls 1 [(0, .ref (ad (429)))] := hl
  refine lv_aload_n hx hb dX9_tideLevel_0 rfl (lv_at hl 0 rfl) ?_
  refine sp_get hx hb hts wi_X9_tideLevel_X9 hown hK hP (κ := 429) (by decide) cE_sp rfl 0 (by decide) (hts _ (List.mem_of_getElem? (i := 1) rfl)) (fun _ h => h) rfl dX9_tideLevel_1 ?_
  refine sp_get hx hb hts wi_X9_tideLevel_X0 hown hK hP (κ := 0) (by omega) (cE_beach (by omega) (by omega)) rfl 2 (by decide) (hts _ (List.mem_of_getElem? (i := 2) rfl)) (fun _ h => h) rfl dX9_tideLevel_4 ?_
  exact W.iret (v := σ 0 2) hx hb hr (fun T9 hT9 _ => ⟨congrArg (fun z9 => Outcome.returned (some (Value.int z9))) (show (σ 0 2 : Int32) = σ 0 2 from (by first | rfl | (simp [b2i]; done))), hT9⟩) (fun _ h => by cases h) dX9_tideLevel_7

theorem wi_X9_erasedBy_X9 : ∀ w ∈ wsX90, w ∈ wsX9_erasedBy := by decide +kernel
set_option maxHeartbeats 4000000 in
set_option maxRecDepth 100000 in
theorem c_X9_erasedBy (l : Launch) (D : va_G) (ad : Nat → Nat) (cy : Nat → ClassId) (pm : Nat → Nat) (rj : Option Nat) (σ : Nat → Nat → Int32) (xq : Nat → Nat) (hst : l.stackTraces = false) (sz : Nat) (hi : sp_inj ad 459) (v : Int32) : vx_Met l yX9_erasedBy wsX9_erasedBy ({ frames := 7, cells := 1, slots := 6, locals := 110 } : Room) (sp_Pmx xq ad 459 D (tyG cy) sz [.ref (ad (429)), .int (v)] (cW ad cy pm rj σ)) (sp_QT (f_xLevel v) D (some (.int (f_countPrintsInRows σ 0 v))) (cW ad cy (pm) (rj) (σ)) (sp_A ad 459 sz)) (sp_XT (f_xLevel v) (sp_B D ad cy (pm) (σ) sz rj) (sp_A ad 459 sz)) 1 6 (sp_A ad 459 sz) := by
  refine vx_ofW (cc := cX9_erasedBy) (maxL := 2) (ret := (some .int)) (by decide) rfl ?_
  intro p e s m args below meth c s₁ B hml ht hv
  obtain ⟨rfl, hsz, hP, hK, hE⟩ := hv
  have hx := B.exec
  have hb := B.bytes
  have hr := B.returns
  have hts := atoms_spec (ws := wsX9_erasedBy) B.pre
  have hown : s.vm.findClass RX9 = some m.cls := findClass_of_methodNamed B.named
  have hlocks := B.notSynchronized
  subst hsz
  have hlt0 : ∀ k, k < 459 → ad k < s.heap.size := fun k hk => (sp_P_at hP hk).lt
  have hS : va_S (sp_A ad 459 s.heap.size) s.heap s.heap [] := va_S.rf
  have hAk : ∀ k, k < 459 → (sp_A ad 459 s.heap.size) (ad k) := fun k hk => Or.inl ⟨k, hk, rfl⟩
  skip
  have hl := lv_entry ([.ref (ad (429)), .int (v)]) (n := 2) (Nat.le_of_ble_eq_true rfl)
  refine W.eq (lg_entry_eq _ ([.ref (ad (429)), .int (v)]) _) ?_
  generalize (lg_sl ([.ref (ad (429)), .int (v)]) ++ List.replicate (2 - (lg_sl ([.ref (ad (429)), .int (v)])).length) Slot.unset).toArray = ls at hl ⊢
  have hl : lv_has ls 2 [(0, .ref (ad (429))), (1, .int (v))] := hl
  refine lv_iload_n hx hb dX9_erasedBy_0 rfl (lv_at hl 1 rfl) ?_
  have hS0_x_1 := hS.1
  refine sp_callx (vx_runS (As := [.int (v)]) (rest := []) ⟨hx, hb, hml, hown, hts⟩ (c_X9_requireLevel l D ad cy pm rj σ xq hst _ hi v) (va_cwS 1 hts gX9_erasedBy_X9_requireLevel rfl rfl rfl (by decide +kernel) ⟨Nat.le_of_ble_eq_true rfl, Nat.le_of_ble_eq_true rfl⟩) (sp_preSmx hK hP (hE.go hS)) rfl rfl hl.1 rfl (lv_room (Nat.le_of_ble_eq_true rfl)) dX9_erasedBy_1 ⟨Nat.le_of_ble_eq_true rfl, Nat.le_of_ble_eq_true rfl⟩) hS (fun q h1 h2 => sp_Alt h1 h2) (sp_Ale hS.1) (fun E_x_1 r_x_1 ce_x_1 q9_x_1 H locs hthr_x_1 hB_x_1 hle hfr hS hce_x_1 hcv_x_1 hcl_x_1 => ?_) (fun hthr_x_1 H locs hP hle hfr hS => ?_)
  · skip
    obtain ⟨rj9, hPx, hN⟩ := hB_x_1
    exact vx_out (fun x hx => (ht x hx).elim) hlocks hce_x_1 hcv_x_1 hcl_x_1 (fun T9 hT9 _ => ⟨r_x_1, show (f_xLevel v : XO) = some (E_x_1, r_x_1) from (by first | (simp [Option.or, eIOO, eIAE, eUOE, eNSE, eARE, eISE, hthr_x_1]; done) | (simp only [hthr_x_1]; simp [f_xLevel, eIOO, eIAE, eUOE, eNSE, eARE, eISE, hthr_x_1]; done)), by rw [hT9]; exact ⟨rj9, hPx, hN.mono hS0_x_1⟩, hS.F hT9⟩) hS.2.2 (by omega) (by omega)
  · skip
    refine W.eq (g2 := F0 m 4 ls []) rfl ?_
    refine lv_aload_n hx hb dX9_erasedBy_4 rfl (lv_at hl 0 rfl) ?_
    refine sp_get hx hb hts wi_X9_erasedBy_X9 hown hK hP (κ := 429) (by decide) cE_sp rfl 0 (by decide) (hts _ (List.mem_of_getElem? (i := 1) rfl)) (fun _ h => h) rfl dX9_erasedBy_5 ?_
    refine lv_iconst (v := 0) hx hb dX9_erasedBy_8 (by decide) ?_
    refine lv_iload_n hx hb dX9_erasedBy_9 rfl (lv_at hl 1 rfl) ?_
    refine sp_call (W.runV (As := [.int (0), .int (v)]) (rest := []) ⟨hx, hb, hml, hown, hts⟩ (c_X0_countPrintsInRows l D ad cy pm rj σ 0 v) (cwV 2 hts gX9_erasedBy_X0_countPrintsInRows rfl rfl rfl (by decide +kernel) ⟨Nat.le_of_ble_eq_true rfl, Nat.le_of_ble_eq_true rfl⟩) (sp_preV hK hP (κ := 0) (by omega) (cE_beach (by omega) (by omega)) rfl) rfl rfl hl.1 rfl (lv_room (Nat.le_of_ble_eq_true rfl)) dX9_erasedBy_10 ⟨Nat.le_of_ble_eq_true rfl, Nat.le_of_ble_eq_true rfl⟩) ?_
    refine W.eq (g2 := F0 m 13 ls [.int (f_countPrintsInRows σ 0 v)]) rfl ?_
    exact vx_ret (W.iret (v := f_countPrintsInRows σ 0 v) hx hb hr (fun T9 hT9 _ => ⟨show (f_xLevel v : XO) = none from (by first | (simp [Option.or, eIOO, eIAE, eUOE, eNSE, eARE, eISE, hthr_x_1]; done) | (simp only [hthr_x_1]; simp [f_xLevel, eIOO, eIAE, eUOE, eNSE, eARE, eISE, hthr_x_1]; done)), congrArg (fun z9 => Outcome.returned (some (Value.int z9))) (show (f_countPrintsInRows σ 0 v : Int32) = f_countPrintsInRows σ 0 v from (by first | rfl | (simp [b2i, hthr_x_1]; done))), by rw [hT9]; exact hP, hS.F hT9⟩) hS.2.2 dX9_erasedBy_13)

theorem wi_X9_trackCount_X9 : ∀ w ∈ wsX90, w ∈ wsX9_trackCount := by decide +kernel
set_option maxHeartbeats 4000000 in
set_option maxRecDepth 100000 in
theorem c_X9_trackCount (l : Launch) (D : va_G) (ad : Nat → Nat) (cy : Nat → ClassId) (pm : Nat → Nat) (rj : Option Nat) (σ : Nat → Nat → Int32) : Met l yX9_trackCount wsX9_trackCount ({ frames := 1, cells := 0, slots := 0, locals := 25 } : Room) (sp_Pc D (tyG cy) [.ref (ad (429))] (cW ad cy pm rj σ)) (sp_S (some (.int (f_countTracks σ)))) 0 0 (fun _ => False) := by
  refine Met.ofW (cc := cX9_trackCount) (maxL := 1) (ret := (some .int)) (by decide) rfl ?_
  intro p e s m args below meth c s₁ B hml hv
  obtain ⟨rfl, hP, hK⟩ := hv
  have hx := B.exec
  have hb := B.bytes
  have hr := B.returns
  have hts := atoms_spec (ws := wsX9_trackCount) B.pre
  have hown : s.vm.findClass RX9 = some m.cls := findClass_of_methodNamed B.named
  have hlocks := B.notSynchronized
  have hl := lv_entry ([.ref (ad (429))]) (n := 1) (Nat.le_of_ble_eq_true rfl)
  refine W.eq (lg_entry_eq _ ([.ref (ad (429))]) _) ?_
  generalize (lg_sl ([.ref (ad (429))]) ++ List.replicate (1 - (lg_sl ([.ref (ad (429))])).length) Slot.unset).toArray = ls at hl ⊢
  have hl : lv_has ls 1 [(0, .ref (ad (429)))] := hl
  refine lv_aload_n hx hb dX9_trackCount_0 rfl (lv_at hl 0 rfl) ?_
  refine sp_get hx hb hts wi_X9_trackCount_X9 hown hK hP (κ := 429) (by decide) cE_sp rfl 0 (by decide) (hts _ (List.mem_of_getElem? (i := 1) rfl)) (fun _ h => h) rfl dX9_trackCount_1 ?_
  refine sp_call (W.runV (As := []) (rest := []) ⟨hx, hb, hml, hown, hts⟩ (c_X0_countTracks l D ad cy pm rj σ ) (cwV 0 hts gX9_trackCount_X0_countTracks rfl rfl rfl (by decide +kernel) ⟨Nat.le_of_ble_eq_true rfl, Nat.le_of_ble_eq_true rfl⟩) (sp_preV hK hP (κ := 0) (by omega) (cE_beach (by omega) (by omega)) rfl) rfl rfl hl.1 rfl (lv_room (Nat.le_of_ble_eq_true rfl)) dX9_trackCount_4 ⟨Nat.le_of_ble_eq_true rfl, Nat.le_of_ble_eq_true rfl⟩) ?_
  refine W.eq (g2 := F0 m 7 ls [.int (f_countTracks σ)]) rfl ?_
  exact W.iret (v := f_countTracks σ) hx hb hr (fun T9 hT9 _ => ⟨congrArg (fun z9 => Outcome.returned (some (Value.int z9))) (show (f_countTracks σ : Int32) = f_countTracks σ from (by first | rfl | (simp [b2i]; done))), hT9⟩) (fun _ h => by cases h) dX9_trackCount_7

theorem wi_X9_totalPrints_X9 : ∀ w ∈ wsX90, w ∈ wsX9_totalPrints := by decide +kernel
set_option maxHeartbeats 4000000 in
set_option maxRecDepth 100000 in
theorem c_X9_totalPrints (l : Launch) (D : va_G) (ad : Nat → Nat) (cy : Nat → ClassId) (pm : Nat → Nat) (rj : Option Nat) (σ : Nat → Nat → Int32) : Met l yX9_totalPrints wsX9_totalPrints ({ frames := 2, cells := 0, slots := 0, locals := 47 } : Room) (sp_Pc D (tyG cy) [.ref (ad (429))] (cW ad cy pm rj σ)) (sp_S (some (.int (f_countPrintsInRows σ 0 10)))) 0 0 (fun _ => False) := by
  refine Met.ofW (cc := cX9_totalPrints) (maxL := 1) (ret := (some .int)) (by decide) rfl ?_
  intro p e s m args below meth c s₁ B hml hv
  obtain ⟨rfl, hP, hK⟩ := hv
  have hx := B.exec
  have hb := B.bytes
  have hr := B.returns
  have hts := atoms_spec (ws := wsX9_totalPrints) B.pre
  have hown : s.vm.findClass RX9 = some m.cls := findClass_of_methodNamed B.named
  have hlocks := B.notSynchronized
  have hl := lv_entry ([.ref (ad (429))]) (n := 1) (Nat.le_of_ble_eq_true rfl)
  refine W.eq (lg_entry_eq _ ([.ref (ad (429))]) _) ?_
  generalize (lg_sl ([.ref (ad (429))]) ++ List.replicate (1 - (lg_sl ([.ref (ad (429))])).length) Slot.unset).toArray = ls at hl ⊢
  have hl : lv_has ls 1 [(0, .ref (ad (429)))] := hl
  refine lv_aload_n hx hb dX9_totalPrints_0 rfl (lv_at hl 0 rfl) ?_
  refine sp_get hx hb hts wi_X9_totalPrints_X9 hown hK hP (κ := 429) (by decide) cE_sp rfl 0 (by decide) (hts _ (List.mem_of_getElem? (i := 1) rfl)) (fun _ h => h) rfl dX9_totalPrints_1 ?_
  refine sp_call (W.runV (As := []) (rest := []) ⟨hx, hb, hml, hown, hts⟩ (c_X0_countAllPrints l D ad cy pm rj σ ) (cwV 0 hts gX9_totalPrints_X0_countAllPrints rfl rfl rfl (by decide +kernel) ⟨Nat.le_of_ble_eq_true rfl, Nat.le_of_ble_eq_true rfl⟩) (sp_preV hK hP (κ := 0) (by omega) (cE_beach (by omega) (by omega)) rfl) rfl rfl hl.1 rfl (lv_room (Nat.le_of_ble_eq_true rfl)) dX9_totalPrints_4 ⟨Nat.le_of_ble_eq_true rfl, Nat.le_of_ble_eq_true rfl⟩) ?_
  refine W.eq (g2 := F0 m 7 ls [.int (f_countPrintsInRows σ 0 10)]) rfl ?_
  exact W.iret (v := f_countPrintsInRows σ 0 10) hx hb hr (fun T9 hT9 _ => ⟨congrArg (fun z9 => Outcome.returned (some (Value.int z9))) (show (f_countPrintsInRows σ 0 10 : Int32) = f_countPrintsInRows σ 0 10 from (by first | rfl | (simp [b2i]; done))), hT9⟩) (fun _ h => by cases h) dX9_totalPrints_7

theorem wi_X9_isConsistent_X9 : ∀ w ∈ wsX90, w ∈ wsX9_isConsistent := by decide +kernel
set_option maxHeartbeats 4000000 in
set_option maxRecDepth 100000 in
theorem c_X9_isConsistent (l : Launch) (D : va_G) (ad : Nat → Nat) (cy : Nat → ClassId) (pm : Nat → Nat) (rj : Option Nat) (σ : Nat → Nat → Int32) (hi : sp_inj ad 459) : Met l yX9_isConsistent wsX9_isConsistent ({ frames := 6, cells := 0, slots := 0, locals := 145 } : Room) (sp_Pc D (tyG cy) [.ref (ad (429))] (cW ad cy pm rj σ)) (sp_S (some (.int (b2i (f_holds σ))))) 0 0 (fun _ => False) := by
  refine Met.ofW (cc := cX9_isConsistent) (maxL := 1) (ret := (some .boolean)) (by decide) rfl ?_
  intro p e s m args below meth c s₁ B hml hv
  obtain ⟨rfl, hP, hK⟩ := hv
  have hx := B.exec
  have hb := B.bytes
  have hr := B.returns
  have hts := atoms_spec (ws := wsX9_isConsistent) B.pre
  have hown : s.vm.findClass RX9 = some m.cls := findClass_of_methodNamed B.named
  have hlocks := B.notSynchronized
  have hl := lv_entry ([.ref (ad (429))]) (n := 1) (Nat.le_of_ble_eq_true rfl)
  refine W.eq (lg_entry_eq _ ([.ref (ad (429))]) _) ?_
  generalize (lg_sl ([.ref (ad (429))]) ++ List.replicate (1 - (lg_sl ([.ref (ad (429))])).length) Slot.unset).toArray = ls at hl ⊢
  have hl : lv_has ls 1 [(0, .ref (ad (429)))] := hl
  refine lv_aload_n hx hb dX9_isConsistent_0 rfl (lv_at hl 0 rfl) ?_
  refine sp_get hx hb hts wi_X9_isConsistent_X9 hown hK hP (κ := 429) (by decide) cE_sp rfl 1 (by decide) (hts _ (List.mem_of_getElem? (i := 1) rfl)) (fun _ h => h) rfl dX9_isConsistent_1 ?_
  refine sp_call (W.runV (As := []) (rest := []) ⟨hx, hb, hml, hown, hts⟩ (c_X4_holds l D ad cy pm rj σ hi) (cwV 0 hts gX9_isConsistent_X4_holds rfl rfl rfl (by decide +kernel) ⟨Nat.le_of_ble_eq_true rfl, Nat.le_of_ble_eq_true rfl⟩) (sp_preV hK hP (κ := 430) (by decide) cE_proof rfl) rfl rfl hl.1 rfl (lv_room (Nat.le_of_ble_eq_true rfl)) dX9_isConsistent_4 ⟨Nat.le_of_ble_eq_true rfl, Nat.le_of_ble_eq_true rfl⟩) ?_
  refine W.eq (g2 := F0 m 7 ls [.int (b2i (f_holds σ))]) rfl ?_
  exact W.zret (v := b2i (f_holds σ)) hx hb hr ((nz_of (bz_b2i _)).1) (fun T9 hT9 _ => ⟨congrArg (fun z9 => Outcome.returned (some (Value.int z9))) (show (b2i (f_holds σ) : Int32) = b2i (f_holds σ) from (by first | rfl | (simp [b2i]; done))), hT9⟩) (fun _ h => by cases h) dX9_isConsistent_7

theorem wi_X9_addTrack_X9 : ∀ w ∈ wsX90, w ∈ wsX9_addTrack := by decide +kernel
set_option maxHeartbeats 4000000 in
set_option maxRecDepth 100000 in
theorem c_X9_addTrack (l : Launch) (D : va_G) (ad : Nat → Nat) (cy : Nat → ClassId) (pm : Nat → Nat) (rj : Option Nat) (σ : Nat → Nat → Int32) (xq : Nat → Nat) (hst : l.stackTraces = false) (sz : Nat) (hi : sp_inj ad 459) (z : Int32) (hpm : ∀ j, j < 8 → 1 ≤ pm j ∧ pm j ≤ 8) : vx_Met l yX9_addTrack wsX9_addTrack ({ frames := 7, cells := 2, slots := 9, locals := 111 } : Room) (sp_Pmx xq ad 459 D (tyG cy) sz [.ref (ad (429)), .int (z)] (cW ad cy pm rj σ)) (sp_QT ((f_xIn (f_in 1 9 z)).or (f_xRej (f_objTrack σ))) D (some (.int (f_putTv (f_push σ pm 0)))) (cW ad cy (pm_push pm) (rj) (f_putT (f_push σ pm 0) z)) (sp_A ad 459 sz)) (sp_XT ((f_xIn (f_in 1 9 z)).or (f_xRej (f_objTrack σ))) (sp_B D ad cy (pm) (σ) sz rj) (sp_A ad 459 sz)) 2 9 (sp_A ad 459 sz) := by
  refine vx_ofW (cc := cX9_addTrack) (maxL := 2) (ret := (some .int)) (by decide) rfl ?_
  intro p e s m args below meth c s₁ B hml ht hv
  obtain ⟨rfl, hsz, hP, hK, hE⟩ := hv
  have hx := B.exec
  have hb := B.bytes
  have hr := B.returns
  have hts := atoms_spec (ws := wsX9_addTrack) B.pre
  have hown : s.vm.findClass RX9 = some m.cls := findClass_of_methodNamed B.named
  have hlocks := B.notSynchronized
  subst hsz
  have hlt0 : ∀ k, k < 459 → ad k < s.heap.size := fun k hk => (sp_P_at hP hk).lt
  have hS : va_S (sp_A ad 459 s.heap.size) s.heap s.heap [] := va_S.rf
  have hAk : ∀ k, k < 459 → (sp_A ad 459 s.heap.size) (ad k) := fun k hk => Or.inl ⟨k, hk, rfl⟩
  skip
  have hl := lv_entry ([.ref (ad (429)), .int (z)]) (n := 2) (Nat.le_of_ble_eq_true rfl)
  refine W.eq (lg_entry_eq _ ([.ref (ad (429)), .int (z)]) _) ?_
  generalize (lg_sl ([.ref (ad (429)), .int (z)]) ++ List.replicate (2 - (lg_sl ([.ref (ad (429)), .int (z)])).length) Slot.unset).toArray = ls at hl ⊢
  have hl : lv_has ls 2 [(0, .ref (ad (429))), (1, .int (z))] := hl
  refine lv_iload_n hx hb dX9_addTrack_0 rfl (lv_at hl 1 rfl) ?_
  refine sp_call (W.runS (As := [.int (z)]) (rest := []) ⟨hx, hb, hml, hown, hts⟩ (c_X9_isStride l D ad cy pm rj σ z) (va_cwS 1 hts gX9_addTrack_X9_isStride rfl rfl rfl (by decide +kernel) ⟨Nat.le_of_ble_eq_true rfl, Nat.le_of_ble_eq_true rfl⟩) (sp_preS hK hP) rfl rfl hl.1 rfl (lv_room (Nat.le_of_ble_eq_true rfl)) dX9_addTrack_1 ⟨Nat.le_of_ble_eq_true rfl, Nat.le_of_ble_eq_true rfl⟩) ?_
  refine W.eq (g2 := F0 m 4 ls [.int (b2i (f_in 1 9 z))]) rfl ?_
  refine lv_if_ne (tgt := 17) hx hb dX9_addTrack_4 (by decide) (fun c_1 => ?_) (fun c_1 => ?_)
  · rw [b2i_eq0] at c_1
    refine lv_aload_n hx hb dX9_addTrack_17 rfl (lv_at hl 0 rfl) ?_
    refine lv_aload_n hx hb dX9_addTrack_18 rfl (lv_at hl 0 rfl) ?_
    refine sp_get hx hb hts wi_X9_addTrack_X9 hown hK hP (κ := 429) (by decide) cE_sp rfl 0 (by decide) (hts _ (List.mem_of_getElem? (i := 3) rfl)) (fun _ h => h) rfl dX9_addTrack_19 ?_
    have hge0_q_2 := hS.1
    refine sp_callR (va_runV (As := []) (rest := [.ref (ad (429))]) ⟨hx, hb, hml, hown, hts⟩ (c_X0_objectionToTrack l D ad cy pm rj σ _ ) (cwV 0 hts gX9_addTrack_X0_objectionToTrack rfl rfl rfl (by decide +kernel) ⟨Nat.le_of_ble_eq_true rfl, Nat.le_of_ble_eq_true rfl⟩) (sp_preVm hK hP (κ := 0) (by omega) (cE_beach (by omega) (by omega)) rfl) rfl rfl hl.1 rfl (lv_room (Nat.le_of_ble_eq_true rfl)) dX9_addTrack_22 ⟨Nat.le_of_ble_eq_true rfl, Nat.le_of_ble_eq_true rfl⟩) hS (fun z h => Or.inr (Nat.le_trans hS.1 h)) (fun v_3 H locs hle_q_2 hk_q_2 hS => ?_) (fun x1_q_2 x2_q_2 q_2 v_3 hge_q_2 H locs hle_q_2 hk_q_2 hS hat_q_2 => ?_)
    · have hP := sp_P_ext hP hk_q_2
      refine sp_callm (va_runV (As := [.null]) (rest := []) ⟨hx, hb, hml, hown, hts⟩ (c_X9_rejectFor_n l D ad cy pm rj σ _ hi ) (cwV 1 hts gX9_addTrack_X9_rejectFor rfl rfl rfl (by decide +kernel) ⟨Nat.le_of_ble_eq_true rfl, Nat.le_of_ble_eq_true rfl⟩) (sp_preVm hK hP (κ := 429) (by decide) cE_sp rfl) rfl rfl hl.1 rfl (lv_room (Nat.le_of_ble_eq_true rfl)) dX9_addTrack_25 ⟨Nat.le_of_ble_eq_true rfl, Nat.le_of_ble_eq_true rfl⟩) hS (fun q h1 h2 => sp_Alt h1 h2) (sp_Ale hS.1) (fun H locs hP hle hfr hS => ?_)
      refine W.eq (g2 := F0 m 28 ls []) rfl ?_
      refine lv_aload_n hx hb dX9_addTrack_28 rfl (lv_at hl 0 rfl) ?_
      refine sp_get hx hb hts wi_X9_addTrack_X9 hown hK hP (κ := 429) (by decide) cE_sp rfl 2 (by decide) (hts _ (List.mem_of_getElem? (i := 4) rfl)) (fun _ h => h) rfl dX9_addTrack_29 ?_
      refine lv_aload_n hx hb dX9_addTrack_32 rfl (lv_at hl 0 rfl) ?_
      refine sp_get hx hb hts wi_X9_addTrack_X9 hown hK hP (κ := 429) (by decide) cE_sp rfl 0 (by decide) (hts _ (List.mem_of_getElem? (i := 3) rfl)) (fun _ h => h) rfl dX9_addTrack_33 ?_
      refine sp_callm (va_runV (As := [.ref (ad (0))]) (rest := []) ⟨hx, hb, hml, hown, hts⟩ (c_X2_push l D ad cy pm rj σ _ hi hpm 0 (by omega)) (cwV 1 hts gX9_addTrack_X2_push rfl rfl rfl (by decide +kernel) ⟨Nat.le_of_ble_eq_true rfl, Nat.le_of_ble_eq_true rfl⟩) (sp_preVm hK hP (κ := 431) (by decide) cE_hist rfl) rfl rfl hl.1 rfl (lv_room (Nat.le_of_ble_eq_true rfl)) dX9_addTrack_36 ⟨Nat.le_of_ble_eq_true rfl, Nat.le_of_ble_eq_true rfl⟩) hS (fun q h1 h2 => sp_Alt h1 h2) (sp_Ale hS.1) (fun H locs hP hle hfr hS => ?_)
      refine W.eq (g2 := F0 m 39 ls []) rfl ?_
      refine lv_aload_n hx hb dX9_addTrack_39 rfl (lv_at hl 0 rfl) ?_
      refine sp_get hx hb hts wi_X9_addTrack_X9 hown hK hP (κ := 429) (by decide) cE_sp rfl 0 (by decide) (hts _ (List.mem_of_getElem? (i := 3) rfl)) (fun _ h => h) rfl dX9_addTrack_40 ?_
      refine lv_iload_n hx hb dX9_addTrack_43 rfl (lv_at hl 1 rfl) ?_
      refine sp_callm (va_runV (As := [.int (z)]) (rest := []) ⟨hx, hb, hml, hown, hts⟩ (c_X0_putTrack l D ad cy (pm_push pm) rj (sp_st (f_copyB σ (pm 7) 0) 431 1 (imin (σ 431 1 + 1) 8)) _ hi z) (cwV 1 hts gX9_addTrack_X0_putTrack rfl rfl rfl (by decide +kernel) ⟨Nat.le_of_ble_eq_true rfl, Nat.le_of_ble_eq_true rfl⟩) (sp_preVm hK hP (κ := 0) (by omega) (cE_beach (by omega) (by omega)) rfl) rfl rfl hl.1 rfl (lv_room (Nat.le_of_ble_eq_true rfl)) dX9_addTrack_44 ⟨Nat.le_of_ble_eq_true rfl, Nat.le_of_ble_eq_true rfl⟩) hS (fun q h1 h2 => sp_Alt h1 h2) (sp_Ale hS.1) (fun H locs hP hle hfr hS => ?_)
      refine W.eq (g2 := F0 m 47 ls [.int (f_putTv (sp_st (f_copyB σ (pm 7) 0) 431 1 (imin (σ 431 1 + 1) 8)))]) rfl ?_
      refine W.widen (k := 2) (n := 9) (by omega) (by omega) ?_
      have hE9 : cW ad cy (pm_push pm) (rj) (f_putT (sp_st (f_copyB σ (pm 7) 0) 431 1 (imin (σ 431 1 + 1) 8)) z) = cW ad cy (pm_push pm) (rj) (f_putT (f_push σ pm 0) z) := by exact cW_eq rfl (by first | rfl | (simp only [atO, f_push, b2i, atO, c_1, v_3]; done) | (simp [atO, f_push, b2i, atO, c_1, v_3]; done))
      have hP : va_P D vwCl (cW ad cy (pm_push pm) (rj) (f_putT (f_push σ pm 0) z)) H := by rw [← hE9]; exact hP
      exact vx_ret (W.iret (v := f_putTv (sp_st (f_copyB σ (pm 7) 0) 431 1 (imin (σ 431 1 + 1) 8))) hx hb hr (fun T9 hT9 _ => ⟨show ((f_xIn (f_in 1 9 z)).or (f_xRej (f_objTrack σ)) : XO) = none from (by first | (simp [Option.or, eIOO, eIAE, eUOE, eNSE, eARE, eISE, c_1, v_3]; done) | (simp [f_xIn, f_xRej, Option.or, atO, eIOO, eIAE, eUOE, eNSE, eARE, eISE, c_1, v_3]; done)), congrArg (fun z9 => Outcome.returned (some (Value.int z9))) (show (f_putTv (sp_st (f_copyB σ (pm 7) 0) 431 1 (imin (σ 431 1 + 1) 8)) : Int32) = f_putTv (f_push σ pm 0) from (by first | rfl | (simp [atO, f_push, b2i, atO, c_1, v_3]; done) | (simp [atO, f_push, b2i, atO, c_1, v_3]; rw [sp_st_k _ _ _ _ _ _ (by omega)]))), by rw [hT9]; exact hP, hS.F hT9⟩) hS.2.2 dX9_addTrack_47)
    · have hP := sp_P_ext hP hk_q_2
      have hS0_x_4 := hS.1
      refine sp_callx (vx_runV (As := [.ref (q_2)]) (rest := []) ⟨hx, hb, hml, hown, hts⟩ (c_X9_rejectFor_q l D ad cy pm rj σ xq hst _ hi q_2) (cwV 1 hts gX9_addTrack_X9_rejectFor rfl rfl rfl (by decide +kernel) ⟨Nat.le_of_ble_eq_true rfl, Nat.le_of_ble_eq_true rfl⟩) (sp_preVmx hK hP (hE.go hS) (κ := 429) (by decide) cE_sp rfl) rfl rfl hl.1 rfl (lv_room (Nat.le_of_ble_eq_true rfl)) dX9_addTrack_25 ⟨Nat.le_of_ble_eq_true rfl, Nat.le_of_ble_eq_true rfl⟩) hS (fun q h1 h2 => sp_Alt h1 h2) (sp_Ale hS.1) (fun E_x_4 r_x_4 ce_x_4 q9_x_4 H locs hthr_x_4 hB_x_4 hle hfr hS hce_x_4 hcv_x_4 hcl_x_4 => ?_) (fun hthr_x_4 H locs hP hle hfr hS => ?_)
      · skip
        have h9 := hthr_x_4
        simp only [Option.some.injEq, Prod.mk.injEq] at h9
        obtain ⟨h91, h92⟩ := h9
        subst h91
        subst h92
        obtain ⟨rj9, hPx, hN⟩ := hB_x_4
        have hN9 : rj9 = some q_2 := hN
        subst hN9
        exact vx_out (fun x hx => (ht x hx).elim) hlocks hce_x_4 hcv_x_4 hcl_x_4 (fun T9 hT9 _ => ⟨some (x1_q_2, x2_q_2, none), show ((f_xIn (f_in 1 9 z)).or (f_xRej (f_objTrack σ)) : XO) = some (eUOE, some (x1_q_2, x2_q_2, none)) from (by first | (simp [Option.or, eIOO, eIAE, eUOE, eNSE, eARE, eISE, c_1, v_3]; done) | (simp [f_xIn, f_xRej, Option.or, atO, eIOO, eIAE, eUOE, eNSE, eARE, eISE, c_1, v_3]; done)), by rw [hT9]; exact ⟨some q_2, hPx, ⟨q_2, none, rfl, (Nat.le_trans hge0_q_2 hge_q_2), hat_q_2.kept (hfr q_2 hat_q_2.lt (sp_notA hlt0 (Nat.le_trans hge0_q_2 hge_q_2) hat_q_2.lt)), rfl⟩⟩, hS.F hT9⟩) hS.2.2 (by omega) (by omega)
      · cases hthr_x_4
  · rw [b2i_eq0] at c_1
    refine vx_throwS (names := ["java/lang/RuntimeException", "java/lang/Exception"]) (sa := xq 5) hx hb hst hown (by decide +kernel) (by decide +kernel) (hts _ (List.mem_of_getElem? (i := 1) rfl)) (hts _ (List.mem_of_getElem? (i := 2) rfl)) hE.t5 (vx_hat (fun w hw => hts w (List.mem_cons_of_mem _ (List.mem_append_left _ (List.mem_append_right _ hw)))) (by decide +kernel) (vx_c (va_Nw.use rfl hE.k1) (vx_c (va_Nw.use rfl hE.d0) (vx_c (va_Nw.use rfl hE.d1) (vx_c (va_Nw.use rfl hE.d2) vx_n))))) (by decide +kernel) hE.2.2.1 hE.2.2.2.1 hS (by rw [hml]; exact hl.1) dX9_addTrack_7 dX9_addTrack_10 dX9_addTrack_11 dX9_addTrack_13 dX9_addTrack_16 (fun x hx => (ht x hx).elim) (Nat.le_of_ble_eq_true rfl) (by decide) (Nat.le_of_ble_eq_true rfl) (Nat.le_of_ble_eq_true rfl) hlocks (fun T9 _ h1 h2 => ⟨none, show ((f_xIn (f_in 1 9 z)).or (f_xRej (f_objTrack σ)) : XO) = some ("java/lang/IllegalArgumentException", none) from (by first | (simp [Option.or, eIOO, eIAE, eUOE, eNSE, eARE, eISE, c_1]; done) | (simp [f_xIn, f_xRej, Option.or, atO, eIOO, eIAE, eUOE, eNSE, eARE, eISE, c_1]; done)), ⟨rj, sp_P_ext hP h2, rfl⟩, sp_SF hS h1 h2⟩) hS.2.2 (by omega) (by omega)

theorem wi_X9_removeTrack_X9 : ∀ w ∈ wsX90, w ∈ wsX9_removeTrack := by decide +kernel
set_option maxHeartbeats 4000000 in
set_option maxRecDepth 100000 in
theorem c_X9_removeTrack (l : Launch) (D : va_G) (ad : Nat → Nat) (cy : Nat → ClassId) (pm : Nat → Nat) (rj : Option Nat) (σ : Nat → Nat → Int32) (xq : Nat → Nat) (hst : l.stackTraces = false) (sz : Nat) (hi : sp_inj ad 459) (id : Int32) (hpm : ∀ j, j < 8 → 1 ≤ pm j ∧ pm j ≤ 8) : vx_Met l yX9_removeTrack wsX9_removeTrack ({ frames := 7, cells := 1, slots := 6, locals := 112 } : Room) (sp_Pmx xq ad 459 D (tyG cy) sz [.ref (ad (429)), .int (id)] (cW ad cy pm rj σ)) (sp_QT (f_xTrack σ id) D (some (.int (atO (f_findTrack σ id) 0 (fun k => f_dropTv (f_push σ pm 0) k)))) (cW ad cy (pm_push pm) (rj) (atO (f_findTrack σ id) (f_push σ pm 0) (fun k => sp_st (f_dropP (f_push σ pm 0) ((f_push σ pm 0) (3 + k) 1) 30) (3 + k) 0 0))) (sp_A ad 459 sz)) (sp_XT (f_xTrack σ id) (sp_B D ad cy (pm) (σ) sz rj) (sp_A ad 459 sz)) 1 6 (sp_A ad 459 sz) := by
  refine vx_ofW (cc := cX9_removeTrack) (maxL := 3) (ret := (some .int)) (by decide) rfl ?_
  intro p e s m args below meth c s₁ B hml ht hv
  obtain ⟨rfl, hsz, hP, hK, hE⟩ := hv
  have hx := B.exec
  have hb := B.bytes
  have hr := B.returns
  have hts := atoms_spec (ws := wsX9_removeTrack) B.pre
  have hown : s.vm.findClass RX9 = some m.cls := findClass_of_methodNamed B.named
  have hlocks := B.notSynchronized
  subst hsz
  have hlt0 : ∀ k, k < 459 → ad k < s.heap.size := fun k hk => (sp_P_at hP hk).lt
  have hS : va_S (sp_A ad 459 s.heap.size) s.heap s.heap [] := va_S.rf
  have hAk : ∀ k, k < 459 → (sp_A ad 459 s.heap.size) (ad k) := fun k hk => Or.inl ⟨k, hk, rfl⟩
  skip
  have hl := lv_entry ([.ref (ad (429)), .int (id)]) (n := 3) (Nat.le_of_ble_eq_true rfl)
  refine W.eq (lg_entry_eq _ ([.ref (ad (429)), .int (id)]) _) ?_
  generalize (lg_sl ([.ref (ad (429)), .int (id)]) ++ List.replicate (3 - (lg_sl ([.ref (ad (429)), .int (id)])).length) Slot.unset).toArray = ls at hl ⊢
  have hl : lv_has ls 3 [(0, .ref (ad (429))), (1, .int (id))] := hl
  refine lv_aload_n hx hb dX9_removeTrack_0 rfl (lv_at hl 0 rfl) ?_
  refine lv_iload_n hx hb dX9_removeTrack_1 rfl (lv_at hl 1 rfl) ?_
  have hS0_x_1 := hS.1
  refine sp_callx (vx_runV (As := [.int (id)]) (rest := []) ⟨hx, hb, hml, hown, hts⟩ (c_X9_requireTrack l D ad cy pm rj σ xq hst _ hi id) (cwV 1 hts gX9_removeTrack_X9_requireTrack rfl rfl rfl (by decide +kernel) ⟨Nat.le_of_ble_eq_true rfl, Nat.le_of_ble_eq_true rfl⟩) (sp_preVmx hK hP (hE.go hS) (κ := 429) (by decide) cE_sp rfl) rfl rfl hl.1 rfl (lv_room (Nat.le_of_ble_eq_true rfl)) dX9_removeTrack_2 ⟨Nat.le_of_ble_eq_true rfl, Nat.le_of_ble_eq_true rfl⟩) hS (fun q h1 h2 => sp_Alt h1 h2) (sp_Ale hS.1) (fun E_x_1 r_x_1 ce_x_1 q9_x_1 H locs hthr_x_1 hB_x_1 hle hfr hS hce_x_1 hcv_x_1 hcl_x_1 => ?_) (fun hthr_x_1 H locs hP hle hfr hS => ?_)
  · skip
    obtain ⟨rj9, hPx, hN⟩ := hB_x_1
    exact vx_out (fun x hx => (ht x hx).elim) hlocks hce_x_1 hcv_x_1 hcl_x_1 (fun T9 hT9 _ => ⟨r_x_1, show (f_xTrack σ id : XO) = some (E_x_1, r_x_1) from (by first | (simp [Option.or, eIOO, eIAE, eUOE, eNSE, eARE, eISE, hthr_x_1]; done) | (simp only [hthr_x_1]; simp [f_xTrack, f_xNo, Option.or, atO, eIOO, eIAE, eUOE, eNSE, eARE, eISE, hthr_x_1]; done)), by rw [hT9]; exact ⟨rj9, hPx, hN.mono hS0_x_1⟩, hS.F hT9⟩) hS.2.2 (by omega) (by omega)
  · skip
    rcases opt_em (f_findTrack σ id) with q_2 | ⟨j_3, q_2⟩
    · exact absurd hthr_x_1 (by simp [f_xTrack, f_xNo, q_2])
    · have hj_3 := f_findTrack_lt q_2
      refine W.eq (g2 := F0 m 5 ls [.ref (ad (3 + j_3))]) (by rw [q_2]; rfl) ?_
      refine lv_astore_n (lv' := [(2, .ref (ad (3 + j_3))), (0, .ref (ad (429))), (1, .int (id))]) hx hb dX9_removeTrack_5 rfl hl (by decide) rfl (fun ls hl => ?_)
      refine lv_aload_n hx hb dX9_removeTrack_6 rfl (lv_at hl 1 rfl) ?_
      refine sp_get hx hb hts wi_X9_removeTrack_X9 hown hK hP (κ := 429) (by decide) cE_sp rfl 2 (by decide) (hts _ (List.mem_of_getElem? (i := 1) rfl)) (fun _ h => h) rfl dX9_removeTrack_7 ?_
      refine lv_aload_n hx hb dX9_removeTrack_10 rfl (lv_at hl 1 rfl) ?_
      refine sp_get hx hb hts wi_X9_removeTrack_X9 hown hK hP (κ := 429) (by decide) cE_sp rfl 0 (by decide) (hts _ (List.mem_of_getElem? (i := 2) rfl)) (fun _ h => h) rfl dX9_removeTrack_11 ?_
      refine sp_callm (va_runV (As := [.ref (ad (0))]) (rest := []) ⟨hx, hb, hml, hown, hts⟩ (c_X2_push l D ad cy pm rj σ _ hi hpm 0 (by omega)) (cwV 1 hts gX9_removeTrack_X2_push rfl rfl rfl (by decide +kernel) ⟨Nat.le_of_ble_eq_true rfl, Nat.le_of_ble_eq_true rfl⟩) (sp_preVm hK hP (κ := 431) (by decide) cE_hist rfl) rfl rfl hl.1 rfl (lv_room (Nat.le_of_ble_eq_true rfl)) dX9_removeTrack_14 ⟨Nat.le_of_ble_eq_true rfl, Nat.le_of_ble_eq_true rfl⟩) hS (fun q h1 h2 => sp_Alt h1 h2) (sp_Ale hS.1) (fun H locs hP hle hfr hS => ?_)
      refine W.eq (g2 := F0 m 17 ls []) rfl ?_
      refine lv_aload_n hx hb dX9_removeTrack_17 rfl (lv_at hl 1 rfl) ?_
      refine sp_get hx hb hts wi_X9_removeTrack_X9 hown hK hP (κ := 429) (by decide) cE_sp rfl 0 (by decide) (hts _ (List.mem_of_getElem? (i := 2) rfl)) (fun _ h => h) rfl dX9_removeTrack_18 ?_
      refine lv_aload_n hx hb dX9_removeTrack_21 rfl (lv_at hl 0 rfl) ?_
      refine sp_callm (va_runV (As := [.ref (ad (3 + j_3))]) (rest := []) ⟨hx, hb, hml, hown, hts⟩ (c_X0_dropTrack l D ad cy (pm_push pm) rj (sp_st (f_copyB σ (pm 7) 0) 431 1 (imin (σ 431 1 + 1) 8)) _ hi j_3 (by omega)) (cwV 1 hts gX9_removeTrack_X0_dropTrack rfl rfl rfl (by decide +kernel) ⟨Nat.le_of_ble_eq_true rfl, Nat.le_of_ble_eq_true rfl⟩) (sp_preVm hK hP (κ := 0) (by omega) (cE_beach (by omega) (by omega)) rfl) rfl rfl hl.1 rfl (lv_room (Nat.le_of_ble_eq_true rfl)) dX9_removeTrack_22 ⟨Nat.le_of_ble_eq_true rfl, Nat.le_of_ble_eq_true rfl⟩) hS (fun q h1 h2 => sp_Alt h1 h2) (sp_Ale hS.1) (fun H locs hP hle hfr hS => ?_)
      refine W.eq (g2 := F0 m 25 ls [.int (f_dropTv (sp_st (f_copyB σ (pm 7) 0) 431 1 (imin (σ 431 1 + 1) 8)) j_3)]) rfl ?_
      have hE9 : cW ad cy (pm_push pm) (rj) (sp_st (f_dropP (sp_st (f_copyB σ (pm 7) 0) 431 1 (imin (σ 431 1 + 1) 8)) ((sp_st (f_copyB σ (pm 7) 0) 431 1 (imin (σ 431 1 + 1) 8)) (3 + j_3) 1) 30) (3 + j_3) 0 0) = cW ad cy (pm_push pm) (rj) (atO (f_findTrack σ id) (f_push σ pm 0) (fun k => sp_st (f_dropP (f_push σ pm 0) ((f_push σ pm 0) (3 + k) 1) 30) (3 + k) 0 0)) := by exact cW_eq rfl (by first | rfl | (simp only [atO, f_push, b2i, atO, hthr_x_1, q_2]; done) | (simp [atO, f_push, b2i, atO, hthr_x_1, q_2]; done))
      have hP : va_P D vwCl (cW ad cy (pm_push pm) (rj) (atO (f_findTrack σ id) (f_push σ pm 0) (fun k => sp_st (f_dropP (f_push σ pm 0) ((f_push σ pm 0) (3 + k) 1) 30) (3 + k) 0 0))) H := by rw [← hE9]; exact hP
      exact vx_ret (W.iret (v := f_dropTv (sp_st (f_copyB σ (pm 7) 0) 431 1 (imin (σ 431 1 + 1) 8)) j_3) hx hb hr (fun T9 hT9 _ => ⟨show (f_xTrack σ id : XO) = none from (by first | (simp [Option.or, eIOO, eIAE, eUOE, eNSE, eARE, eISE, hthr_x_1, q_2]; done) | (simp only [hthr_x_1]; simp [f_xTrack, f_xNo, Option.or, atO, eIOO, eIAE, eUOE, eNSE, eARE, eISE, hthr_x_1, q_2]; done)), congrArg (fun z9 => Outcome.returned (some (Value.int z9))) (show (f_dropTv (sp_st (f_copyB σ (pm 7) 0) 431 1 (imin (σ 431 1 + 1) 8)) j_3 : Int32) = atO (f_findTrack σ id) 0 (fun k => f_dropTv (f_push σ pm 0) k) from (by first | rfl | (simp [atO, f_push, b2i, atO, hthr_x_1, q_2]; done) | (simp [atO, f_push, b2i, atO, hthr_x_1, q_2]; rw [sp_st_k _ _ _ _ _ _ (by omega)]))), by rw [hT9]; exact hP, hS.F hT9⟩) hS.2.2 dX9_removeTrack_25)

theorem wi_X9_addPrint_X9 : ∀ w ∈ wsX90, w ∈ wsX9_addPrint := by decide +kernel
set_option maxHeartbeats 4000000 in
set_option maxRecDepth 100000 in
theorem c_X9_addPrint (l : Launch) (D : va_G) (ad : Nat → Nat) (cy : Nat → ClassId) (pm : Nat → Nat) (rj : Option Nat) (σ : Nat → Nat → Int32) (xq : Nat → Nat) (hst : l.stackTraces = false) (sz : Nat) (hi : sp_inj ad 459) (t : Int32) (u : Int32) (r : Int32) (c1 : Int32) (lf : Bool) (z : Int32) (hpm : ∀ j, j < 8 → 1 ≤ pm j ∧ pm j ≤ 8) : vx_Met l yX9_addPrint wsX9_addPrint ({ frames := 7, cells := 4, slots := 21, locals := 112 } : Room) (sp_Pmx xq ad 459 D (tyG cy) sz [.ref (ad (429)), .int (t), .int (u), .int (r), .int (c1), .int (b2i lf), .int (z)] (cW ad cy pm rj σ)) (sp_QT ((f_xTrack σ t).or ((f_xCell r c1).or ((f_xIn (f_in 0 999 u && f_in 1 9 z)).or (f_xRej (f_objPrint σ t u r c1))))) D (some (.int (f_putPv (f_push σ pm 0)))) (cW ad cy (pm_push pm) (rj) (f_putP (f_push σ pm 0) t u r c1 lf z)) (sp_A ad 459 sz)) (sp_XT ((f_xTrack σ t).or ((f_xCell r c1).or ((f_xIn (f_in 0 999 u && f_in 1 9 z)).or (f_xRej (f_objPrint σ t u r c1))))) (sp_B D ad cy (pm) (σ) sz rj) (sp_A ad 459 sz)) 4 21 (sp_A ad 459 sz) := by
  refine vx_ofW (cc := cX9_addPrint) (maxL := 7) (ret := (some .int)) (by decide) rfl ?_
  intro p e s m args below meth c s₁ B hml ht hv
  obtain ⟨rfl, hsz, hP, hK, hE⟩ := hv
  have hx := B.exec
  have hb := B.bytes
  have hr := B.returns
  have hts := atoms_spec (ws := wsX9_addPrint) B.pre
  have hown : s.vm.findClass RX9 = some m.cls := findClass_of_methodNamed B.named
  have hlocks := B.notSynchronized
  subst hsz
  have hlt0 : ∀ k, k < 459 → ad k < s.heap.size := fun k hk => (sp_P_at hP hk).lt
  have hS : va_S (sp_A ad 459 s.heap.size) s.heap s.heap [] := va_S.rf
  have hAk : ∀ k, k < 459 → (sp_A ad 459 s.heap.size) (ad k) := fun k hk => Or.inl ⟨k, hk, rfl⟩
  skip
  have hl := lv_entry ([.ref (ad (429)), .int (t), .int (u), .int (r), .int (c1), .int (b2i lf), .int (z)]) (n := 7) (Nat.le_of_ble_eq_true rfl)
  refine W.eq (lg_entry_eq _ ([.ref (ad (429)), .int (t), .int (u), .int (r), .int (c1), .int (b2i lf), .int (z)]) _) ?_
  generalize (lg_sl ([.ref (ad (429)), .int (t), .int (u), .int (r), .int (c1), .int (b2i lf), .int (z)]) ++ List.replicate (7 - (lg_sl ([.ref (ad (429)), .int (t), .int (u), .int (r), .int (c1), .int (b2i lf), .int (z)])).length) Slot.unset).toArray = ls at hl ⊢
  have hl : lv_has ls 7 [(0, .ref (ad (429))), (1, .int (t)), (2, .int (u)), (3, .int (r)), (4, .int (c1)), (5, .int (b2i lf)), (6, .int (z))] := hl
  refine lv_aload_n hx hb dX9_addPrint_0 rfl (lv_at hl 0 rfl) ?_
  refine lv_iload_n hx hb dX9_addPrint_1 rfl (lv_at hl 1 rfl) ?_
  have hS0_x_1 := hS.1
  refine sp_callx (vx_runV (As := [.int (t)]) (rest := []) ⟨hx, hb, hml, hown, hts⟩ (c_X9_requireTrack l D ad cy pm rj σ xq hst _ hi t) (cwV 1 hts gX9_addPrint_X9_requireTrack rfl rfl rfl (by decide +kernel) ⟨Nat.le_of_ble_eq_true rfl, Nat.le_of_ble_eq_true rfl⟩) (sp_preVmx hK hP (hE.go hS) (κ := 429) (by decide) cE_sp rfl) rfl rfl hl.1 rfl (lv_room (Nat.le_of_ble_eq_true rfl)) dX9_addPrint_2 ⟨Nat.le_of_ble_eq_true rfl, Nat.le_of_ble_eq_true rfl⟩) hS (fun q h1 h2 => sp_Alt h1 h2) (sp_Ale hS.1) (fun E_x_1 r_x_1 ce_x_1 q9_x_1 H locs hthr_x_1 hB_x_1 hle hfr hS hce_x_1 hcv_x_1 hcl_x_1 => ?_) (fun hthr_x_1 H locs hP hle hfr hS => ?_)
  · skip
    obtain ⟨rj9, hPx, hN⟩ := hB_x_1
    exact vx_out (fun x hx => (ht x hx).elim) hlocks hce_x_1 hcv_x_1 hcl_x_1 (fun T9 hT9 _ => ⟨r_x_1, show ((f_xTrack σ t).or ((f_xCell r c1).or ((f_xIn (f_in 0 999 u && f_in 1 9 z)).or (f_xRej (f_objPrint σ t u r c1)))) : XO) = some (E_x_1, r_x_1) from (by first | (simp [Option.or, eIOO, eIAE, eUOE, eNSE, eARE, eISE, hthr_x_1]; done) | (simp only [hthr_x_1]; simp [f_xTrack, f_xNo, f_xCell, f_xIn, f_xRej, Option.or, atO, eIOO, eIAE, eUOE, eNSE, eARE, eISE, hthr_x_1]; done)), by rw [hT9]; exact ⟨rj9, hPx, hN.mono hS0_x_1⟩, hS.F hT9⟩) hS.2.2 (by omega) (by omega)
  · skip
    rcases opt_em (f_findTrack σ t) with q_2 | ⟨j_3, q_2⟩
    · exact absurd hthr_x_1 (by simp [f_xTrack, f_xNo, q_2])
    · have hj_3 := f_findTrack_lt q_2
      refine W.eq (g2 := F0 m 5 ls [.ref (ad (3 + j_3))]) (by rw [q_2]; rfl) ?_
      refine lv_pop hx hb dX9_addPrint_5 rfl ?_
      refine lv_iload_n hx hb dX9_addPrint_6 rfl (lv_at hl 3 rfl) ?_
      refine lv_iload hx hb dX9_addPrint_7 (lv_at hl 4 rfl) ?_
      have hS0_x_4 := hS.1
      refine sp_callx (vx_runS (As := [.int (r), .int (c1)]) (rest := []) ⟨hx, hb, hml, hown, hts⟩ (c_X9_requireCell l D ad cy pm rj σ xq hst _ hi r c1) (va_cwS 2 hts gX9_addPrint_X9_requireCell rfl rfl rfl (by decide +kernel) ⟨Nat.le_of_ble_eq_true rfl, Nat.le_of_ble_eq_true rfl⟩) (sp_preSmx hK hP (hE.go hS)) rfl rfl hl.1 rfl (lv_room (Nat.le_of_ble_eq_true rfl)) dX9_addPrint_9 ⟨Nat.le_of_ble_eq_true rfl, Nat.le_of_ble_eq_true rfl⟩) hS (fun q h1 h2 => sp_Alt h1 h2) (sp_Ale hS.1) (fun E_x_4 r_x_4 ce_x_4 q9_x_4 H locs hthr_x_4 hB_x_4 hle hfr hS hce_x_4 hcv_x_4 hcl_x_4 => ?_) (fun hthr_x_4 H locs hP hle hfr hS => ?_)
      · skip
        obtain ⟨rj9, hPx, hN⟩ := hB_x_4
        exact vx_out (fun x hx => (ht x hx).elim) hlocks hce_x_4 hcv_x_4 hcl_x_4 (fun T9 hT9 _ => ⟨r_x_4, show ((f_xTrack σ t).or ((f_xCell r c1).or ((f_xIn (f_in 0 999 u && f_in 1 9 z)).or (f_xRej (f_objPrint σ t u r c1)))) : XO) = some (E_x_4, r_x_4) from (by first | (simp [Option.or, eIOO, eIAE, eUOE, eNSE, eARE, eISE, hthr_x_1, q_2, hthr_x_4]; done) | (simp only [hthr_x_1, hthr_x_4]; simp [f_xTrack, f_xNo, f_xCell, f_xIn, f_xRej, Option.or, atO, eIOO, eIAE, eUOE, eNSE, eARE, eISE, hthr_x_1, q_2, hthr_x_4]; done)), by rw [hT9]; exact ⟨rj9, hPx, hN.mono hS0_x_4⟩, hS.F hT9⟩) hS.2.2 (by omega) (by omega)
      · skip
        refine W.eq (g2 := F0 m 12 ls []) rfl ?_
        refine lv_iload_n hx hb dX9_addPrint_12 rfl (lv_at hl 2 rfl) ?_
        refine sp_call (W.runS (As := [.int (u)]) (rest := []) ⟨hx, hb, hml, hown, hts⟩ (c_X9_isTime l D ad cy pm rj σ u) (va_cwS 1 hts gX9_addPrint_X9_isTime rfl rfl rfl (by decide +kernel) ⟨Nat.le_of_ble_eq_true rfl, Nat.le_of_ble_eq_true rfl⟩) (sp_preS hK hP) rfl rfl hl.1 rfl (lv_room (Nat.le_of_ble_eq_true rfl)) dX9_addPrint_13 ⟨Nat.le_of_ble_eq_true rfl, Nat.le_of_ble_eq_true rfl⟩) ?_
        refine W.eq (g2 := F0 m 16 ls [.int (b2i (f_in 0 999 u))]) rfl ?_
        refine lv_if_eq (tgt := 27) hx hb dX9_addPrint_16 (by decide) (fun c_5 => ?_) (fun c_5 => ?_)
        · rw [b2i_eq0] at c_5
          refine vx_throwS (names := ["java/lang/RuntimeException", "java/lang/Exception"]) (sa := xq 9) hx hb hst hown (by decide +kernel) (by decide +kernel) (hts _ (List.mem_of_getElem? (i := 1) rfl)) (hts _ (List.mem_of_getElem? (i := 2) rfl)) hE.t9 (vx_hat (fun w hw => hts w (List.mem_cons_of_mem _ (List.mem_append_left _ (List.mem_append_left _ (List.mem_append_right _ hw))))) (by decide +kernel) (vx_c (va_Nw.use rfl hE.k1) (vx_c (va_Nw.use rfl hE.d0) (vx_c (va_Nw.use rfl hE.d1) (vx_c (va_Nw.use rfl hE.d2) vx_n))))) (by decide +kernel) hE.2.2.1 hE.2.2.2.1 hS (by rw [hml]; exact hl.1) dX9_addPrint_27 dX9_addPrint_30 dX9_addPrint_31 dX9_addPrint_33 dX9_addPrint_36 (fun x hx => (ht x hx).elim) (Nat.le_of_ble_eq_true rfl) (by decide) (Nat.le_of_ble_eq_true rfl) (Nat.le_of_ble_eq_true rfl) hlocks (fun T9 _ h1 h2 => ⟨none, show ((f_xTrack σ t).or ((f_xCell r c1).or ((f_xIn (f_in 0 999 u && f_in 1 9 z)).or (f_xRej (f_objPrint σ t u r c1)))) : XO) = some ("java/lang/IllegalArgumentException", none) from (by first | (simp [Option.or, eIOO, eIAE, eUOE, eNSE, eARE, eISE, hthr_x_1, q_2, hthr_x_4, c_5]; done) | (simp only [hthr_x_1, hthr_x_4]; simp [f_xTrack, f_xNo, f_xCell, f_xIn, f_xRej, Option.or, atO, eIOO, eIAE, eUOE, eNSE, eARE, eISE, hthr_x_1, q_2, hthr_x_4, c_5]; done)), ⟨rj, sp_P_ext hP h2, rfl⟩, sp_SF hS h1 h2⟩) hS.2.2 (by omega) (by omega)
        · rw [b2i_eq0] at c_5
          refine lv_iload hx hb dX9_addPrint_19 (lv_at hl 6 rfl) ?_
          refine sp_call (W.runS (As := [.int (z)]) (rest := []) ⟨hx, hb, hml, hown, hts⟩ (c_X9_isDepth l D ad cy pm rj σ z) (va_cwS 1 hts gX9_addPrint_X9_isDepth rfl rfl rfl (by decide +kernel) ⟨Nat.le_of_ble_eq_true rfl, Nat.le_of_ble_eq_true rfl⟩) (sp_preS hK hP) rfl rfl hl.1 rfl (lv_room (Nat.le_of_ble_eq_true rfl)) dX9_addPrint_21 ⟨Nat.le_of_ble_eq_true rfl, Nat.le_of_ble_eq_true rfl⟩) ?_
          refine W.eq (g2 := F0 m 24 ls [.int (b2i (f_in 1 9 z))]) rfl ?_
          refine lv_if_ne (tgt := 37) hx hb dX9_addPrint_24 (by decide) (fun c_6 => ?_) (fun c_6 => ?_)
          · rw [b2i_eq0] at c_6
            refine lv_aload_n hx hb dX9_addPrint_37 rfl (lv_at hl 0 rfl) ?_
            refine lv_aload_n hx hb dX9_addPrint_38 rfl (lv_at hl 0 rfl) ?_
            refine sp_get hx hb hts wi_X9_addPrint_X9 hown hK hP (κ := 429) (by decide) cE_sp rfl 0 (by decide) (hts _ (List.mem_of_getElem? (i := 3) rfl)) (fun _ h => h) rfl dX9_addPrint_39 ?_
            refine lv_iload_n hx hb dX9_addPrint_42 rfl (lv_at hl 1 rfl) ?_
            refine lv_iload_n hx hb dX9_addPrint_43 rfl (lv_at hl 2 rfl) ?_
            refine lv_iload_n hx hb dX9_addPrint_44 rfl (lv_at hl 3 rfl) ?_
            refine lv_iload hx hb dX9_addPrint_45 (lv_at hl 4 rfl) ?_
            have hge0_q_7 := hS.1
            refine sp_callR (va_runV (As := [.int (t), .int (u), .int (r), .int (c1)]) (rest := [.ref (ad (429))]) ⟨hx, hb, hml, hown, hts⟩ (c_X0_objectionToPrint l D ad cy pm rj σ _ t u r c1) (cwV 4 hts gX9_addPrint_X0_objectionToPrint rfl rfl rfl (by decide +kernel) ⟨Nat.le_of_ble_eq_true rfl, Nat.le_of_ble_eq_true rfl⟩) (sp_preVm hK hP (κ := 0) (by omega) (cE_beach (by omega) (by omega)) rfl) rfl rfl hl.1 rfl (lv_room (Nat.le_of_ble_eq_true rfl)) dX9_addPrint_47 ⟨Nat.le_of_ble_eq_true rfl, Nat.le_of_ble_eq_true rfl⟩) hS (fun z h => Or.inr (Nat.le_trans hS.1 h)) (fun v_8 H locs hle_q_7 hk_q_7 hS => ?_) (fun x1_q_7 x2_q_7 q_7 v_8 hge_q_7 H locs hle_q_7 hk_q_7 hS hat_q_7 => ?_)
            · have hP := sp_P_ext hP hk_q_7
              refine sp_callm (va_runV (As := [.null]) (rest := []) ⟨hx, hb, hml, hown, hts⟩ (c_X9_rejectFor_n l D ad cy pm rj σ _ hi ) (cwV 1 hts gX9_addPrint_X9_rejectFor rfl rfl rfl (by decide +kernel) ⟨Nat.le_of_ble_eq_true rfl, Nat.le_of_ble_eq_true rfl⟩) (sp_preVm hK hP (κ := 429) (by decide) cE_sp rfl) rfl rfl hl.1 rfl (lv_room (Nat.le_of_ble_eq_true rfl)) dX9_addPrint_50 ⟨Nat.le_of_ble_eq_true rfl, Nat.le_of_ble_eq_true rfl⟩) hS (fun q h1 h2 => sp_Alt h1 h2) (sp_Ale hS.1) (fun H locs hP hle hfr hS => ?_)
              refine W.eq (g2 := F0 m 53 ls []) rfl ?_
              refine lv_aload_n hx hb dX9_addPrint_53 rfl (lv_at hl 0 rfl) ?_
              refine sp_get hx hb hts wi_X9_addPrint_X9 hown hK hP (κ := 429) (by decide) cE_sp rfl 2 (by decide) (hts _ (List.mem_of_getElem? (i := 4) rfl)) (fun _ h => h) rfl dX9_addPrint_54 ?_
              refine lv_aload_n hx hb dX9_addPrint_57 rfl (lv_at hl 0 rfl) ?_
              refine sp_get hx hb hts wi_X9_addPrint_X9 hown hK hP (κ := 429) (by decide) cE_sp rfl 0 (by decide) (hts _ (List.mem_of_getElem? (i := 3) rfl)) (fun _ h => h) rfl dX9_addPrint_58 ?_
              refine sp_callm (va_runV (As := [.ref (ad (0))]) (rest := []) ⟨hx, hb, hml, hown, hts⟩ (c_X2_push l D ad cy pm rj σ _ hi hpm 0 (by omega)) (cwV 1 hts gX9_addPrint_X2_push rfl rfl rfl (by decide +kernel) ⟨Nat.le_of_ble_eq_true rfl, Nat.le_of_ble_eq_true rfl⟩) (sp_preVm hK hP (κ := 431) (by decide) cE_hist rfl) rfl rfl hl.1 rfl (lv_room (Nat.le_of_ble_eq_true rfl)) dX9_addPrint_61 ⟨Nat.le_of_ble_eq_true rfl, Nat.le_of_ble_eq_true rfl⟩) hS (fun q h1 h2 => sp_Alt h1 h2) (sp_Ale hS.1) (fun H locs hP hle hfr hS => ?_)
              refine W.eq (g2 := F0 m 64 ls []) rfl ?_
              refine lv_aload_n hx hb dX9_addPrint_64 rfl (lv_at hl 0 rfl) ?_
              refine sp_get hx hb hts wi_X9_addPrint_X9 hown hK hP (κ := 429) (by decide) cE_sp rfl 0 (by decide) (hts _ (List.mem_of_getElem? (i := 3) rfl)) (fun _ h => h) rfl dX9_addPrint_65 ?_
              refine lv_iload_n hx hb dX9_addPrint_68 rfl (lv_at hl 1 rfl) ?_
              refine lv_iload_n hx hb dX9_addPrint_69 rfl (lv_at hl 2 rfl) ?_
              refine lv_iload_n hx hb dX9_addPrint_70 rfl (lv_at hl 3 rfl) ?_
              refine lv_iload hx hb dX9_addPrint_71 (lv_at hl 4 rfl) ?_
              refine lv_iload hx hb dX9_addPrint_73 (lv_at hl 5 rfl) ?_
              refine lv_iload hx hb dX9_addPrint_75 (lv_at hl 6 rfl) ?_
              refine sp_callm (va_runV (As := [.int (t), .int (u), .int (r), .int (c1), .int (b2i lf), .int (z)]) (rest := []) ⟨hx, hb, hml, hown, hts⟩ (c_X0_putPrint l D ad cy (pm_push pm) rj (sp_st (f_copyB σ (pm 7) 0) 431 1 (imin (σ 431 1 + 1) 8)) _ hi t u r c1 lf z) (cwV 6 hts gX9_addPrint_X0_putPrint rfl rfl rfl (by decide +kernel) ⟨Nat.le_of_ble_eq_true rfl, Nat.le_of_ble_eq_true rfl⟩) (sp_preVm hK hP (κ := 0) (by omega) (cE_beach (by omega) (by omega)) rfl) rfl rfl hl.1 rfl (lv_room (Nat.le_of_ble_eq_true rfl)) dX9_addPrint_77 ⟨Nat.le_of_ble_eq_true rfl, Nat.le_of_ble_eq_true rfl⟩) hS (fun q h1 h2 => sp_Alt h1 h2) (sp_Ale hS.1) (fun H locs hP hle hfr hS => ?_)
              refine W.eq (g2 := F0 m 80 ls [.int (f_putPv (sp_st (f_copyB σ (pm 7) 0) 431 1 (imin (σ 431 1 + 1) 8)))]) rfl ?_
              refine W.widen (k := 4) (n := 21) (by omega) (by omega) ?_
              have hE9 : cW ad cy (pm_push pm) (rj) (f_putP (sp_st (f_copyB σ (pm 7) 0) 431 1 (imin (σ 431 1 + 1) 8)) t u r c1 lf z) = cW ad cy (pm_push pm) (rj) (f_putP (f_push σ pm 0) t u r c1 lf z) := by exact cW_eq rfl (by first | rfl | (simp only [atO, f_push, b2i, atO, hthr_x_1, q_2, hthr_x_4, c_5, c_6, v_8]; done) | (simp [atO, f_push, b2i, atO, hthr_x_1, q_2, hthr_x_4, c_5, c_6, v_8]; done))
              have hP : va_P D vwCl (cW ad cy (pm_push pm) (rj) (f_putP (f_push σ pm 0) t u r c1 lf z)) H := by rw [← hE9]; exact hP
              exact vx_ret (W.iret (v := f_putPv (sp_st (f_copyB σ (pm 7) 0) 431 1 (imin (σ 431 1 + 1) 8))) hx hb hr (fun T9 hT9 _ => ⟨show ((f_xTrack σ t).or ((f_xCell r c1).or ((f_xIn (f_in 0 999 u && f_in 1 9 z)).or (f_xRej (f_objPrint σ t u r c1)))) : XO) = none from (by first | (simp [Option.or, eIOO, eIAE, eUOE, eNSE, eARE, eISE, hthr_x_1, q_2, hthr_x_4, c_5, c_6, v_8]; done) | (simp only [hthr_x_1, hthr_x_4]; simp [f_xTrack, f_xNo, f_xCell, f_xIn, f_xRej, Option.or, atO, eIOO, eIAE, eUOE, eNSE, eARE, eISE, hthr_x_1, q_2, hthr_x_4, c_5, c_6, v_8]; done)), congrArg (fun z9 => Outcome.returned (some (Value.int z9))) (show (f_putPv (sp_st (f_copyB σ (pm 7) 0) 431 1 (imin (σ 431 1 + 1) 8)) : Int32) = f_putPv (f_push σ pm 0) from (by first | rfl | (simp [atO, f_push, b2i, atO, hthr_x_1, q_2, hthr_x_4, c_5, c_6, v_8]; done) | (simp [atO, f_push, b2i, atO, hthr_x_1, q_2, hthr_x_4, c_5, c_6, v_8]; rw [sp_st_k _ _ _ _ _ _ (by omega)]))), by rw [hT9]; exact hP, hS.F hT9⟩) hS.2.2 dX9_addPrint_80)
            · have hP := sp_P_ext hP hk_q_7
              have hS0_x_9 := hS.1
              refine sp_callx (vx_runV (As := [.ref (q_7)]) (rest := []) ⟨hx, hb, hml, hown, hts⟩ (c_X9_rejectFor_q l D ad cy pm rj σ xq hst _ hi q_7) (cwV 1 hts gX9_addPrint_X9_rejectFor rfl rfl rfl (by decide +kernel) ⟨Nat.le_of_ble_eq_true rfl, Nat.le_of_ble_eq_true rfl⟩) (sp_preVmx hK hP (hE.go hS) (κ := 429) (by decide) cE_sp rfl) rfl rfl hl.1 rfl (lv_room (Nat.le_of_ble_eq_true rfl)) dX9_addPrint_50 ⟨Nat.le_of_ble_eq_true rfl, Nat.le_of_ble_eq_true rfl⟩) hS (fun q h1 h2 => sp_Alt h1 h2) (sp_Ale hS.1) (fun E_x_9 r_x_9 ce_x_9 q9_x_9 H locs hthr_x_9 hB_x_9 hle hfr hS hce_x_9 hcv_x_9 hcl_x_9 => ?_) (fun hthr_x_9 H locs hP hle hfr hS => ?_)
              · skip
                have h9 := hthr_x_9
                simp only [Option.some.injEq, Prod.mk.injEq] at h9
                obtain ⟨h91, h92⟩ := h9
                subst h91
                subst h92
                obtain ⟨rj9, hPx, hN⟩ := hB_x_9
                have hN9 : rj9 = some q_7 := hN
                subst hN9
                exact vx_out (fun x hx => (ht x hx).elim) hlocks hce_x_9 hcv_x_9 hcl_x_9 (fun T9 hT9 _ => ⟨some (x1_q_7, x2_q_7, none), show ((f_xTrack σ t).or ((f_xCell r c1).or ((f_xIn (f_in 0 999 u && f_in 1 9 z)).or (f_xRej (f_objPrint σ t u r c1)))) : XO) = some (eUOE, some (x1_q_7, x2_q_7, none)) from (by first | (simp [Option.or, eIOO, eIAE, eUOE, eNSE, eARE, eISE, hthr_x_1, q_2, hthr_x_4, c_5, c_6, v_8]; done) | (simp only [hthr_x_1, hthr_x_4]; simp [f_xTrack, f_xNo, f_xCell, f_xIn, f_xRej, Option.or, atO, eIOO, eIAE, eUOE, eNSE, eARE, eISE, hthr_x_1, q_2, hthr_x_4, c_5, c_6, v_8]; done)), by rw [hT9]; exact ⟨some q_7, hPx, ⟨q_7, none, rfl, (Nat.le_trans hge0_q_7 hge_q_7), hat_q_7.kept (hfr q_7 hat_q_7.lt (sp_notA hlt0 (Nat.le_trans hge0_q_7 hge_q_7) hat_q_7.lt)), rfl⟩⟩, hS.F hT9⟩) hS.2.2 (by omega) (by omega)
              · cases hthr_x_9
          · rw [b2i_eq0] at c_6
            refine vx_throwS (names := ["java/lang/RuntimeException", "java/lang/Exception"]) (sa := xq 9) hx hb hst hown (by decide +kernel) (by decide +kernel) (hts _ (List.mem_of_getElem? (i := 1) rfl)) (hts _ (List.mem_of_getElem? (i := 2) rfl)) hE.t9 (vx_hat (fun w hw => hts w (List.mem_cons_of_mem _ (List.mem_append_left _ (List.mem_append_left _ (List.mem_append_right _ hw))))) (by decide +kernel) (vx_c (va_Nw.use rfl hE.k1) (vx_c (va_Nw.use rfl hE.d0) (vx_c (va_Nw.use rfl hE.d1) (vx_c (va_Nw.use rfl hE.d2) vx_n))))) (by decide +kernel) hE.2.2.1 hE.2.2.2.1 hS (by rw [hml]; exact hl.1) dX9_addPrint_27 dX9_addPrint_30 dX9_addPrint_31 dX9_addPrint_33 dX9_addPrint_36 (fun x hx => (ht x hx).elim) (Nat.le_of_ble_eq_true rfl) (by decide) (Nat.le_of_ble_eq_true rfl) (Nat.le_of_ble_eq_true rfl) hlocks (fun T9 _ h1 h2 => ⟨none, show ((f_xTrack σ t).or ((f_xCell r c1).or ((f_xIn (f_in 0 999 u && f_in 1 9 z)).or (f_xRej (f_objPrint σ t u r c1)))) : XO) = some ("java/lang/IllegalArgumentException", none) from (by first | (simp [Option.or, eIOO, eIAE, eUOE, eNSE, eARE, eISE, hthr_x_1, q_2, hthr_x_4, c_5, c_6]; done) | (simp only [hthr_x_1, hthr_x_4]; simp [f_xTrack, f_xNo, f_xCell, f_xIn, f_xRej, Option.or, atO, eIOO, eIAE, eUOE, eNSE, eARE, eISE, hthr_x_1, q_2, hthr_x_4, c_5, c_6]; done)), ⟨rj, sp_P_ext hP h2, rfl⟩, sp_SF hS h1 h2⟩) hS.2.2 (by omega) (by omega)

theorem wi_X9_removePrint_X9 : ∀ w ∈ wsX90, w ∈ wsX9_removePrint := by decide +kernel
theorem wi_X9_removePrint_X3 : ∀ w ∈ wsX30, w ∈ wsX9_removePrint := by decide +kernel
set_option maxHeartbeats 4000000 in
set_option maxRecDepth 100000 in
theorem c_X9_removePrint (l : Launch) (D : va_G) (ad : Nat → Nat) (cy : Nat → ClassId) (pm : Nat → Nat) (rj : Option Nat) (σ : Nat → Nat → Int32) (xq : Nat → Nat) (hst : l.stackTraces = false) (sz : Nat) (hi : sp_inj ad 459) (id : Int32) (hpm : ∀ j, j < 8 → 1 ≤ pm j ∧ pm j ≤ 8) : vx_Met l yX9_removePrint wsX9_removePrint ({ frames := 7, cells := 1, slots := 6, locals := 112 } : Room) (sp_Pmx xq ad 459 D (tyG cy) sz [.ref (ad (429)), .int (id)] (cW ad cy pm rj σ)) (sp_QT (f_xPrint σ id) D (some (.int (atO (f_findPrint σ id) 0 (fun k => (f_push σ pm 0) (9 + k) 2)))) (cW ad cy (pm_push pm) (rj) (atO (f_findPrint σ id) (f_push σ pm 0) (fun k => sp_st (f_push σ pm 0) (9 + k) 0 0))) (sp_A ad 459 sz)) (sp_XT (f_xPrint σ id) (sp_B D ad cy (pm) (σ) sz rj) (sp_A ad 459 sz)) 1 6 (sp_A ad 459 sz) := by
  refine vx_ofW (cc := cX9_removePrint) (maxL := 3) (ret := (some .int)) (by decide) rfl ?_
  intro p e s m args below meth c s₁ B hml ht hv
  obtain ⟨rfl, hsz, hP, hK, hE⟩ := hv
  have hx := B.exec
  have hb := B.bytes
  have hr := B.returns
  have hts := atoms_spec (ws := wsX9_removePrint) B.pre
  have hown : s.vm.findClass RX9 = some m.cls := findClass_of_methodNamed B.named
  have hlocks := B.notSynchronized
  subst hsz
  have hlt0 : ∀ k, k < 459 → ad k < s.heap.size := fun k hk => (sp_P_at hP hk).lt
  have hS : va_S (sp_A ad 459 s.heap.size) s.heap s.heap [] := va_S.rf
  have hAk : ∀ k, k < 459 → (sp_A ad 459 s.heap.size) (ad k) := fun k hk => Or.inl ⟨k, hk, rfl⟩
  skip
  have hl := lv_entry ([.ref (ad (429)), .int (id)]) (n := 3) (Nat.le_of_ble_eq_true rfl)
  refine W.eq (lg_entry_eq _ ([.ref (ad (429)), .int (id)]) _) ?_
  generalize (lg_sl ([.ref (ad (429)), .int (id)]) ++ List.replicate (3 - (lg_sl ([.ref (ad (429)), .int (id)])).length) Slot.unset).toArray = ls at hl ⊢
  have hl : lv_has ls 3 [(0, .ref (ad (429))), (1, .int (id))] := hl
  refine lv_aload_n hx hb dX9_removePrint_0 rfl (lv_at hl 0 rfl) ?_
  refine lv_iload_n hx hb dX9_removePrint_1 rfl (lv_at hl 1 rfl) ?_
  have hS0_x_1 := hS.1
  refine sp_callx (vx_runV (As := [.int (id)]) (rest := []) ⟨hx, hb, hml, hown, hts⟩ (c_X9_requirePrint l D ad cy pm rj σ xq hst _ hi id) (cwV 1 hts gX9_removePrint_X9_requirePrint rfl rfl rfl (by decide +kernel) ⟨Nat.le_of_ble_eq_true rfl, Nat.le_of_ble_eq_true rfl⟩) (sp_preVmx hK hP (hE.go hS) (κ := 429) (by decide) cE_sp rfl) rfl rfl hl.1 rfl (lv_room (Nat.le_of_ble_eq_true rfl)) dX9_removePrint_2 ⟨Nat.le_of_ble_eq_true rfl, Nat.le_of_ble_eq_true rfl⟩) hS (fun q h1 h2 => sp_Alt h1 h2) (sp_Ale hS.1) (fun E_x_1 r_x_1 ce_x_1 q9_x_1 H locs hthr_x_1 hB_x_1 hle hfr hS hce_x_1 hcv_x_1 hcl_x_1 => ?_) (fun hthr_x_1 H locs hP hle hfr hS => ?_)
  · skip
    obtain ⟨rj9, hPx, hN⟩ := hB_x_1
    exact vx_out (fun x hx => (ht x hx).elim) hlocks hce_x_1 hcv_x_1 hcl_x_1 (fun T9 hT9 _ => ⟨r_x_1, show (f_xPrint σ id : XO) = some (E_x_1, r_x_1) from (by first | (simp [Option.or, eIOO, eIAE, eUOE, eNSE, eARE, eISE, hthr_x_1]; done) | (simp only [hthr_x_1]; simp [f_xPrint, f_xNo, Option.or, atO, eIOO, eIAE, eUOE, eNSE, eARE, eISE, hthr_x_1]; done)), by rw [hT9]; exact ⟨rj9, hPx, hN.mono hS0_x_1⟩, hS.F hT9⟩) hS.2.2 (by omega) (by omega)
  · skip
    rcases opt_em (f_findPrint σ id) with q_2 | ⟨j_3, q_2⟩
    · exact absurd hthr_x_1 (by simp [f_xPrint, f_xNo, q_2])
    · have hj_3 := f_findPrint_lt q_2
      refine W.eq (g2 := F0 m 5 ls [.ref (ad (9 + j_3))]) (by rw [q_2]; rfl) ?_
      refine lv_astore_n (lv' := [(2, .ref (ad (9 + j_3))), (0, .ref (ad (429))), (1, .int (id))]) hx hb dX9_removePrint_5 rfl hl (by decide) rfl (fun ls hl => ?_)
      refine lv_aload_n hx hb dX9_removePrint_6 rfl (lv_at hl 1 rfl) ?_
      refine sp_get hx hb hts wi_X9_removePrint_X9 hown hK hP (κ := 429) (by decide) cE_sp rfl 2 (by decide) (hts _ (List.mem_of_getElem? (i := 1) rfl)) (fun _ h => h) rfl dX9_removePrint_7 ?_
      refine lv_aload_n hx hb dX9_removePrint_10 rfl (lv_at hl 1 rfl) ?_
      refine sp_get hx hb hts wi_X9_removePrint_X9 hown hK hP (κ := 429) (by decide) cE_sp rfl 0 (by decide) (hts _ (List.mem_of_getElem? (i := 2) rfl)) (fun _ h => h) rfl dX9_removePrint_11 ?_
      refine sp_callm (va_runV (As := [.ref (ad (0))]) (rest := []) ⟨hx, hb, hml, hown, hts⟩ (c_X2_push l D ad cy pm rj σ _ hi hpm 0 (by omega)) (cwV 1 hts gX9_removePrint_X2_push rfl rfl rfl (by decide +kernel) ⟨Nat.le_of_ble_eq_true rfl, Nat.le_of_ble_eq_true rfl⟩) (sp_preVm hK hP (κ := 431) (by decide) cE_hist rfl) rfl rfl hl.1 rfl (lv_room (Nat.le_of_ble_eq_true rfl)) dX9_removePrint_14 ⟨Nat.le_of_ble_eq_true rfl, Nat.le_of_ble_eq_true rfl⟩) hS (fun q h1 h2 => sp_Alt h1 h2) (sp_Ale hS.1) (fun H locs hP hle hfr hS => ?_)
      refine W.eq (g2 := F0 m 17 ls []) rfl ?_
      refine lv_aload_n hx hb dX9_removePrint_17 rfl (lv_at hl 1 rfl) ?_
      refine sp_get hx hb hts wi_X9_removePrint_X9 hown hK hP (κ := 429) (by decide) cE_sp rfl 0 (by decide) (hts _ (List.mem_of_getElem? (i := 2) rfl)) (fun _ h => h) rfl dX9_removePrint_18 ?_
      refine lv_aload_n hx hb dX9_removePrint_21 rfl (lv_at hl 0 rfl) ?_
      refine sp_callm (va_runV (As := [.ref (ad (9 + j_3))]) (rest := []) ⟨hx, hb, hml, hown, hts⟩ (c_X0_dropPrint l D ad cy (pm_push pm) rj (sp_st (f_copyB σ (pm 7) 0) 431 1 (imin (σ 431 1 + 1) 8)) _ hi j_3 (by omega)) (cwV 1 hts gX9_removePrint_X0_dropPrint rfl rfl rfl (by decide +kernel) ⟨Nat.le_of_ble_eq_true rfl, Nat.le_of_ble_eq_true rfl⟩) (sp_preVm hK hP (κ := 0) (by omega) (cE_beach (by omega) (by omega)) rfl) rfl rfl hl.1 rfl (lv_room (Nat.le_of_ble_eq_true rfl)) dX9_removePrint_22 ⟨Nat.le_of_ble_eq_true rfl, Nat.le_of_ble_eq_true rfl⟩) hS (fun q h1 h2 => sp_Alt h1 h2) (sp_Ale hS.1) (fun H locs hP hle hfr hS => ?_)
      refine W.eq (g2 := F0 m 25 ls []) rfl ?_
      refine lv_aload_n hx hb dX9_removePrint_25 rfl (lv_at hl 0 rfl) ?_
      refine sp_get hx hb hts wi_X9_removePrint_X3 hown hK hP (κ := 9 + j_3) (by omega) (cE_print (by omega) (by omega)) rfl 2 (by decide) (hts _ (List.mem_of_getElem? (i := 3) rfl)) (fun _ h => h) rfl dX9_removePrint_26 ?_
      refine W.eq (g2 := F0 m 29 ls [.int (f_copyB σ (pm 7) 0 (9 + j_3) 2)]) (by rw [sp_st_j _ _ _ _ _ _ (by decide), sp_st_k _ _ _ _ _ _ (by omega)]) ?_
      have hE9 : cW ad cy (pm_push pm) (rj) (sp_st (sp_st (f_copyB σ (pm 7) 0) 431 1 (imin (σ 431 1 + 1) 8)) (9 + j_3) 0 0) = cW ad cy (pm_push pm) (rj) (atO (f_findPrint σ id) (f_push σ pm 0) (fun k => sp_st (f_push σ pm 0) (9 + k) 0 0)) := by exact cW_eq rfl (by first | rfl | (simp only [atO, f_push, b2i, atO, hthr_x_1, q_2]; done) | (simp [atO, f_push, b2i, atO, hthr_x_1, q_2]; done))
      have hP : va_P D vwCl (cW ad cy (pm_push pm) (rj) (atO (f_findPrint σ id) (f_push σ pm 0) (fun k => sp_st (f_push σ pm 0) (9 + k) 0 0))) H := by rw [← hE9]; exact hP
      exact vx_ret (W.iret (v := f_copyB σ (pm 7) 0 (9 + j_3) 2) hx hb hr (fun T9 hT9 _ => ⟨show (f_xPrint σ id : XO) = none from (by first | (simp [Option.or, eIOO, eIAE, eUOE, eNSE, eARE, eISE, hthr_x_1, q_2]; done) | (simp only [hthr_x_1]; simp [f_xPrint, f_xNo, Option.or, atO, eIOO, eIAE, eUOE, eNSE, eARE, eISE, hthr_x_1, q_2]; done)), congrArg (fun z9 => Outcome.returned (some (Value.int z9))) (show (f_copyB σ (pm 7) 0 (9 + j_3) 2 : Int32) = atO (f_findPrint σ id) 0 (fun k => (f_push σ pm 0) (9 + k) 2) from (by first | rfl | (simp [atO, f_push, b2i, atO, hthr_x_1, q_2]; done) | (simp [atO, f_push, b2i, atO, hthr_x_1, q_2]; rw [sp_st_k _ _ _ _ _ _ (by omega)]))), by rw [hT9]; exact hP, hS.F hT9⟩) hS.2.2 dX9_removePrint_29)

theorem wi_X9_correctHeel_X9 : ∀ w ∈ wsX90, w ∈ wsX9_correctHeel := by decide +kernel
set_option maxHeartbeats 4000000 in
set_option maxRecDepth 100000 in
theorem c_X9_correctHeel (l : Launch) (D : va_G) (ad : Nat → Nat) (cy : Nat → ClassId) (pm : Nat → Nat) (rj : Option Nat) (σ : Nat → Nat → Int32) (xq : Nat → Nat) (hst : l.stackTraces = false) (sz : Nat) (hi : sp_inj ad 459) (id : Int32) (r : Int32) (c1 : Int32) (hpm : ∀ j, j < 8 → 1 ≤ pm j ∧ pm j ≤ 8) : vx_Met l yX9_correctHeel wsX9_correctHeel ({ frames := 7, cells := 4, slots := 21, locals := 112 } : Room) (sp_Pmx xq ad 459 D (tyG cy) sz [.ref (ad (429)), .int (id), .int (r), .int (c1)] (cW ad cy pm rj σ)) (sp_QT ((f_xPrint σ id).or ((f_xCell r c1).or (atO (f_findPrint σ id) none (fun k => f_xRej (f_objMove σ k r c1))))) D (some (.int (atO (f_findPrint σ id) 0 (fun k => f_dist (f_push σ pm 0) (9 + k) r c1)))) (cW ad cy (pm_push pm) (rj) (atO (f_findPrint σ id) (f_push σ pm 0) (fun k => sp_st (sp_st (sp_st (f_push σ pm 0) (9 + k) 4 r) (9 + k) 5 c1) 0 6 ((f_push σ pm 0) 0 6 + 1)))) (sp_A ad 459 sz)) (sp_XT ((f_xPrint σ id).or ((f_xCell r c1).or (atO (f_findPrint σ id) none (fun k => f_xRej (f_objMove σ k r c1))))) (sp_B D ad cy (pm) (σ) sz rj) (sp_A ad 459 sz)) 4 21 (sp_A ad 459 sz) := by
  refine vx_ofW (cc := cX9_correctHeel) (maxL := 5) (ret := (some .int)) (by decide) rfl ?_
  intro p e s m args below meth c s₁ B hml ht hv
  obtain ⟨rfl, hsz, hP, hK, hE⟩ := hv
  have hx := B.exec
  have hb := B.bytes
  have hr := B.returns
  have hts := atoms_spec (ws := wsX9_correctHeel) B.pre
  have hown : s.vm.findClass RX9 = some m.cls := findClass_of_methodNamed B.named
  have hlocks := B.notSynchronized
  subst hsz
  have hlt0 : ∀ k, k < 459 → ad k < s.heap.size := fun k hk => (sp_P_at hP hk).lt
  have hS : va_S (sp_A ad 459 s.heap.size) s.heap s.heap [] := va_S.rf
  have hAk : ∀ k, k < 459 → (sp_A ad 459 s.heap.size) (ad k) := fun k hk => Or.inl ⟨k, hk, rfl⟩
  skip
  have hl := lv_entry ([.ref (ad (429)), .int (id), .int (r), .int (c1)]) (n := 5) (Nat.le_of_ble_eq_true rfl)
  refine W.eq (lg_entry_eq _ ([.ref (ad (429)), .int (id), .int (r), .int (c1)]) _) ?_
  generalize (lg_sl ([.ref (ad (429)), .int (id), .int (r), .int (c1)]) ++ List.replicate (5 - (lg_sl ([.ref (ad (429)), .int (id), .int (r), .int (c1)])).length) Slot.unset).toArray = ls at hl ⊢
  have hl : lv_has ls 5 [(0, .ref (ad (429))), (1, .int (id)), (2, .int (r)), (3, .int (c1))] := hl
  refine lv_aload_n hx hb dX9_correctHeel_0 rfl (lv_at hl 0 rfl) ?_
  refine lv_iload_n hx hb dX9_correctHeel_1 rfl (lv_at hl 1 rfl) ?_
  have hS0_x_1 := hS.1
  refine sp_callx (vx_runV (As := [.int (id)]) (rest := []) ⟨hx, hb, hml, hown, hts⟩ (c_X9_requirePrint l D ad cy pm rj σ xq hst _ hi id) (cwV 1 hts gX9_correctHeel_X9_requirePrint rfl rfl rfl (by decide +kernel) ⟨Nat.le_of_ble_eq_true rfl, Nat.le_of_ble_eq_true rfl⟩) (sp_preVmx hK hP (hE.go hS) (κ := 429) (by decide) cE_sp rfl) rfl rfl hl.1 rfl (lv_room (Nat.le_of_ble_eq_true rfl)) dX9_correctHeel_2 ⟨Nat.le_of_ble_eq_true rfl, Nat.le_of_ble_eq_true rfl⟩) hS (fun q h1 h2 => sp_Alt h1 h2) (sp_Ale hS.1) (fun E_x_1 r_x_1 ce_x_1 q9_x_1 H locs hthr_x_1 hB_x_1 hle hfr hS hce_x_1 hcv_x_1 hcl_x_1 => ?_) (fun hthr_x_1 H locs hP hle hfr hS => ?_)
  · skip
    obtain ⟨rj9, hPx, hN⟩ := hB_x_1
    exact vx_out (fun x hx => (ht x hx).elim) hlocks hce_x_1 hcv_x_1 hcl_x_1 (fun T9 hT9 _ => ⟨r_x_1, show ((f_xPrint σ id).or ((f_xCell r c1).or (atO (f_findPrint σ id) none (fun k => f_xRej (f_objMove σ k r c1)))) : XO) = some (E_x_1, r_x_1) from (by first | (simp [Option.or, atO, eIOO, eIAE, eUOE, eNSE, eARE, eISE, hthr_x_1]; done) | (simp only [hthr_x_1]; simp [f_xPrint, f_xNo, f_xCell, f_xRej, atO, Option.or, atO, eIOO, eIAE, eUOE, eNSE, eARE, eISE, hthr_x_1]; done)), by rw [hT9]; exact ⟨rj9, hPx, hN.mono hS0_x_1⟩, hS.F hT9⟩) hS.2.2 (by omega) (by omega)
  · skip
    rcases opt_em (f_findPrint σ id) with q_2 | ⟨j_3, q_2⟩
    · exact absurd hthr_x_1 (by simp [f_xPrint, f_xNo, q_2])
    · have hj_3 := f_findPrint_lt q_2
      refine W.eq (g2 := F0 m 5 ls [.ref (ad (9 + j_3))]) (by rw [q_2]; rfl) ?_
      refine lv_astore (lv' := [(4, .ref (ad (9 + j_3))), (0, .ref (ad (429))), (1, .int (id)), (2, .int (r)), (3, .int (c1))]) hx hb dX9_correctHeel_5 hl (by decide) rfl (fun ls hl => ?_)
      refine lv_iload_n hx hb dX9_correctHeel_7 rfl (lv_at hl 3 rfl) ?_
      refine lv_iload_n hx hb dX9_correctHeel_8 rfl (lv_at hl 4 rfl) ?_
      have hS0_x_4 := hS.1
      refine sp_callx (vx_runS (As := [.int (r), .int (c1)]) (rest := []) ⟨hx, hb, hml, hown, hts⟩ (c_X9_requireCell l D ad cy pm rj σ xq hst _ hi r c1) (va_cwS 2 hts gX9_correctHeel_X9_requireCell rfl rfl rfl (by decide +kernel) ⟨Nat.le_of_ble_eq_true rfl, Nat.le_of_ble_eq_true rfl⟩) (sp_preSmx hK hP (hE.go hS)) rfl rfl hl.1 rfl (lv_room (Nat.le_of_ble_eq_true rfl)) dX9_correctHeel_9 ⟨Nat.le_of_ble_eq_true rfl, Nat.le_of_ble_eq_true rfl⟩) hS (fun q h1 h2 => sp_Alt h1 h2) (sp_Ale hS.1) (fun E_x_4 r_x_4 ce_x_4 q9_x_4 H locs hthr_x_4 hB_x_4 hle hfr hS hce_x_4 hcv_x_4 hcl_x_4 => ?_) (fun hthr_x_4 H locs hP hle hfr hS => ?_)
      · skip
        obtain ⟨rj9, hPx, hN⟩ := hB_x_4
        exact vx_out (fun x hx => (ht x hx).elim) hlocks hce_x_4 hcv_x_4 hcl_x_4 (fun T9 hT9 _ => ⟨r_x_4, show ((f_xPrint σ id).or ((f_xCell r c1).or (atO (f_findPrint σ id) none (fun k => f_xRej (f_objMove σ k r c1)))) : XO) = some (E_x_4, r_x_4) from (by first | (simp [Option.or, atO, eIOO, eIAE, eUOE, eNSE, eARE, eISE, hthr_x_1, q_2, hthr_x_4]; done) | (simp only [hthr_x_1, hthr_x_4]; simp [f_xPrint, f_xNo, f_xCell, f_xRej, atO, Option.or, atO, eIOO, eIAE, eUOE, eNSE, eARE, eISE, hthr_x_1, q_2, hthr_x_4]; done)), by rw [hT9]; exact ⟨rj9, hPx, hN.mono hS0_x_4⟩, hS.F hT9⟩) hS.2.2 (by omega) (by omega)
      · skip
        refine W.eq (g2 := F0 m 12 ls []) rfl ?_
        refine lv_aload_n hx hb dX9_correctHeel_12 rfl (lv_at hl 1 rfl) ?_
        refine lv_aload_n hx hb dX9_correctHeel_13 rfl (lv_at hl 1 rfl) ?_
        refine sp_get hx hb hts wi_X9_correctHeel_X9 hown hK hP (κ := 429) (by decide) cE_sp rfl 0 (by decide) (hts _ (List.mem_of_getElem? (i := 1) rfl)) (fun _ h => h) rfl dX9_correctHeel_14 ?_
        refine lv_aload hx hb dX9_correctHeel_17 (lv_at hl 0 rfl) ?_
        refine lv_iload_n hx hb dX9_correctHeel_19 rfl (lv_at hl 3 rfl) ?_
        refine lv_iload_n hx hb dX9_correctHeel_20 rfl (lv_at hl 4 rfl) ?_
        have hge0_q_5 := hS.1
        refine sp_callR (va_runV (As := [.ref (ad (9 + j_3)), .int (r), .int (c1)]) (rest := [.ref (ad (429))]) ⟨hx, hb, hml, hown, hts⟩ (c_X0_objectionToMove l D ad cy pm rj σ _ j_3 (by omega) r c1) (cwV 3 hts gX9_correctHeel_X0_objectionToMove rfl rfl rfl (by decide +kernel) ⟨Nat.le_of_ble_eq_true rfl, Nat.le_of_ble_eq_true rfl⟩) (sp_preVm hK hP (κ := 0) (by omega) (cE_beach (by omega) (by omega)) rfl) rfl rfl hl.1 rfl (lv_room (Nat.le_of_ble_eq_true rfl)) dX9_correctHeel_21 ⟨Nat.le_of_ble_eq_true rfl, Nat.le_of_ble_eq_true rfl⟩) hS (fun z h => Or.inr (Nat.le_trans hS.1 h)) (fun v_6 H locs hle_q_5 hk_q_5 hS => ?_) (fun x1_q_5 x2_q_5 q_5 v_6 hge_q_5 H locs hle_q_5 hk_q_5 hS hat_q_5 => ?_)
        · have hP := sp_P_ext hP hk_q_5
          refine sp_callm (va_runV (As := [.null]) (rest := []) ⟨hx, hb, hml, hown, hts⟩ (c_X9_rejectFor_n l D ad cy pm rj σ _ hi ) (cwV 1 hts gX9_correctHeel_X9_rejectFor rfl rfl rfl (by decide +kernel) ⟨Nat.le_of_ble_eq_true rfl, Nat.le_of_ble_eq_true rfl⟩) (sp_preVm hK hP (κ := 429) (by decide) cE_sp rfl) rfl rfl hl.1 rfl (lv_room (Nat.le_of_ble_eq_true rfl)) dX9_correctHeel_24 ⟨Nat.le_of_ble_eq_true rfl, Nat.le_of_ble_eq_true rfl⟩) hS (fun q h1 h2 => sp_Alt h1 h2) (sp_Ale hS.1) (fun H locs hP hle hfr hS => ?_)
          refine W.eq (g2 := F0 m 27 ls []) rfl ?_
          refine lv_aload_n hx hb dX9_correctHeel_27 rfl (lv_at hl 1 rfl) ?_
          refine sp_get hx hb hts wi_X9_correctHeel_X9 hown hK hP (κ := 429) (by decide) cE_sp rfl 2 (by decide) (hts _ (List.mem_of_getElem? (i := 2) rfl)) (fun _ h => h) rfl dX9_correctHeel_28 ?_
          refine lv_aload_n hx hb dX9_correctHeel_31 rfl (lv_at hl 1 rfl) ?_
          refine sp_get hx hb hts wi_X9_correctHeel_X9 hown hK hP (κ := 429) (by decide) cE_sp rfl 0 (by decide) (hts _ (List.mem_of_getElem? (i := 1) rfl)) (fun _ h => h) rfl dX9_correctHeel_32 ?_
          refine sp_callm (va_runV (As := [.ref (ad (0))]) (rest := []) ⟨hx, hb, hml, hown, hts⟩ (c_X2_push l D ad cy pm rj σ _ hi hpm 0 (by omega)) (cwV 1 hts gX9_correctHeel_X2_push rfl rfl rfl (by decide +kernel) ⟨Nat.le_of_ble_eq_true rfl, Nat.le_of_ble_eq_true rfl⟩) (sp_preVm hK hP (κ := 431) (by decide) cE_hist rfl) rfl rfl hl.1 rfl (lv_room (Nat.le_of_ble_eq_true rfl)) dX9_correctHeel_35 ⟨Nat.le_of_ble_eq_true rfl, Nat.le_of_ble_eq_true rfl⟩) hS (fun q h1 h2 => sp_Alt h1 h2) (sp_Ale hS.1) (fun H locs hP hle hfr hS => ?_)
          refine W.eq (g2 := F0 m 38 ls []) rfl ?_
          refine lv_aload_n hx hb dX9_correctHeel_38 rfl (lv_at hl 1 rfl) ?_
          refine sp_get hx hb hts wi_X9_correctHeel_X9 hown hK hP (κ := 429) (by decide) cE_sp rfl 0 (by decide) (hts _ (List.mem_of_getElem? (i := 1) rfl)) (fun _ h => h) rfl dX9_correctHeel_39 ?_
          refine lv_aload hx hb dX9_correctHeel_42 (lv_at hl 0 rfl) ?_
          refine lv_iload_n hx hb dX9_correctHeel_44 rfl (lv_at hl 3 rfl) ?_
          refine lv_iload_n hx hb dX9_correctHeel_45 rfl (lv_at hl 4 rfl) ?_
          refine sp_callm (va_runV (As := [.ref (ad (9 + j_3)), .int (r), .int (c1)]) (rest := []) ⟨hx, hb, hml, hown, hts⟩ (c_X0_moveHeel l D ad cy (pm_push pm) rj (sp_st (f_copyB σ (pm 7) 0) 431 1 (imin (σ 431 1 + 1) 8)) _ hi j_3 (by omega) r c1) (cwV 3 hts gX9_correctHeel_X0_moveHeel rfl rfl rfl (by decide +kernel) ⟨Nat.le_of_ble_eq_true rfl, Nat.le_of_ble_eq_true rfl⟩) (sp_preVm hK hP (κ := 0) (by omega) (cE_beach (by omega) (by omega)) rfl) rfl rfl hl.1 rfl (lv_room (Nat.le_of_ble_eq_true rfl)) dX9_correctHeel_46 ⟨Nat.le_of_ble_eq_true rfl, Nat.le_of_ble_eq_true rfl⟩) hS (fun q h1 h2 => sp_Alt h1 h2) (sp_Ale hS.1) (fun H locs hP hle hfr hS => ?_)
          refine W.eq (g2 := F0 m 49 ls [.int (f_dist (sp_st (f_copyB σ (pm 7) 0) 431 1 (imin (σ 431 1 + 1) 8)) (9 + j_3) r c1)]) rfl ?_
          refine W.widen (k := 4) (n := 21) (by omega) (by omega) ?_
          have hE9 : cW ad cy (pm_push pm) (rj) (sp_st (sp_st (sp_st (sp_st (f_copyB σ (pm 7) 0) 431 1 (imin (σ 431 1 + 1) 8)) (9 + j_3) 4 r) (9 + j_3) 5 c1) 0 6 ((sp_st (f_copyB σ (pm 7) 0) 431 1 (imin (σ 431 1 + 1) 8)) 0 6 + 1)) = cW ad cy (pm_push pm) (rj) (atO (f_findPrint σ id) (f_push σ pm 0) (fun k => sp_st (sp_st (sp_st (f_push σ pm 0) (9 + k) 4 r) (9 + k) 5 c1) 0 6 ((f_push σ pm 0) 0 6 + 1))) := by exact cW_eq rfl (by first | rfl | (simp only [atO, f_push, b2i, atO, hthr_x_1, q_2, hthr_x_4, v_6]; done) | (simp [atO, f_push, b2i, atO, hthr_x_1, q_2, hthr_x_4, v_6]; done))
          have hP : va_P D vwCl (cW ad cy (pm_push pm) (rj) (atO (f_findPrint σ id) (f_push σ pm 0) (fun k => sp_st (sp_st (sp_st (f_push σ pm 0) (9 + k) 4 r) (9 + k) 5 c1) 0 6 ((f_push σ pm 0) 0 6 + 1)))) H := by rw [← hE9]; exact hP
          exact vx_ret (W.iret (v := f_dist (sp_st (f_copyB σ (pm 7) 0) 431 1 (imin (σ 431 1 + 1) 8)) (9 + j_3) r c1) hx hb hr (fun T9 hT9 _ => ⟨show ((f_xPrint σ id).or ((f_xCell r c1).or (atO (f_findPrint σ id) none (fun k => f_xRej (f_objMove σ k r c1)))) : XO) = none from (by first | (simp [Option.or, atO, eIOO, eIAE, eUOE, eNSE, eARE, eISE, hthr_x_1, q_2, hthr_x_4, v_6]; done) | (simp only [hthr_x_1, hthr_x_4]; simp [f_xPrint, f_xNo, f_xCell, f_xRej, atO, Option.or, atO, eIOO, eIAE, eUOE, eNSE, eARE, eISE, hthr_x_1, q_2, hthr_x_4, v_6]; done)), congrArg (fun z9 => Outcome.returned (some (Value.int z9))) (show (f_dist (sp_st (f_copyB σ (pm 7) 0) 431 1 (imin (σ 431 1 + 1) 8)) (9 + j_3) r c1 : Int32) = atO (f_findPrint σ id) 0 (fun k => f_dist (f_push σ pm 0) (9 + k) r c1) from (by first | rfl | (simp [atO, f_push, b2i, atO, hthr_x_1, q_2, hthr_x_4, v_6]; done) | (simp [atO, f_push, b2i, atO, hthr_x_1, q_2, hthr_x_4, v_6]; rw [sp_st_k _ _ _ _ _ _ (by omega)]))), by rw [hT9]; exact hP, hS.F hT9⟩) hS.2.2 dX9_correctHeel_49)
        · have hP := sp_P_ext hP hk_q_5
          have hS0_x_7 := hS.1
          refine sp_callx (vx_runV (As := [.ref (q_5)]) (rest := []) ⟨hx, hb, hml, hown, hts⟩ (c_X9_rejectFor_q l D ad cy pm rj σ xq hst _ hi q_5) (cwV 1 hts gX9_correctHeel_X9_rejectFor rfl rfl rfl (by decide +kernel) ⟨Nat.le_of_ble_eq_true rfl, Nat.le_of_ble_eq_true rfl⟩) (sp_preVmx hK hP (hE.go hS) (κ := 429) (by decide) cE_sp rfl) rfl rfl hl.1 rfl (lv_room (Nat.le_of_ble_eq_true rfl)) dX9_correctHeel_24 ⟨Nat.le_of_ble_eq_true rfl, Nat.le_of_ble_eq_true rfl⟩) hS (fun q h1 h2 => sp_Alt h1 h2) (sp_Ale hS.1) (fun E_x_7 r_x_7 ce_x_7 q9_x_7 H locs hthr_x_7 hB_x_7 hle hfr hS hce_x_7 hcv_x_7 hcl_x_7 => ?_) (fun hthr_x_7 H locs hP hle hfr hS => ?_)
          · skip
            have h9 := hthr_x_7
            simp only [Option.some.injEq, Prod.mk.injEq] at h9
            obtain ⟨h91, h92⟩ := h9
            subst h91
            subst h92
            obtain ⟨rj9, hPx, hN⟩ := hB_x_7
            have hN9 : rj9 = some q_5 := hN
            subst hN9
            exact vx_out (fun x hx => (ht x hx).elim) hlocks hce_x_7 hcv_x_7 hcl_x_7 (fun T9 hT9 _ => ⟨some (x1_q_5, x2_q_5, none), show ((f_xPrint σ id).or ((f_xCell r c1).or (atO (f_findPrint σ id) none (fun k => f_xRej (f_objMove σ k r c1)))) : XO) = some (eUOE, some (x1_q_5, x2_q_5, none)) from (by first | (simp [Option.or, atO, eIOO, eIAE, eUOE, eNSE, eARE, eISE, hthr_x_1, q_2, hthr_x_4, v_6]; done) | (simp only [hthr_x_1, hthr_x_4]; simp [f_xPrint, f_xNo, f_xCell, f_xRej, atO, Option.or, atO, eIOO, eIAE, eUOE, eNSE, eARE, eISE, hthr_x_1, q_2, hthr_x_4, v_6]; done)), by rw [hT9]; exact ⟨some q_5, hPx, ⟨q_5, none, rfl, (Nat.le_trans hge0_q_5 hge_q_5), hat_q_5.kept (hfr q_5 hat_q_5.lt (sp_notA hlt0 (Nat.le_trans hge0_q_5 hge_q_5) hat_q_5.lt)), rfl⟩⟩, hS.F hT9⟩) hS.2.2 (by omega) (by omega)
          · cases hthr_x_7

theorem wi_X9_swapFoot_X9 : ∀ w ∈ wsX90, w ∈ wsX9_swapFoot := by decide +kernel
set_option maxHeartbeats 4000000 in
set_option maxRecDepth 100000 in
theorem c_X9_swapFoot (l : Launch) (D : va_G) (ad : Nat → Nat) (cy : Nat → ClassId) (pm : Nat → Nat) (rj : Option Nat) (σ : Nat → Nat → Int32) (xq : Nat → Nat) (hst : l.stackTraces = false) (sz : Nat) (hi : sp_inj ad 459) (id : Int32) (hpm : ∀ j, j < 8 → 1 ≤ pm j ∧ pm j ≤ 8) : vx_Met l yX9_swapFoot wsX9_swapFoot ({ frames := 7, cells := 1, slots := 6, locals := 112 } : Room) (sp_Pmx xq ad 459 D (tyG cy) sz [.ref (ad (429)), .int (id)] (cW ad cy pm rj σ)) (sp_QT (f_xPrint σ id) D (some (.int (b2i (atO (f_findPrint σ id) false (fun k => (f_push σ pm 0) (9 + k) 6 == 0))))) (cW ad cy (pm_push pm) (rj) (atO (f_findPrint σ id) (f_push σ pm 0) (fun k => sp_st (f_push σ pm 0) (9 + k) 6 (b2i ((f_push σ pm 0) (9 + k) 6 == 0))))) (sp_A ad 459 sz)) (sp_XT (f_xPrint σ id) (sp_B D ad cy (pm) (σ) sz rj) (sp_A ad 459 sz)) 1 6 (sp_A ad 459 sz) := by
  refine vx_ofW (cc := cX9_swapFoot) (maxL := 3) (ret := (some .boolean)) (by decide) rfl ?_
  intro p e s m args below meth c s₁ B hml ht hv
  obtain ⟨rfl, hsz, hP, hK, hE⟩ := hv
  have hx := B.exec
  have hb := B.bytes
  have hr := B.returns
  have hts := atoms_spec (ws := wsX9_swapFoot) B.pre
  have hown : s.vm.findClass RX9 = some m.cls := findClass_of_methodNamed B.named
  have hlocks := B.notSynchronized
  subst hsz
  have hlt0 : ∀ k, k < 459 → ad k < s.heap.size := fun k hk => (sp_P_at hP hk).lt
  have hS : va_S (sp_A ad 459 s.heap.size) s.heap s.heap [] := va_S.rf
  have hAk : ∀ k, k < 459 → (sp_A ad 459 s.heap.size) (ad k) := fun k hk => Or.inl ⟨k, hk, rfl⟩
  skip
  have hl := lv_entry ([.ref (ad (429)), .int (id)]) (n := 3) (Nat.le_of_ble_eq_true rfl)
  refine W.eq (lg_entry_eq _ ([.ref (ad (429)), .int (id)]) _) ?_
  generalize (lg_sl ([.ref (ad (429)), .int (id)]) ++ List.replicate (3 - (lg_sl ([.ref (ad (429)), .int (id)])).length) Slot.unset).toArray = ls at hl ⊢
  have hl : lv_has ls 3 [(0, .ref (ad (429))), (1, .int (id))] := hl
  refine lv_aload_n hx hb dX9_swapFoot_0 rfl (lv_at hl 0 rfl) ?_
  refine lv_iload_n hx hb dX9_swapFoot_1 rfl (lv_at hl 1 rfl) ?_
  have hS0_x_1 := hS.1
  refine sp_callx (vx_runV (As := [.int (id)]) (rest := []) ⟨hx, hb, hml, hown, hts⟩ (c_X9_requirePrint l D ad cy pm rj σ xq hst _ hi id) (cwV 1 hts gX9_swapFoot_X9_requirePrint rfl rfl rfl (by decide +kernel) ⟨Nat.le_of_ble_eq_true rfl, Nat.le_of_ble_eq_true rfl⟩) (sp_preVmx hK hP (hE.go hS) (κ := 429) (by decide) cE_sp rfl) rfl rfl hl.1 rfl (lv_room (Nat.le_of_ble_eq_true rfl)) dX9_swapFoot_2 ⟨Nat.le_of_ble_eq_true rfl, Nat.le_of_ble_eq_true rfl⟩) hS (fun q h1 h2 => sp_Alt h1 h2) (sp_Ale hS.1) (fun E_x_1 r_x_1 ce_x_1 q9_x_1 H locs hthr_x_1 hB_x_1 hle hfr hS hce_x_1 hcv_x_1 hcl_x_1 => ?_) (fun hthr_x_1 H locs hP hle hfr hS => ?_)
  · skip
    obtain ⟨rj9, hPx, hN⟩ := hB_x_1
    exact vx_out (fun x hx => (ht x hx).elim) hlocks hce_x_1 hcv_x_1 hcl_x_1 (fun T9 hT9 _ => ⟨r_x_1, show (f_xPrint σ id : XO) = some (E_x_1, r_x_1) from (by first | (simp [Option.or, eIOO, eIAE, eUOE, eNSE, eARE, eISE, hthr_x_1]; done) | (simp only [hthr_x_1]; simp [f_xPrint, f_xNo, Option.or, atO, eIOO, eIAE, eUOE, eNSE, eARE, eISE, hthr_x_1]; done)), by rw [hT9]; exact ⟨rj9, hPx, hN.mono hS0_x_1⟩, hS.F hT9⟩) hS.2.2 (by omega) (by omega)
  · skip
    rcases opt_em (f_findPrint σ id) with q_2 | ⟨j_3, q_2⟩
    · exact absurd hthr_x_1 (by simp [f_xPrint, f_xNo, q_2])
    · have hj_3 := f_findPrint_lt q_2
      refine W.eq (g2 := F0 m 5 ls [.ref (ad (9 + j_3))]) (by rw [q_2]; rfl) ?_
      refine lv_astore_n (lv' := [(2, .ref (ad (9 + j_3))), (0, .ref (ad (429))), (1, .int (id))]) hx hb dX9_swapFoot_5 rfl hl (by decide) rfl (fun ls hl => ?_)
      refine lv_aload_n hx hb dX9_swapFoot_6 rfl (lv_at hl 1 rfl) ?_
      refine sp_get hx hb hts wi_X9_swapFoot_X9 hown hK hP (κ := 429) (by decide) cE_sp rfl 2 (by decide) (hts _ (List.mem_of_getElem? (i := 1) rfl)) (fun _ h => h) rfl dX9_swapFoot_7 ?_
      refine lv_aload_n hx hb dX9_swapFoot_10 rfl (lv_at hl 1 rfl) ?_
      refine sp_get hx hb hts wi_X9_swapFoot_X9 hown hK hP (κ := 429) (by decide) cE_sp rfl 0 (by decide) (hts _ (List.mem_of_getElem? (i := 2) rfl)) (fun _ h => h) rfl dX9_swapFoot_11 ?_
      refine sp_callm (va_runV (As := [.ref (ad (0))]) (rest := []) ⟨hx, hb, hml, hown, hts⟩ (c_X2_push l D ad cy pm rj σ _ hi hpm 0 (by omega)) (cwV 1 hts gX9_swapFoot_X2_push rfl rfl rfl (by decide +kernel) ⟨Nat.le_of_ble_eq_true rfl, Nat.le_of_ble_eq_true rfl⟩) (sp_preVm hK hP (κ := 431) (by decide) cE_hist rfl) rfl rfl hl.1 rfl (lv_room (Nat.le_of_ble_eq_true rfl)) dX9_swapFoot_14 ⟨Nat.le_of_ble_eq_true rfl, Nat.le_of_ble_eq_true rfl⟩) hS (fun q h1 h2 => sp_Alt h1 h2) (sp_Ale hS.1) (fun H locs hP hle hfr hS => ?_)
      refine W.eq (g2 := F0 m 17 ls []) rfl ?_
      refine lv_aload_n hx hb dX9_swapFoot_17 rfl (lv_at hl 0 rfl) ?_
      refine sp_callm (va_runV (As := []) (rest := []) ⟨hx, hb, hml, hown, hts⟩ (c_X3_turnOver l D ad cy (pm_push pm) rj (sp_st (f_copyB σ (pm 7) 0) 431 1 (imin (σ 431 1 + 1) 8)) _ hi j_3 (by omega)) (cwV 0 hts gX9_swapFoot_X3_turnOver rfl rfl rfl (by decide +kernel) ⟨Nat.le_of_ble_eq_true rfl, Nat.le_of_ble_eq_true rfl⟩) (sp_preVm hK hP (κ := 9 + j_3) (by omega) (cE_print (by omega) (by omega)) rfl) rfl rfl hl.1 rfl (lv_room (Nat.le_of_ble_eq_true rfl)) dX9_swapFoot_18 ⟨Nat.le_of_ble_eq_true rfl, Nat.le_of_ble_eq_true rfl⟩) hS (fun q h1 h2 => sp_Alt h1 h2) (sp_Ale hS.1) (fun H locs hP hle hfr hS => ?_)
      refine W.eq (g2 := F0 m 21 ls [.int (b2i ((sp_st (f_copyB σ (pm 7) 0) 431 1 (imin (σ 431 1 + 1) 8)) (9 + j_3) 6 == 0))]) rfl ?_
      have hE9 : cW ad cy (pm_push pm) (rj) (sp_st (sp_st (f_copyB σ (pm 7) 0) 431 1 (imin (σ 431 1 + 1) 8)) (9 + j_3) 6 (b2i ((sp_st (f_copyB σ (pm 7) 0) 431 1 (imin (σ 431 1 + 1) 8)) (9 + j_3) 6 == 0))) = cW ad cy (pm_push pm) (rj) (atO (f_findPrint σ id) (f_push σ pm 0) (fun k => sp_st (f_push σ pm 0) (9 + k) 6 (b2i ((f_push σ pm 0) (9 + k) 6 == 0)))) := by exact cW_eq rfl (by first | rfl | (simp only [atO, f_push, b2i, atO, hthr_x_1, q_2]; done) | (simp [atO, f_push, b2i, atO, hthr_x_1, q_2]; done))
      have hP : va_P D vwCl (cW ad cy (pm_push pm) (rj) (atO (f_findPrint σ id) (f_push σ pm 0) (fun k => sp_st (f_push σ pm 0) (9 + k) 6 (b2i ((f_push σ pm 0) (9 + k) 6 == 0))))) H := by rw [← hE9]; exact hP
      exact vx_ret (W.zret (v := b2i ((sp_st (f_copyB σ (pm 7) 0) 431 1 (imin (σ 431 1 + 1) 8)) (9 + j_3) 6 == 0)) hx hb hr ((nz_of (bz_b2i _)).1) (fun T9 hT9 _ => ⟨show (f_xPrint σ id : XO) = none from (by first | (simp [Option.or, eIOO, eIAE, eUOE, eNSE, eARE, eISE, hthr_x_1, q_2]; done) | (simp only [hthr_x_1]; simp [f_xPrint, f_xNo, Option.or, atO, eIOO, eIAE, eUOE, eNSE, eARE, eISE, hthr_x_1, q_2]; done)), congrArg (fun z9 => Outcome.returned (some (Value.int z9))) (show (b2i ((sp_st (f_copyB σ (pm 7) 0) 431 1 (imin (σ 431 1 + 1) 8)) (9 + j_3) 6 == 0) : Int32) = b2i (atO (f_findPrint σ id) false (fun k => (f_push σ pm 0) (9 + k) 6 == 0)) from (by first | rfl | (simp [atO, f_push, b2i, atO, hthr_x_1, q_2]; done) | (simp [atO, f_push, b2i, atO, hthr_x_1, q_2]; rw [sp_st_k _ _ _ _ _ _ (by omega)]))), by rw [hT9]; exact hP, hS.F hT9⟩) hS.2.2 dX9_swapFoot_21)

theorem wi_X9_doubtToes_X9 : ∀ w ∈ wsX90, w ∈ wsX9_doubtToes := by decide +kernel
set_option maxHeartbeats 4000000 in
set_option maxRecDepth 100000 in
theorem c_X9_doubtToes (l : Launch) (D : va_G) (ad : Nat → Nat) (cy : Nat → ClassId) (pm : Nat → Nat) (rj : Option Nat) (σ : Nat → Nat → Int32) (xq : Nat → Nat) (hst : l.stackTraces = false) (sz : Nat) (hi : sp_inj ad 459) (id : Int32) (hpm : ∀ j, j < 8 → 1 ≤ pm j ∧ pm j ≤ 8) : vx_Met l yX9_doubtToes wsX9_doubtToes ({ frames := 7, cells := 3, slots := 15, locals := 112 } : Room) (sp_Pmx xq ad 459 D (tyG cy) sz [.ref (ad (429)), .int (id)] (cW ad cy pm rj σ)) (sp_QT ((f_xPrint σ id).or (atO (f_findPrint σ id) none (fun k => f_xRej (f_objDoubt σ k)))) D (some (.int (atO (f_findPrint σ id) 0 (fun k => (f_push σ pm 0) (9 + k) 8 + 1)))) (cW ad cy (pm_push pm) (rj) (atO (f_findPrint σ id) (f_push σ pm 0) (fun k => sp_st (f_push σ pm 0) (9 + k) 8 ((f_push σ pm 0) (9 + k) 8 + 1)))) (sp_A ad 459 sz)) (sp_XT ((f_xPrint σ id).or (atO (f_findPrint σ id) none (fun k => f_xRej (f_objDoubt σ k)))) (sp_B D ad cy (pm) (σ) sz rj) (sp_A ad 459 sz)) 3 15 (sp_A ad 459 sz) := by
  refine vx_ofW (cc := cX9_doubtToes) (maxL := 3) (ret := (some .int)) (by decide) rfl ?_
  intro p e s m args below meth c s₁ B hml ht hv
  obtain ⟨rfl, hsz, hP, hK, hE⟩ := hv
  have hx := B.exec
  have hb := B.bytes
  have hr := B.returns
  have hts := atoms_spec (ws := wsX9_doubtToes) B.pre
  have hown : s.vm.findClass RX9 = some m.cls := findClass_of_methodNamed B.named
  have hlocks := B.notSynchronized
  subst hsz
  have hlt0 : ∀ k, k < 459 → ad k < s.heap.size := fun k hk => (sp_P_at hP hk).lt
  have hS : va_S (sp_A ad 459 s.heap.size) s.heap s.heap [] := va_S.rf
  have hAk : ∀ k, k < 459 → (sp_A ad 459 s.heap.size) (ad k) := fun k hk => Or.inl ⟨k, hk, rfl⟩
  skip
  have hl := lv_entry ([.ref (ad (429)), .int (id)]) (n := 3) (Nat.le_of_ble_eq_true rfl)
  refine W.eq (lg_entry_eq _ ([.ref (ad (429)), .int (id)]) _) ?_
  generalize (lg_sl ([.ref (ad (429)), .int (id)]) ++ List.replicate (3 - (lg_sl ([.ref (ad (429)), .int (id)])).length) Slot.unset).toArray = ls at hl ⊢
  have hl : lv_has ls 3 [(0, .ref (ad (429))), (1, .int (id))] := hl
  refine lv_aload_n hx hb dX9_doubtToes_0 rfl (lv_at hl 0 rfl) ?_
  refine lv_iload_n hx hb dX9_doubtToes_1 rfl (lv_at hl 1 rfl) ?_
  have hS0_x_1 := hS.1
  refine sp_callx (vx_runV (As := [.int (id)]) (rest := []) ⟨hx, hb, hml, hown, hts⟩ (c_X9_requirePrint l D ad cy pm rj σ xq hst _ hi id) (cwV 1 hts gX9_doubtToes_X9_requirePrint rfl rfl rfl (by decide +kernel) ⟨Nat.le_of_ble_eq_true rfl, Nat.le_of_ble_eq_true rfl⟩) (sp_preVmx hK hP (hE.go hS) (κ := 429) (by decide) cE_sp rfl) rfl rfl hl.1 rfl (lv_room (Nat.le_of_ble_eq_true rfl)) dX9_doubtToes_2 ⟨Nat.le_of_ble_eq_true rfl, Nat.le_of_ble_eq_true rfl⟩) hS (fun q h1 h2 => sp_Alt h1 h2) (sp_Ale hS.1) (fun E_x_1 r_x_1 ce_x_1 q9_x_1 H locs hthr_x_1 hB_x_1 hle hfr hS hce_x_1 hcv_x_1 hcl_x_1 => ?_) (fun hthr_x_1 H locs hP hle hfr hS => ?_)
  · skip
    obtain ⟨rj9, hPx, hN⟩ := hB_x_1
    exact vx_out (fun x hx => (ht x hx).elim) hlocks hce_x_1 hcv_x_1 hcl_x_1 (fun T9 hT9 _ => ⟨r_x_1, show ((f_xPrint σ id).or (atO (f_findPrint σ id) none (fun k => f_xRej (f_objDoubt σ k))) : XO) = some (E_x_1, r_x_1) from (by first | (simp [Option.or, atO, eIOO, eIAE, eUOE, eNSE, eARE, eISE, hthr_x_1]; done) | (simp only [hthr_x_1]; simp [f_xPrint, f_xNo, f_xRej, atO, Option.or, atO, eIOO, eIAE, eUOE, eNSE, eARE, eISE, hthr_x_1]; done)), by rw [hT9]; exact ⟨rj9, hPx, hN.mono hS0_x_1⟩, hS.F hT9⟩) hS.2.2 (by omega) (by omega)
  · skip
    rcases opt_em (f_findPrint σ id) with q_2 | ⟨j_3, q_2⟩
    · exact absurd hthr_x_1 (by simp [f_xPrint, f_xNo, q_2])
    · have hj_3 := f_findPrint_lt q_2
      refine W.eq (g2 := F0 m 5 ls [.ref (ad (9 + j_3))]) (by rw [q_2]; rfl) ?_
      refine lv_astore_n (lv' := [(2, .ref (ad (9 + j_3))), (0, .ref (ad (429))), (1, .int (id))]) hx hb dX9_doubtToes_5 rfl hl (by decide) rfl (fun ls hl => ?_)
      refine lv_aload_n hx hb dX9_doubtToes_6 rfl (lv_at hl 1 rfl) ?_
      refine lv_aload_n hx hb dX9_doubtToes_7 rfl (lv_at hl 1 rfl) ?_
      refine sp_get hx hb hts wi_X9_doubtToes_X9 hown hK hP (κ := 429) (by decide) cE_sp rfl 0 (by decide) (hts _ (List.mem_of_getElem? (i := 1) rfl)) (fun _ h => h) rfl dX9_doubtToes_8 ?_
      refine lv_aload_n hx hb dX9_doubtToes_11 rfl (lv_at hl 0 rfl) ?_
      have hge0_q_4 := hS.1
      refine sp_callR (va_runV (As := [.ref (ad (9 + j_3))]) (rest := [.ref (ad (429))]) ⟨hx, hb, hml, hown, hts⟩ (c_X0_objectionToDoubt l D ad cy pm rj σ _ j_3 (by omega)) (cwV 1 hts gX9_doubtToes_X0_objectionToDoubt rfl rfl rfl (by decide +kernel) ⟨Nat.le_of_ble_eq_true rfl, Nat.le_of_ble_eq_true rfl⟩) (sp_preVm hK hP (κ := 0) (by omega) (cE_beach (by omega) (by omega)) rfl) rfl rfl hl.1 rfl (lv_room (Nat.le_of_ble_eq_true rfl)) dX9_doubtToes_12 ⟨Nat.le_of_ble_eq_true rfl, Nat.le_of_ble_eq_true rfl⟩) hS (fun z h => Or.inr (Nat.le_trans hS.1 h)) (fun v_5 H locs hle_q_4 hk_q_4 hS => ?_) (fun x1_q_4 x2_q_4 q_4 v_5 hge_q_4 H locs hle_q_4 hk_q_4 hS hat_q_4 => ?_)
      · have hP := sp_P_ext hP hk_q_4
        refine sp_callm (va_runV (As := [.null]) (rest := []) ⟨hx, hb, hml, hown, hts⟩ (c_X9_rejectFor_n l D ad cy pm rj σ _ hi ) (cwV 1 hts gX9_doubtToes_X9_rejectFor rfl rfl rfl (by decide +kernel) ⟨Nat.le_of_ble_eq_true rfl, Nat.le_of_ble_eq_true rfl⟩) (sp_preVm hK hP (κ := 429) (by decide) cE_sp rfl) rfl rfl hl.1 rfl (lv_room (Nat.le_of_ble_eq_true rfl)) dX9_doubtToes_15 ⟨Nat.le_of_ble_eq_true rfl, Nat.le_of_ble_eq_true rfl⟩) hS (fun q h1 h2 => sp_Alt h1 h2) (sp_Ale hS.1) (fun H locs hP hle hfr hS => ?_)
        refine W.eq (g2 := F0 m 18 ls []) rfl ?_
        refine lv_aload_n hx hb dX9_doubtToes_18 rfl (lv_at hl 1 rfl) ?_
        refine sp_get hx hb hts wi_X9_doubtToes_X9 hown hK hP (κ := 429) (by decide) cE_sp rfl 2 (by decide) (hts _ (List.mem_of_getElem? (i := 2) rfl)) (fun _ h => h) rfl dX9_doubtToes_19 ?_
        refine lv_aload_n hx hb dX9_doubtToes_22 rfl (lv_at hl 1 rfl) ?_
        refine sp_get hx hb hts wi_X9_doubtToes_X9 hown hK hP (κ := 429) (by decide) cE_sp rfl 0 (by decide) (hts _ (List.mem_of_getElem? (i := 1) rfl)) (fun _ h => h) rfl dX9_doubtToes_23 ?_
        refine sp_callm (va_runV (As := [.ref (ad (0))]) (rest := []) ⟨hx, hb, hml, hown, hts⟩ (c_X2_push l D ad cy pm rj σ _ hi hpm 0 (by omega)) (cwV 1 hts gX9_doubtToes_X2_push rfl rfl rfl (by decide +kernel) ⟨Nat.le_of_ble_eq_true rfl, Nat.le_of_ble_eq_true rfl⟩) (sp_preVm hK hP (κ := 431) (by decide) cE_hist rfl) rfl rfl hl.1 rfl (lv_room (Nat.le_of_ble_eq_true rfl)) dX9_doubtToes_26 ⟨Nat.le_of_ble_eq_true rfl, Nat.le_of_ble_eq_true rfl⟩) hS (fun q h1 h2 => sp_Alt h1 h2) (sp_Ale hS.1) (fun H locs hP hle hfr hS => ?_)
        refine W.eq (g2 := F0 m 29 ls []) rfl ?_
        refine lv_aload_n hx hb dX9_doubtToes_29 rfl (lv_at hl 0 rfl) ?_
        refine sp_callm (va_runV (As := []) (rest := []) ⟨hx, hb, hml, hown, hts⟩ (c_X3_raiseDoubt l D ad cy (pm_push pm) rj (sp_st (f_copyB σ (pm 7) 0) 431 1 (imin (σ 431 1 + 1) 8)) _ hi j_3 (by omega)) (cwV 0 hts gX9_doubtToes_X3_raiseDoubt rfl rfl rfl (by decide +kernel) ⟨Nat.le_of_ble_eq_true rfl, Nat.le_of_ble_eq_true rfl⟩) (sp_preVm hK hP (κ := 9 + j_3) (by omega) (cE_print (by omega) (by omega)) rfl) rfl rfl hl.1 rfl (lv_room (Nat.le_of_ble_eq_true rfl)) dX9_doubtToes_30 ⟨Nat.le_of_ble_eq_true rfl, Nat.le_of_ble_eq_true rfl⟩) hS (fun q h1 h2 => sp_Alt h1 h2) (sp_Ale hS.1) (fun H locs hP hle hfr hS => ?_)
        refine W.eq (g2 := F0 m 33 ls [.int ((sp_st (f_copyB σ (pm 7) 0) 431 1 (imin (σ 431 1 + 1) 8)) (9 + j_3) 8 + 1)]) rfl ?_
        refine W.widen (k := 3) (n := 15) (by omega) (by omega) ?_
        have hE9 : cW ad cy (pm_push pm) (rj) (sp_st (sp_st (f_copyB σ (pm 7) 0) 431 1 (imin (σ 431 1 + 1) 8)) (9 + j_3) 8 ((sp_st (f_copyB σ (pm 7) 0) 431 1 (imin (σ 431 1 + 1) 8)) (9 + j_3) 8 + 1)) = cW ad cy (pm_push pm) (rj) (atO (f_findPrint σ id) (f_push σ pm 0) (fun k => sp_st (f_push σ pm 0) (9 + k) 8 ((f_push σ pm 0) (9 + k) 8 + 1))) := by exact cW_eq rfl (by first | rfl | (simp only [atO, f_push, b2i, atO, hthr_x_1, q_2, v_5]; done) | (simp [atO, f_push, b2i, atO, hthr_x_1, q_2, v_5]; done))
        have hP : va_P D vwCl (cW ad cy (pm_push pm) (rj) (atO (f_findPrint σ id) (f_push σ pm 0) (fun k => sp_st (f_push σ pm 0) (9 + k) 8 ((f_push σ pm 0) (9 + k) 8 + 1)))) H := by rw [← hE9]; exact hP
        exact vx_ret (W.iret (v := (sp_st (f_copyB σ (pm 7) 0) 431 1 (imin (σ 431 1 + 1) 8)) (9 + j_3) 8 + 1) hx hb hr (fun T9 hT9 _ => ⟨show ((f_xPrint σ id).or (atO (f_findPrint σ id) none (fun k => f_xRej (f_objDoubt σ k))) : XO) = none from (by first | (simp [Option.or, atO, eIOO, eIAE, eUOE, eNSE, eARE, eISE, hthr_x_1, q_2, v_5]; done) | (simp only [hthr_x_1]; simp [f_xPrint, f_xNo, f_xRej, atO, Option.or, atO, eIOO, eIAE, eUOE, eNSE, eARE, eISE, hthr_x_1, q_2, v_5]; done)), congrArg (fun z9 => Outcome.returned (some (Value.int z9))) (show ((sp_st (f_copyB σ (pm 7) 0) 431 1 (imin (σ 431 1 + 1) 8)) (9 + j_3) 8 + 1 : Int32) = atO (f_findPrint σ id) 0 (fun k => (f_push σ pm 0) (9 + k) 8 + 1) from (by first | rfl | (simp [atO, f_push, b2i, atO, hthr_x_1, q_2, v_5]; done) | (simp [atO, f_push, b2i, atO, hthr_x_1, q_2, v_5]; rw [sp_st_k _ _ _ _ _ _ (by omega)]))), by rw [hT9]; exact hP, hS.F hT9⟩) hS.2.2 dX9_doubtToes_33)
      · have hP := sp_P_ext hP hk_q_4
        have hS0_x_6 := hS.1
        refine sp_callx (vx_runV (As := [.ref (q_4)]) (rest := []) ⟨hx, hb, hml, hown, hts⟩ (c_X9_rejectFor_q l D ad cy pm rj σ xq hst _ hi q_4) (cwV 1 hts gX9_doubtToes_X9_rejectFor rfl rfl rfl (by decide +kernel) ⟨Nat.le_of_ble_eq_true rfl, Nat.le_of_ble_eq_true rfl⟩) (sp_preVmx hK hP (hE.go hS) (κ := 429) (by decide) cE_sp rfl) rfl rfl hl.1 rfl (lv_room (Nat.le_of_ble_eq_true rfl)) dX9_doubtToes_15 ⟨Nat.le_of_ble_eq_true rfl, Nat.le_of_ble_eq_true rfl⟩) hS (fun q h1 h2 => sp_Alt h1 h2) (sp_Ale hS.1) (fun E_x_6 r_x_6 ce_x_6 q9_x_6 H locs hthr_x_6 hB_x_6 hle hfr hS hce_x_6 hcv_x_6 hcl_x_6 => ?_) (fun hthr_x_6 H locs hP hle hfr hS => ?_)
        · skip
          have h9 := hthr_x_6
          simp only [Option.some.injEq, Prod.mk.injEq] at h9
          obtain ⟨h91, h92⟩ := h9
          subst h91
          subst h92
          obtain ⟨rj9, hPx, hN⟩ := hB_x_6
          have hN9 : rj9 = some q_4 := hN
          subst hN9
          exact vx_out (fun x hx => (ht x hx).elim) hlocks hce_x_6 hcv_x_6 hcl_x_6 (fun T9 hT9 _ => ⟨some (x1_q_4, x2_q_4, none), show ((f_xPrint σ id).or (atO (f_findPrint σ id) none (fun k => f_xRej (f_objDoubt σ k))) : XO) = some (eUOE, some (x1_q_4, x2_q_4, none)) from (by first | (simp [Option.or, atO, eIOO, eIAE, eUOE, eNSE, eARE, eISE, hthr_x_1, q_2, v_5]; done) | (simp only [hthr_x_1]; simp [f_xPrint, f_xNo, f_xRej, atO, Option.or, atO, eIOO, eIAE, eUOE, eNSE, eARE, eISE, hthr_x_1, q_2, v_5]; done)), by rw [hT9]; exact ⟨some q_4, hPx, ⟨q_4, none, rfl, (Nat.le_trans hge0_q_4 hge_q_4), hat_q_4.kept (hfr q_4 hat_q_4.lt (sp_notA hlt0 (Nat.le_trans hge0_q_4 hge_q_4) hat_q_4.lt)), rfl⟩⟩, hS.F hT9⟩) hS.2.2 (by omega) (by omega)
        · cases hthr_x_6

theorem wi_X9_confirmToes_X9 : ∀ w ∈ wsX90, w ∈ wsX9_confirmToes := by decide +kernel
set_option maxHeartbeats 4000000 in
set_option maxRecDepth 100000 in
theorem c_X9_confirmToes (l : Launch) (D : va_G) (ad : Nat → Nat) (cy : Nat → ClassId) (pm : Nat → Nat) (rj : Option Nat) (σ : Nat → Nat → Int32) (xq : Nat → Nat) (hst : l.stackTraces = false) (sz : Nat) (hi : sp_inj ad 459) (id : Int32) (hpm : ∀ j, j < 8 → 1 ≤ pm j ∧ pm j ≤ 8) : vx_Met l yX9_confirmToes wsX9_confirmToes ({ frames := 7, cells := 3, slots := 15, locals := 112 } : Room) (sp_Pmx xq ad 459 D (tyG cy) sz [.ref (ad (429)), .int (id)] (cW ad cy pm rj σ)) (sp_QT ((f_xPrint σ id).or (atO (f_findPrint σ id) none (fun k => f_xRej (f_objConf σ k)))) D (some (.int (atO (f_findPrint σ id) 0 (fun k => (f_push σ pm 0) (9 + k) 8)))) (cW ad cy (pm_push pm) (rj) (atO (f_findPrint σ id) (f_push σ pm 0) (fun k => sp_st (f_push σ pm 0) (9 + k) 8 0))) (sp_A ad 459 sz)) (sp_XT ((f_xPrint σ id).or (atO (f_findPrint σ id) none (fun k => f_xRej (f_objConf σ k)))) (sp_B D ad cy (pm) (σ) sz rj) (sp_A ad 459 sz)) 3 15 (sp_A ad 459 sz) := by
  refine vx_ofW (cc := cX9_confirmToes) (maxL := 3) (ret := (some .int)) (by decide) rfl ?_
  intro p e s m args below meth c s₁ B hml ht hv
  obtain ⟨rfl, hsz, hP, hK, hE⟩ := hv
  have hx := B.exec
  have hb := B.bytes
  have hr := B.returns
  have hts := atoms_spec (ws := wsX9_confirmToes) B.pre
  have hown : s.vm.findClass RX9 = some m.cls := findClass_of_methodNamed B.named
  have hlocks := B.notSynchronized
  subst hsz
  have hlt0 : ∀ k, k < 459 → ad k < s.heap.size := fun k hk => (sp_P_at hP hk).lt
  have hS : va_S (sp_A ad 459 s.heap.size) s.heap s.heap [] := va_S.rf
  have hAk : ∀ k, k < 459 → (sp_A ad 459 s.heap.size) (ad k) := fun k hk => Or.inl ⟨k, hk, rfl⟩
  skip
  have hl := lv_entry ([.ref (ad (429)), .int (id)]) (n := 3) (Nat.le_of_ble_eq_true rfl)
  refine W.eq (lg_entry_eq _ ([.ref (ad (429)), .int (id)]) _) ?_
  generalize (lg_sl ([.ref (ad (429)), .int (id)]) ++ List.replicate (3 - (lg_sl ([.ref (ad (429)), .int (id)])).length) Slot.unset).toArray = ls at hl ⊢
  have hl : lv_has ls 3 [(0, .ref (ad (429))), (1, .int (id))] := hl
  refine lv_aload_n hx hb dX9_confirmToes_0 rfl (lv_at hl 0 rfl) ?_
  refine lv_iload_n hx hb dX9_confirmToes_1 rfl (lv_at hl 1 rfl) ?_
  have hS0_x_1 := hS.1
  refine sp_callx (vx_runV (As := [.int (id)]) (rest := []) ⟨hx, hb, hml, hown, hts⟩ (c_X9_requirePrint l D ad cy pm rj σ xq hst _ hi id) (cwV 1 hts gX9_confirmToes_X9_requirePrint rfl rfl rfl (by decide +kernel) ⟨Nat.le_of_ble_eq_true rfl, Nat.le_of_ble_eq_true rfl⟩) (sp_preVmx hK hP (hE.go hS) (κ := 429) (by decide) cE_sp rfl) rfl rfl hl.1 rfl (lv_room (Nat.le_of_ble_eq_true rfl)) dX9_confirmToes_2 ⟨Nat.le_of_ble_eq_true rfl, Nat.le_of_ble_eq_true rfl⟩) hS (fun q h1 h2 => sp_Alt h1 h2) (sp_Ale hS.1) (fun E_x_1 r_x_1 ce_x_1 q9_x_1 H locs hthr_x_1 hB_x_1 hle hfr hS hce_x_1 hcv_x_1 hcl_x_1 => ?_) (fun hthr_x_1 H locs hP hle hfr hS => ?_)
  · skip
    obtain ⟨rj9, hPx, hN⟩ := hB_x_1
    exact vx_out (fun x hx => (ht x hx).elim) hlocks hce_x_1 hcv_x_1 hcl_x_1 (fun T9 hT9 _ => ⟨r_x_1, show ((f_xPrint σ id).or (atO (f_findPrint σ id) none (fun k => f_xRej (f_objConf σ k))) : XO) = some (E_x_1, r_x_1) from (by first | (simp [Option.or, atO, eIOO, eIAE, eUOE, eNSE, eARE, eISE, hthr_x_1]; done) | (simp only [hthr_x_1]; simp [f_xPrint, f_xNo, f_xRej, atO, Option.or, atO, eIOO, eIAE, eUOE, eNSE, eARE, eISE, hthr_x_1]; done)), by rw [hT9]; exact ⟨rj9, hPx, hN.mono hS0_x_1⟩, hS.F hT9⟩) hS.2.2 (by omega) (by omega)
  · skip
    rcases opt_em (f_findPrint σ id) with q_2 | ⟨j_3, q_2⟩
    · exact absurd hthr_x_1 (by simp [f_xPrint, f_xNo, q_2])
    · have hj_3 := f_findPrint_lt q_2
      refine W.eq (g2 := F0 m 5 ls [.ref (ad (9 + j_3))]) (by rw [q_2]; rfl) ?_
      refine lv_astore_n (lv' := [(2, .ref (ad (9 + j_3))), (0, .ref (ad (429))), (1, .int (id))]) hx hb dX9_confirmToes_5 rfl hl (by decide) rfl (fun ls hl => ?_)
      refine lv_aload_n hx hb dX9_confirmToes_6 rfl (lv_at hl 1 rfl) ?_
      refine lv_aload_n hx hb dX9_confirmToes_7 rfl (lv_at hl 1 rfl) ?_
      refine sp_get hx hb hts wi_X9_confirmToes_X9 hown hK hP (κ := 429) (by decide) cE_sp rfl 0 (by decide) (hts _ (List.mem_of_getElem? (i := 1) rfl)) (fun _ h => h) rfl dX9_confirmToes_8 ?_
      refine lv_aload_n hx hb dX9_confirmToes_11 rfl (lv_at hl 0 rfl) ?_
      have hge0_q_4 := hS.1
      refine sp_callR (va_runV (As := [.ref (ad (9 + j_3))]) (rest := [.ref (ad (429))]) ⟨hx, hb, hml, hown, hts⟩ (c_X0_objectionToConfirmation l D ad cy pm rj σ _ j_3 (by omega)) (cwV 1 hts gX9_confirmToes_X0_objectionToConfirmation rfl rfl rfl (by decide +kernel) ⟨Nat.le_of_ble_eq_true rfl, Nat.le_of_ble_eq_true rfl⟩) (sp_preVm hK hP (κ := 0) (by omega) (cE_beach (by omega) (by omega)) rfl) rfl rfl hl.1 rfl (lv_room (Nat.le_of_ble_eq_true rfl)) dX9_confirmToes_12 ⟨Nat.le_of_ble_eq_true rfl, Nat.le_of_ble_eq_true rfl⟩) hS (fun z h => Or.inr (Nat.le_trans hS.1 h)) (fun v_5 H locs hle_q_4 hk_q_4 hS => ?_) (fun x1_q_4 x2_q_4 q_4 v_5 hge_q_4 H locs hle_q_4 hk_q_4 hS hat_q_4 => ?_)
      · have hP := sp_P_ext hP hk_q_4
        refine sp_callm (va_runV (As := [.null]) (rest := []) ⟨hx, hb, hml, hown, hts⟩ (c_X9_rejectFor_n l D ad cy pm rj σ _ hi ) (cwV 1 hts gX9_confirmToes_X9_rejectFor rfl rfl rfl (by decide +kernel) ⟨Nat.le_of_ble_eq_true rfl, Nat.le_of_ble_eq_true rfl⟩) (sp_preVm hK hP (κ := 429) (by decide) cE_sp rfl) rfl rfl hl.1 rfl (lv_room (Nat.le_of_ble_eq_true rfl)) dX9_confirmToes_15 ⟨Nat.le_of_ble_eq_true rfl, Nat.le_of_ble_eq_true rfl⟩) hS (fun q h1 h2 => sp_Alt h1 h2) (sp_Ale hS.1) (fun H locs hP hle hfr hS => ?_)
        refine W.eq (g2 := F0 m 18 ls []) rfl ?_
        refine lv_aload_n hx hb dX9_confirmToes_18 rfl (lv_at hl 1 rfl) ?_
        refine sp_get hx hb hts wi_X9_confirmToes_X9 hown hK hP (κ := 429) (by decide) cE_sp rfl 2 (by decide) (hts _ (List.mem_of_getElem? (i := 2) rfl)) (fun _ h => h) rfl dX9_confirmToes_19 ?_
        refine lv_aload_n hx hb dX9_confirmToes_22 rfl (lv_at hl 1 rfl) ?_
        refine sp_get hx hb hts wi_X9_confirmToes_X9 hown hK hP (κ := 429) (by decide) cE_sp rfl 0 (by decide) (hts _ (List.mem_of_getElem? (i := 1) rfl)) (fun _ h => h) rfl dX9_confirmToes_23 ?_
        refine sp_callm (va_runV (As := [.ref (ad (0))]) (rest := []) ⟨hx, hb, hml, hown, hts⟩ (c_X2_push l D ad cy pm rj σ _ hi hpm 0 (by omega)) (cwV 1 hts gX9_confirmToes_X2_push rfl rfl rfl (by decide +kernel) ⟨Nat.le_of_ble_eq_true rfl, Nat.le_of_ble_eq_true rfl⟩) (sp_preVm hK hP (κ := 431) (by decide) cE_hist rfl) rfl rfl hl.1 rfl (lv_room (Nat.le_of_ble_eq_true rfl)) dX9_confirmToes_26 ⟨Nat.le_of_ble_eq_true rfl, Nat.le_of_ble_eq_true rfl⟩) hS (fun q h1 h2 => sp_Alt h1 h2) (sp_Ale hS.1) (fun H locs hP hle hfr hS => ?_)
        refine W.eq (g2 := F0 m 29 ls []) rfl ?_
        refine lv_aload_n hx hb dX9_confirmToes_29 rfl (lv_at hl 0 rfl) ?_
        refine sp_callm (va_runV (As := []) (rest := []) ⟨hx, hb, hml, hown, hts⟩ (c_X3_settleDoubts l D ad cy (pm_push pm) rj (sp_st (f_copyB σ (pm 7) 0) 431 1 (imin (σ 431 1 + 1) 8)) _ hi j_3 (by omega)) (cwV 0 hts gX9_confirmToes_X3_settleDoubts rfl rfl rfl (by decide +kernel) ⟨Nat.le_of_ble_eq_true rfl, Nat.le_of_ble_eq_true rfl⟩) (sp_preVm hK hP (κ := 9 + j_3) (by omega) (cE_print (by omega) (by omega)) rfl) rfl rfl hl.1 rfl (lv_room (Nat.le_of_ble_eq_true rfl)) dX9_confirmToes_30 ⟨Nat.le_of_ble_eq_true rfl, Nat.le_of_ble_eq_true rfl⟩) hS (fun q h1 h2 => sp_Alt h1 h2) (sp_Ale hS.1) (fun H locs hP hle hfr hS => ?_)
        refine W.eq (g2 := F0 m 33 ls [.int ((sp_st (f_copyB σ (pm 7) 0) 431 1 (imin (σ 431 1 + 1) 8)) (9 + j_3) 8)]) rfl ?_
        refine W.widen (k := 3) (n := 15) (by omega) (by omega) ?_
        have hE9 : cW ad cy (pm_push pm) (rj) (sp_st (sp_st (f_copyB σ (pm 7) 0) 431 1 (imin (σ 431 1 + 1) 8)) (9 + j_3) 8 0) = cW ad cy (pm_push pm) (rj) (atO (f_findPrint σ id) (f_push σ pm 0) (fun k => sp_st (f_push σ pm 0) (9 + k) 8 0)) := by exact cW_eq rfl (by first | rfl | (simp only [atO, f_push, b2i, atO, hthr_x_1, q_2, v_5]; done) | (simp [atO, f_push, b2i, atO, hthr_x_1, q_2, v_5]; done))
        have hP : va_P D vwCl (cW ad cy (pm_push pm) (rj) (atO (f_findPrint σ id) (f_push σ pm 0) (fun k => sp_st (f_push σ pm 0) (9 + k) 8 0))) H := by rw [← hE9]; exact hP
        exact vx_ret (W.iret (v := (sp_st (f_copyB σ (pm 7) 0) 431 1 (imin (σ 431 1 + 1) 8)) (9 + j_3) 8) hx hb hr (fun T9 hT9 _ => ⟨show ((f_xPrint σ id).or (atO (f_findPrint σ id) none (fun k => f_xRej (f_objConf σ k))) : XO) = none from (by first | (simp [Option.or, atO, eIOO, eIAE, eUOE, eNSE, eARE, eISE, hthr_x_1, q_2, v_5]; done) | (simp only [hthr_x_1]; simp [f_xPrint, f_xNo, f_xRej, atO, Option.or, atO, eIOO, eIAE, eUOE, eNSE, eARE, eISE, hthr_x_1, q_2, v_5]; done)), congrArg (fun z9 => Outcome.returned (some (Value.int z9))) (show ((sp_st (f_copyB σ (pm 7) 0) 431 1 (imin (σ 431 1 + 1) 8)) (9 + j_3) 8 : Int32) = atO (f_findPrint σ id) 0 (fun k => (f_push σ pm 0) (9 + k) 8) from (by first | rfl | (simp [atO, f_push, b2i, atO, hthr_x_1, q_2, v_5]; done) | (simp [atO, f_push, b2i, atO, hthr_x_1, q_2, v_5]; rw [sp_st_k _ _ _ _ _ _ (by omega)]))), by rw [hT9]; exact hP, hS.F hT9⟩) hS.2.2 dX9_confirmToes_33)
      · have hP := sp_P_ext hP hk_q_4
        have hS0_x_6 := hS.1
        refine sp_callx (vx_runV (As := [.ref (q_4)]) (rest := []) ⟨hx, hb, hml, hown, hts⟩ (c_X9_rejectFor_q l D ad cy pm rj σ xq hst _ hi q_4) (cwV 1 hts gX9_confirmToes_X9_rejectFor rfl rfl rfl (by decide +kernel) ⟨Nat.le_of_ble_eq_true rfl, Nat.le_of_ble_eq_true rfl⟩) (sp_preVmx hK hP (hE.go hS) (κ := 429) (by decide) cE_sp rfl) rfl rfl hl.1 rfl (lv_room (Nat.le_of_ble_eq_true rfl)) dX9_confirmToes_15 ⟨Nat.le_of_ble_eq_true rfl, Nat.le_of_ble_eq_true rfl⟩) hS (fun q h1 h2 => sp_Alt h1 h2) (sp_Ale hS.1) (fun E_x_6 r_x_6 ce_x_6 q9_x_6 H locs hthr_x_6 hB_x_6 hle hfr hS hce_x_6 hcv_x_6 hcl_x_6 => ?_) (fun hthr_x_6 H locs hP hle hfr hS => ?_)
        · skip
          have h9 := hthr_x_6
          simp only [Option.some.injEq, Prod.mk.injEq] at h9
          obtain ⟨h91, h92⟩ := h9
          subst h91
          subst h92
          obtain ⟨rj9, hPx, hN⟩ := hB_x_6
          have hN9 : rj9 = some q_4 := hN
          subst hN9
          exact vx_out (fun x hx => (ht x hx).elim) hlocks hce_x_6 hcv_x_6 hcl_x_6 (fun T9 hT9 _ => ⟨some (x1_q_4, x2_q_4, none), show ((f_xPrint σ id).or (atO (f_findPrint σ id) none (fun k => f_xRej (f_objConf σ k))) : XO) = some (eUOE, some (x1_q_4, x2_q_4, none)) from (by first | (simp [Option.or, atO, eIOO, eIAE, eUOE, eNSE, eARE, eISE, hthr_x_1, q_2, v_5]; done) | (simp only [hthr_x_1]; simp [f_xPrint, f_xNo, f_xRej, atO, Option.or, atO, eIOO, eIAE, eUOE, eNSE, eARE, eISE, hthr_x_1, q_2, v_5]; done)), by rw [hT9]; exact ⟨some q_4, hPx, ⟨q_4, none, rfl, (Nat.le_trans hge0_q_4 hge_q_4), hat_q_4.kept (hfr q_4 hat_q_4.lt (sp_notA hlt0 (Nat.le_trans hge0_q_4 hge_q_4) hat_q_4.lt)), rfl⟩⟩, hS.F hT9⟩) hS.2.2 (by omega) (by omega)
        · cases hthr_x_6

theorem wi_X9_setTide_X9 : ∀ w ∈ wsX90, w ∈ wsX9_setTide := by decide +kernel
set_option maxHeartbeats 4000000 in
set_option maxRecDepth 100000 in
theorem c_X9_setTide (l : Launch) (D : va_G) (ad : Nat → Nat) (cy : Nat → ClassId) (pm : Nat → Nat) (rj : Option Nat) (σ : Nat → Nat → Int32) (xq : Nat → Nat) (hst : l.stackTraces = false) (sz : Nat) (hi : sp_inj ad 459) (v : Int32) (hpm : ∀ j, j < 8 → 1 ≤ pm j ∧ pm j ≤ 8) : vx_Met l yX9_setTide wsX9_setTide ({ frames := 7, cells := 3, slots := 15, locals := 111 } : Room) (sp_Pmx xq ad 459 D (tyG cy) sz [.ref (ad (429)), .int (v)] (cW ad cy pm rj σ)) (sp_QT ((f_xLevel v).or (f_xRej (f_objTide σ v))) D (some (.int (f_below (f_push σ pm 0) v))) (cW ad cy (pm_push pm) (rj) (f_tide (f_push σ pm 0) v)) (sp_A ad 459 sz)) (sp_XT ((f_xLevel v).or (f_xRej (f_objTide σ v))) (sp_B D ad cy (pm) (σ) sz rj) (sp_A ad 459 sz)) 3 15 (sp_A ad 459 sz) := by
  refine vx_ofW (cc := cX9_setTide) (maxL := 2) (ret := (some .int)) (by decide) rfl ?_
  intro p e s m args below meth c s₁ B hml ht hv
  obtain ⟨rfl, hsz, hP, hK, hE⟩ := hv
  have hx := B.exec
  have hb := B.bytes
  have hr := B.returns
  have hts := atoms_spec (ws := wsX9_setTide) B.pre
  have hown : s.vm.findClass RX9 = some m.cls := findClass_of_methodNamed B.named
  have hlocks := B.notSynchronized
  subst hsz
  have hlt0 : ∀ k, k < 459 → ad k < s.heap.size := fun k hk => (sp_P_at hP hk).lt
  have hS : va_S (sp_A ad 459 s.heap.size) s.heap s.heap [] := va_S.rf
  have hAk : ∀ k, k < 459 → (sp_A ad 459 s.heap.size) (ad k) := fun k hk => Or.inl ⟨k, hk, rfl⟩
  skip
  have hl := lv_entry ([.ref (ad (429)), .int (v)]) (n := 2) (Nat.le_of_ble_eq_true rfl)
  refine W.eq (lg_entry_eq _ ([.ref (ad (429)), .int (v)]) _) ?_
  generalize (lg_sl ([.ref (ad (429)), .int (v)]) ++ List.replicate (2 - (lg_sl ([.ref (ad (429)), .int (v)])).length) Slot.unset).toArray = ls at hl ⊢
  have hl : lv_has ls 2 [(0, .ref (ad (429))), (1, .int (v))] := hl
  refine lv_iload_n hx hb dX9_setTide_0 rfl (lv_at hl 1 rfl) ?_
  have hS0_x_1 := hS.1
  refine sp_callx (vx_runS (As := [.int (v)]) (rest := []) ⟨hx, hb, hml, hown, hts⟩ (c_X9_requireLevel l D ad cy pm rj σ xq hst _ hi v) (va_cwS 1 hts gX9_setTide_X9_requireLevel rfl rfl rfl (by decide +kernel) ⟨Nat.le_of_ble_eq_true rfl, Nat.le_of_ble_eq_true rfl⟩) (sp_preSmx hK hP (hE.go hS)) rfl rfl hl.1 rfl (lv_room (Nat.le_of_ble_eq_true rfl)) dX9_setTide_1 ⟨Nat.le_of_ble_eq_true rfl, Nat.le_of_ble_eq_true rfl⟩) hS (fun q h1 h2 => sp_Alt h1 h2) (sp_Ale hS.1) (fun E_x_1 r_x_1 ce_x_1 q9_x_1 H locs hthr_x_1 hB_x_1 hle hfr hS hce_x_1 hcv_x_1 hcl_x_1 => ?_) (fun hthr_x_1 H locs hP hle hfr hS => ?_)
  · skip
    obtain ⟨rj9, hPx, hN⟩ := hB_x_1
    exact vx_out (fun x hx => (ht x hx).elim) hlocks hce_x_1 hcv_x_1 hcl_x_1 (fun T9 hT9 _ => ⟨r_x_1, show ((f_xLevel v).or (f_xRej (f_objTide σ v)) : XO) = some (E_x_1, r_x_1) from (by first | (simp [Option.or, eIOO, eIAE, eUOE, eNSE, eARE, eISE, hthr_x_1]; done) | (simp only [hthr_x_1]; simp [f_xLevel, f_xRej, Option.or, atO, eIOO, eIAE, eUOE, eNSE, eARE, eISE, hthr_x_1]; done)), by rw [hT9]; exact ⟨rj9, hPx, hN.mono hS0_x_1⟩, hS.F hT9⟩) hS.2.2 (by omega) (by omega)
  · skip
    refine W.eq (g2 := F0 m 4 ls []) rfl ?_
    refine lv_aload_n hx hb dX9_setTide_4 rfl (lv_at hl 0 rfl) ?_
    refine lv_aload_n hx hb dX9_setTide_5 rfl (lv_at hl 0 rfl) ?_
    refine sp_get hx hb hts wi_X9_setTide_X9 hown hK hP (κ := 429) (by decide) cE_sp rfl 0 (by decide) (hts _ (List.mem_of_getElem? (i := 1) rfl)) (fun _ h => h) rfl dX9_setTide_6 ?_
    refine lv_iload_n hx hb dX9_setTide_9 rfl (lv_at hl 1 rfl) ?_
    have hge0_q_2 := hS.1
    refine sp_callR (va_runV (As := [.int (v)]) (rest := [.ref (ad (429))]) ⟨hx, hb, hml, hown, hts⟩ (c_X0_objectionToTide l D ad cy pm rj σ _ v) (cwV 1 hts gX9_setTide_X0_objectionToTide rfl rfl rfl (by decide +kernel) ⟨Nat.le_of_ble_eq_true rfl, Nat.le_of_ble_eq_true rfl⟩) (sp_preVm hK hP (κ := 0) (by omega) (cE_beach (by omega) (by omega)) rfl) rfl rfl hl.1 rfl (lv_room (Nat.le_of_ble_eq_true rfl)) dX9_setTide_10 ⟨Nat.le_of_ble_eq_true rfl, Nat.le_of_ble_eq_true rfl⟩) hS (fun z h => Or.inr (Nat.le_trans hS.1 h)) (fun v_3 H locs hle_q_2 hk_q_2 hS => ?_) (fun x1_q_2 x2_q_2 q_2 v_3 hge_q_2 H locs hle_q_2 hk_q_2 hS hat_q_2 => ?_)
    · have hP := sp_P_ext hP hk_q_2
      refine sp_callm (va_runV (As := [.null]) (rest := []) ⟨hx, hb, hml, hown, hts⟩ (c_X9_rejectFor_n l D ad cy pm rj σ _ hi ) (cwV 1 hts gX9_setTide_X9_rejectFor rfl rfl rfl (by decide +kernel) ⟨Nat.le_of_ble_eq_true rfl, Nat.le_of_ble_eq_true rfl⟩) (sp_preVm hK hP (κ := 429) (by decide) cE_sp rfl) rfl rfl hl.1 rfl (lv_room (Nat.le_of_ble_eq_true rfl)) dX9_setTide_13 ⟨Nat.le_of_ble_eq_true rfl, Nat.le_of_ble_eq_true rfl⟩) hS (fun q h1 h2 => sp_Alt h1 h2) (sp_Ale hS.1) (fun H locs hP hle hfr hS => ?_)
      refine W.eq (g2 := F0 m 16 ls []) rfl ?_
      refine lv_aload_n hx hb dX9_setTide_16 rfl (lv_at hl 0 rfl) ?_
      refine sp_get hx hb hts wi_X9_setTide_X9 hown hK hP (κ := 429) (by decide) cE_sp rfl 2 (by decide) (hts _ (List.mem_of_getElem? (i := 2) rfl)) (fun _ h => h) rfl dX9_setTide_17 ?_
      refine lv_aload_n hx hb dX9_setTide_20 rfl (lv_at hl 0 rfl) ?_
      refine sp_get hx hb hts wi_X9_setTide_X9 hown hK hP (κ := 429) (by decide) cE_sp rfl 0 (by decide) (hts _ (List.mem_of_getElem? (i := 1) rfl)) (fun _ h => h) rfl dX9_setTide_21 ?_
      refine sp_callm (va_runV (As := [.ref (ad (0))]) (rest := []) ⟨hx, hb, hml, hown, hts⟩ (c_X2_push l D ad cy pm rj σ _ hi hpm 0 (by omega)) (cwV 1 hts gX9_setTide_X2_push rfl rfl rfl (by decide +kernel) ⟨Nat.le_of_ble_eq_true rfl, Nat.le_of_ble_eq_true rfl⟩) (sp_preVm hK hP (κ := 431) (by decide) cE_hist rfl) rfl rfl hl.1 rfl (lv_room (Nat.le_of_ble_eq_true rfl)) dX9_setTide_24 ⟨Nat.le_of_ble_eq_true rfl, Nat.le_of_ble_eq_true rfl⟩) hS (fun q h1 h2 => sp_Alt h1 h2) (sp_Ale hS.1) (fun H locs hP hle hfr hS => ?_)
      refine W.eq (g2 := F0 m 27 ls []) rfl ?_
      refine lv_aload_n hx hb dX9_setTide_27 rfl (lv_at hl 0 rfl) ?_
      refine sp_get hx hb hts wi_X9_setTide_X9 hown hK hP (κ := 429) (by decide) cE_sp rfl 0 (by decide) (hts _ (List.mem_of_getElem? (i := 1) rfl)) (fun _ h => h) rfl dX9_setTide_28 ?_
      refine lv_iload_n hx hb dX9_setTide_31 rfl (lv_at hl 1 rfl) ?_
      refine sp_callm (va_runV (As := [.int (v)]) (rest := []) ⟨hx, hb, hml, hown, hts⟩ (c_X0_moveTide l D ad cy (pm_push pm) rj (sp_st (f_copyB σ (pm 7) 0) 431 1 (imin (σ 431 1 + 1) 8)) _ hi v) (cwV 1 hts gX9_setTide_X0_moveTide rfl rfl rfl (by decide +kernel) ⟨Nat.le_of_ble_eq_true rfl, Nat.le_of_ble_eq_true rfl⟩) (sp_preVm hK hP (κ := 0) (by omega) (cE_beach (by omega) (by omega)) rfl) rfl rfl hl.1 rfl (lv_room (Nat.le_of_ble_eq_true rfl)) dX9_setTide_32 ⟨Nat.le_of_ble_eq_true rfl, Nat.le_of_ble_eq_true rfl⟩) hS (fun q h1 h2 => sp_Alt h1 h2) (sp_Ale hS.1) (fun H locs hP hle hfr hS => ?_)
      refine W.eq (g2 := F0 m 35 ls [.int (f_below (sp_st (f_copyB σ (pm 7) 0) 431 1 (imin (σ 431 1 + 1) 8)) v)]) rfl ?_
      refine W.widen (k := 3) (n := 15) (by omega) (by omega) ?_
      have hE9 : cW ad cy (pm_push pm) (rj) (sp_st (f_tideP (sp_st (f_copyB σ (pm 7) 0) 431 1 (imin (σ 431 1 + 1) 8)) v 30) 0 5 ((sp_st (f_copyB σ (pm 7) 0) 431 1 (imin (σ 431 1 + 1) 8)) 0 5 + f_below (sp_st (f_copyB σ (pm 7) 0) 431 1 (imin (σ 431 1 + 1) 8)) v)) = cW ad cy (pm_push pm) (rj) (f_tide (f_push σ pm 0) v) := by exact cW_eq rfl (by first | rfl | (simp only [atO, f_push, b2i, atO, hthr_x_1, v_3]; done) | (simp [atO, f_push, b2i, atO, hthr_x_1, v_3]; done))
      have hP : va_P D vwCl (cW ad cy (pm_push pm) (rj) (f_tide (f_push σ pm 0) v)) H := by rw [← hE9]; exact hP
      exact vx_ret (W.iret (v := f_below (sp_st (f_copyB σ (pm 7) 0) 431 1 (imin (σ 431 1 + 1) 8)) v) hx hb hr (fun T9 hT9 _ => ⟨show ((f_xLevel v).or (f_xRej (f_objTide σ v)) : XO) = none from (by first | (simp [Option.or, eIOO, eIAE, eUOE, eNSE, eARE, eISE, hthr_x_1, v_3]; done) | (simp only [hthr_x_1]; simp [f_xLevel, f_xRej, Option.or, atO, eIOO, eIAE, eUOE, eNSE, eARE, eISE, hthr_x_1, v_3]; done)), congrArg (fun z9 => Outcome.returned (some (Value.int z9))) (show (f_below (sp_st (f_copyB σ (pm 7) 0) 431 1 (imin (σ 431 1 + 1) 8)) v : Int32) = f_below (f_push σ pm 0) v from (by first | rfl | (simp [atO, f_push, b2i, atO, hthr_x_1, v_3]; done) | (simp [atO, f_push, b2i, atO, hthr_x_1, v_3]; rw [sp_st_k _ _ _ _ _ _ (by omega)]))), by rw [hT9]; exact hP, hS.F hT9⟩) hS.2.2 dX9_setTide_35)
    · have hP := sp_P_ext hP hk_q_2
      have hS0_x_4 := hS.1
      refine sp_callx (vx_runV (As := [.ref (q_2)]) (rest := []) ⟨hx, hb, hml, hown, hts⟩ (c_X9_rejectFor_q l D ad cy pm rj σ xq hst _ hi q_2) (cwV 1 hts gX9_setTide_X9_rejectFor rfl rfl rfl (by decide +kernel) ⟨Nat.le_of_ble_eq_true rfl, Nat.le_of_ble_eq_true rfl⟩) (sp_preVmx hK hP (hE.go hS) (κ := 429) (by decide) cE_sp rfl) rfl rfl hl.1 rfl (lv_room (Nat.le_of_ble_eq_true rfl)) dX9_setTide_13 ⟨Nat.le_of_ble_eq_true rfl, Nat.le_of_ble_eq_true rfl⟩) hS (fun q h1 h2 => sp_Alt h1 h2) (sp_Ale hS.1) (fun E_x_4 r_x_4 ce_x_4 q9_x_4 H locs hthr_x_4 hB_x_4 hle hfr hS hce_x_4 hcv_x_4 hcl_x_4 => ?_) (fun hthr_x_4 H locs hP hle hfr hS => ?_)
      · skip
        have h9 := hthr_x_4
        simp only [Option.some.injEq, Prod.mk.injEq] at h9
        obtain ⟨h91, h92⟩ := h9
        subst h91
        subst h92
        obtain ⟨rj9, hPx, hN⟩ := hB_x_4
        have hN9 : rj9 = some q_2 := hN
        subst hN9
        exact vx_out (fun x hx => (ht x hx).elim) hlocks hce_x_4 hcv_x_4 hcl_x_4 (fun T9 hT9 _ => ⟨some (x1_q_2, x2_q_2, none), show ((f_xLevel v).or (f_xRej (f_objTide σ v)) : XO) = some (eUOE, some (x1_q_2, x2_q_2, none)) from (by first | (simp [Option.or, eIOO, eIAE, eUOE, eNSE, eARE, eISE, hthr_x_1, v_3]; done) | (simp only [hthr_x_1]; simp [f_xLevel, f_xRej, Option.or, atO, eIOO, eIAE, eUOE, eNSE, eARE, eISE, hthr_x_1, v_3]; done)), by rw [hT9]; exact ⟨some q_2, hPx, ⟨q_2, none, rfl, (Nat.le_trans hge0_q_2 hge_q_2), hat_q_2.kept (hfr q_2 hat_q_2.lt (sp_notA hlt0 (Nat.le_trans hge0_q_2 hge_q_2) hat_q_2.lt)), rfl⟩⟩, hS.F hT9⟩) hS.2.2 (by omega) (by omega)
      · cases hthr_x_4

theorem wi_X9_outputAt_X9 : ∀ w ∈ wsX90, w ∈ wsX9_outputAt := by decide +kernel
set_option maxHeartbeats 4000000 in
set_option maxRecDepth 100000 in
theorem c_X9_outputAt (l : Launch) (D : va_G) (ad : Nat → Nat) (cy : Nat → ClassId) (pm : Nat → Nat) (rj : Option Nat) (σ : Nat → Nat → Int32) (xq : Nat → Nat) (hst : l.stackTraces = false) (sz : Nat) (hi : sp_inj ad 459) (i : Int32) : vx_Met l yX9_outputAt wsX9_outputAt ({ frames := 6, cells := 1, slots := 6, locals := 90 } : Room) (sp_Pmx xq ad 459 D (tyG cy) sz [.ref (ad (429)), .int (i)] (cW ad cy pm rj σ)) (sp_QT (f_xOut (f_reachO σ i)) D (some (.int (f_signO σ i))) (cW ad cy (pm) (rj) (σ)) (sp_A ad 459 sz)) (sp_XT (f_xOut (f_reachO σ i)) (sp_B D ad cy (pm) (σ) sz rj) (sp_A ad 459 sz)) 1 6 (sp_A ad 459 sz) := by
  refine vx_ofW (cc := cX9_outputAt) (maxL := 2) (ret := (some .char)) (by decide) rfl ?_
  intro p e s m args below meth c s₁ B hml ht hv
  obtain ⟨rfl, hsz, hP, hK, hE⟩ := hv
  have hx := B.exec
  have hb := B.bytes
  have hr := B.returns
  have hts := atoms_spec (ws := wsX9_outputAt) B.pre
  have hown : s.vm.findClass RX9 = some m.cls := findClass_of_methodNamed B.named
  have hlocks := B.notSynchronized
  subst hsz
  have hlt0 : ∀ k, k < 459 → ad k < s.heap.size := fun k hk => (sp_P_at hP hk).lt
  have hS : va_S (sp_A ad 459 s.heap.size) s.heap s.heap [] := va_S.rf
  have hAk : ∀ k, k < 459 → (sp_A ad 459 s.heap.size) (ad k) := fun k hk => Or.inl ⟨k, hk, rfl⟩
  skip
  have hl := lv_entry ([.ref (ad (429)), .int (i)]) (n := 2) (Nat.le_of_ble_eq_true rfl)
  refine W.eq (lg_entry_eq _ ([.ref (ad (429)), .int (i)]) _) ?_
  generalize (lg_sl ([.ref (ad (429)), .int (i)]) ++ List.replicate (2 - (lg_sl ([.ref (ad (429)), .int (i)])).length) Slot.unset).toArray = ls at hl ⊢
  have hl : lv_has ls 2 [(0, .ref (ad (429))), (1, .int (i))] := hl
  refine lv_aload_n hx hb dX9_outputAt_0 rfl (lv_at hl 0 rfl) ?_
  refine sp_get hx hb hts wi_X9_outputAt_X9 hown hK hP (κ := 429) (by decide) cE_sp rfl 7 (by decide) (hts _ (List.mem_of_getElem? (i := 3) rfl)) (fun _ h => h) rfl dX9_outputAt_1 ?_
  refine lv_iload_n hx hb dX9_outputAt_4 rfl (lv_at hl 1 rfl) ?_
  refine sp_call (W.runV (As := [.int (i)]) (rest := []) ⟨hx, hb, hml, hown, hts⟩ (c_X7_reaches_436 l D ad cy pm rj σ i) (cwV 1 hts gX9_outputAt_X7_reaches rfl rfl rfl (by decide +kernel) ⟨Nat.le_of_ble_eq_true rfl, Nat.le_of_ble_eq_true rfl⟩) (sp_preV hK hP (κ := 436) (by decide) cE_out rfl) rfl rfl hl.1 rfl (lv_room (Nat.le_of_ble_eq_true rfl)) dX9_outputAt_5 ⟨Nat.le_of_ble_eq_true rfl, Nat.le_of_ble_eq_true rfl⟩) ?_
  refine W.eq (g2 := F0 m 8 ls [.int (b2i (f_reachO σ i))]) rfl ?_
  refine lv_if_ne (tgt := 22) hx hb dX9_outputAt_8 (by decide) (fun c_1 => ?_) (fun c_1 => ?_)
  · rw [b2i_eq0] at c_1
    refine lv_aload_n hx hb dX9_outputAt_22 rfl (lv_at hl 0 rfl) ?_
    refine sp_get hx hb hts wi_X9_outputAt_X9 hown hK hP (κ := 429) (by decide) cE_sp rfl 7 (by decide) (hts _ (List.mem_of_getElem? (i := 3) rfl)) (fun _ h => h) rfl dX9_outputAt_23 ?_
    refine lv_iload_n hx hb dX9_outputAt_26 rfl (lv_at hl 1 rfl) ?_
    refine sp_call (W.runV (As := [.int (i)]) (rest := []) ⟨hx, hb, hml, hown, hts⟩ (c_X7_signAt_436 l D ad cy pm rj σ i) (cwV 1 hts gX9_outputAt_X7_signAt rfl rfl rfl (by decide +kernel) ⟨Nat.le_of_ble_eq_true rfl, Nat.le_of_ble_eq_true rfl⟩) (sp_preV hK hP (κ := 436) (by decide) cE_out rfl) rfl rfl hl.1 rfl (lv_room (Nat.le_of_ble_eq_true rfl)) dX9_outputAt_27 ⟨Nat.le_of_ble_eq_true rfl, Nat.le_of_ble_eq_true rfl⟩) ?_
    refine W.eq (g2 := F0 m 30 ls [.int (f_signO σ i)]) rfl ?_
    refine W.widen (k := 1) (n := 6) (by omega) (by omega) ?_
    exact vx_ret (W.zret (v := f_signO σ i) hx hb hr (nar_cz (f_signO_cz _ _)) (fun T9 hT9 _ => ⟨show (f_xOut (f_reachO σ i) : XO) = none from (by first | (simp [Option.or, eIOO, eIAE, eUOE, eNSE, eARE, eISE, c_1]; done) | (simp [f_xOut, eIOO, eIAE, eUOE, eNSE, eARE, eISE, c_1]; done)), congrArg (fun z9 => Outcome.returned (some (Value.int z9))) (show (f_signO σ i : Int32) = f_signO σ i from (by first | rfl | (simp [b2i, c_1]; done))), by rw [hT9]; exact hP, hS.F hT9⟩) hS.2.2 dX9_outputAt_30)
  · rw [b2i_eq0] at c_1
    refine vx_throwSW (names := ["java/lang/RuntimeException", "java/lang/Exception"]) (sa := xq 17) hx hb hst hown (by decide +kernel) (by decide +kernel) (hts _ (List.mem_of_getElem? (i := 1) rfl)) (hts _ (List.mem_of_getElem? (i := 2) rfl)) hE.t17 (vx_hat (fun w hw => hts w (List.mem_cons_of_mem _ (List.mem_append_left _ (List.mem_append_right _ hw)))) (by decide +kernel) (vx_c (va_Nw.use rfl hE.k0) (vx_c (va_Nw.use rfl hE.d0) (vx_c (va_Nw.use rfl hE.d1) (vx_c (va_Nw.use rfl hE.d2) vx_n))))) (by decide +kernel) hE.2.2.1 hE.2.2.2.1 hS (by rw [hml]; exact hl.1) dX9_outputAt_11 dX9_outputAt_14 dX9_outputAt_15 dX9_outputAt_18 dX9_outputAt_21 (fun x hx => (ht x hx).elim) (Nat.le_of_ble_eq_true rfl) (by decide) (Nat.le_of_ble_eq_true rfl) (Nat.le_of_ble_eq_true rfl) hlocks (fun T9 _ h1 h2 => ⟨none, show (f_xOut (f_reachO σ i) : XO) = some ("java/lang/IndexOutOfBoundsException", none) from (by first | (simp [Option.or, eIOO, eIAE, eUOE, eNSE, eARE, eISE, c_1]; done) | (simp [f_xOut, eIOO, eIAE, eUOE, eNSE, eARE, eISE, c_1]; done)), ⟨rj, sp_P_ext hP h2, rfl⟩, sp_SF hS h1 h2⟩) hS.2.2 (by omega) (by omega)
