/-! why a change of the beach is rejected: the reason and its detail -/
def f_objTrack (σ : Nat → Nat → Int32) : Option (Int32 × Int32) := if f_countTracks σ = 6 then some (1, 6) else none
def f_objCell (σ : Nat → Nat → Int32) (r c1 : Int32) : Option (Int32 × Int32) := if f_under σ r = true then some (4, σ 0 2) else match f_inCell σ r c1 with
  | none => none
  | some j => some (5, σ (9 + j) 1)
def f_objPrint (σ : Nat → Nat → Int32) (t u r c1 : Int32) : Option (Int32 × Int32) := if f_countPrintsInRows σ 0 10 = 30 then some (2, 30) else match f_atTime σ t u with
  | some j => some (3, σ (9 + j) 1)
  | none => f_objCell σ r c1
def f_objMove (σ : Nat → Nat → Int32) (k : Nat) (r c1 : Int32) : Option (Int32 × Int32) := if f_dist σ (9 + k) r c1 < 1 ∨ 2 < f_dist σ (9 + k) r c1 then some (6, f_dist σ (9 + k) r c1) else f_objCell σ r c1
def f_objDoubt (σ : Nat → Nat → Int32) (k : Nat) : Option (Int32 × Int32) := if 3 ≤ σ (9 + k) 8 then some (7, 3) else none
def f_objConf (σ : Nat → Nat → Int32) (k : Nat) : Option (Int32 × Int32) := if 0 < σ (9 + k) 8 then none else some (8, 0)
def f_objTide (σ : Nat → Nat → Int32) (v : Int32) : Option (Int32 × Int32) := if v = σ 0 2 then some (9, σ 0 2) else none
theorem wi_X0_objectionToTrack_X5 : ∀ w ∈ wsX50, w ∈ wsX0_objectionToTrack := by decide +kernel
set_option maxHeartbeats 4000000 in
set_option maxRecDepth 100000 in
theorem c_X0_objectionToTrack (l : Launch) (D : va_G) (ad : Nat → Nat) (cy : Nat → ClassId) (pm : Nat → Nat) (rj : Option Nat) (σ : Nat → Nat → Int32) (sz : Nat) : Met l yX0_objectionToTrack wsX0_objectionToTrack ({ frames := 2, cells := 1, slots := 3, locals := 43 } : Room) (sp_Pm D (tyG cy) sz [.ref (ad (0))] (cW ad cy pm rj σ)) (sp_R D (f_objTrack σ)) 1 3 (fun q => sz ≤ q) := by
  refine Met.ofW (cc := cX0_objectionToTrack) (maxL := 1) (ret := (some (.object "SandProofreader$Rejection"))) (by decide) rfl ?_
  intro p e s m args below meth c s₁ B hml hv
  obtain ⟨rfl, hsz, hP, hK⟩ := hv
  have hx := B.exec
  have hb := B.bytes
  have hr := B.returns
  have hts := atoms_spec (ws := wsX0_objectionToTrack) B.pre
  have hown : s.vm.findClass RX0 = some m.cls := findClass_of_methodNamed B.named
  have hlocks := B.notSynchronized
  subst hsz
  have hS : va_S (fun q => s.heap.size ≤ q) s.heap s.heap [] := va_S.rf
  have hl := lv_entry ([.ref (ad (0))]) (n := 1) (Nat.le_of_ble_eq_true rfl)
  refine W.eq (lg_entry_eq _ ([.ref (ad (0))]) _) ?_
  generalize (lg_sl ([.ref (ad (0))]) ++ List.replicate (1 - (lg_sl ([.ref (ad (0))])).length) Slot.unset).toArray = ls at hl ⊢
  have hl : lv_has ls 1 [(0, .ref (ad (0)))] := hl
  refine lv_aload_n hx hb dX0_objectionToTrack_0 rfl (lv_at hl 0 rfl) ?_
  refine sp_call (W.runV (As := []) (rest := []) ⟨hx, hb, hml, hown, hts⟩ (c_X0_countTracks l D ad cy pm rj σ ) (cwV 0 hts gX0_objectionToTrack_X0_countTracks rfl rfl rfl (by decide +kernel) ⟨Nat.le_of_ble_eq_true rfl, Nat.le_of_ble_eq_true rfl⟩) (sp_preV hK hP (κ := 0) (by omega) (cE_beach (by omega) (by omega)) rfl) rfl rfl hl.1 rfl (lv_room (Nat.le_of_ble_eq_true rfl)) dX0_objectionToTrack_1 ⟨Nat.le_of_ble_eq_true rfl, Nat.le_of_ble_eq_true rfl⟩) ?_
  refine W.eq (g2 := F0 m 4 ls [.int (f_countTracks σ)]) rfl ?_
  refine lv_bipush (v := 6) hx hb dX0_objectionToTrack_4 (by decide) ?_
  refine lv_icmp_ne (tgt := 21) hx hb dX0_objectionToTrack_6 (by decide) (fun c_1 => ?_) (fun c_1 => ?_)
  · skip
    refine lv_null hx hb dX0_objectionToTrack_21 ?_
    refine W.widen (k := 1) (n := 3) (by omega) (by omega) ?_
    exact W.aret (v := .null) (rt := (.object "SandProofreader$Rejection")) hx hb hr (Or.inl ⟨_, rfl⟩) (Or.inl rfl) (fun T9 hT9 _ => ⟨hS.F hT9, Or.inl ⟨show f_objTrack σ = none from (by first | rfl | (simp [f_objTrack, b2i, c_1]; done)), rfl⟩⟩) hS.2.2 dX0_objectionToTrack_22
  · skip
    have hge_q_2 := hS.1
    refine sp_new (fs := [.int 0, .int 0, .null]) (ci := 8) (C := RX5) (T := TX5) (N := 3) hx hb hts wi_X0_objectionToTrack_X5 tyX5 tyX5_ok hown (hts _ (List.mem_of_getElem? (i := 1) rfl)) (hts _ (List.mem_of_getElem? (i := 2) rfl)) (hts _ (List.mem_of_getElem? (i := 3) rfl)) hK hS rfl (fun j hj => by rcases (show j = 0 ∨ j = 1 ∨ j = 2 by omega) with rfl | rfl | rfl <;> rfl) (Nat.le_of_ble_eq_true rfl) (Nat.le_of_ble_eq_true rfl) dX0_objectionToTrack_9 (fun q_2 H hq_2 hz_q_2 hk_q_2 hat_q_2 hS => ?_)
    have hge_q_2 : s.heap.size ≤ q_2 := by rw [hq_2]; exact hge_q_2
    have hP9_q_2 := hP
    have hP := sp_P_ext hP hk_q_2
    refine lv_dup hx hb dX0_objectionToTrack_12 rfl ?_
    refine lv_iconst (v := 1) hx hb dX0_objectionToTrack_13 (by decide) ?_
    refine lv_bipush (v := 6) hx hb dX0_objectionToTrack_14 (by decide) ?_
    refine lv_null hx hb dX0_objectionToTrack_16 ?_
    refine sp_callm (va_runI (As := [.int (1), .int (6), .null]) (rest := [.ref (q_2)]) ⟨hx, hb, hml, hown, hts⟩ (c_X5_init l D (tyG cy) q_2 _ 1 6 none) (cwI 3 hts gX0_objectionToTrack_X5_init rfl rfl rfl (hts _ (List.mem_of_getElem? (i := 3) rfl)) (hts _ (List.mem_of_getElem? (i := 11) rfl)) (hts _ (List.mem_of_getElem? (i := 12) rfl)) rfl (by decide +kernel) ⟨Nat.le_of_ble_eq_true rfl, Nat.le_of_ble_eq_true rfl⟩) ⟨sp_blindm, fun U hU hW => ⟨rfl, by rw [hU], by rw [hU]; exact sp_one hat_q_2, va_K.moved hW.alike hK⟩⟩ rfl rfl hl.1 rfl (lv_room (Nat.le_of_ble_eq_true rfl)) dX0_objectionToTrack_17 ⟨Nat.le_of_ble_eq_true rfl, Nat.le_of_ble_eq_true rfl⟩) hS (fun z h1 h2 => by rw [h2]; exact hge_q_2) (fun z h2 => by rw [h2]; exact hge_q_2) (fun H locs hPq_q_2 hle_q_2 hfr_q_2 hS => ?_)
    have hat_q_2 := hPq_q_2 0 _ rfl
    have hP := sp_P_new hP9_q_2 hq_2 hP hfr_q_2
    refine W.eq (g2 := F0 m 20 ls [.ref (q_2)]) rfl ?_
    exact W.aret (v := .ref q_2) (rt := (.object "SandProofreader$Rejection")) hx hb hr (Or.inl ⟨_, rfl⟩) (Or.inr ⟨_, rfl⟩) (fun T9 hT9 _ => ⟨hS.F hT9, Or.inr ⟨(1, 6), q_2, show f_objTrack σ = some (1, 6) from (by first | rfl | (simp [f_objTrack, b2i, c_1]; done)), rfl, hge_q_2, by rw [hT9]; exact hat_q_2⟩⟩) hS.2.2 dX0_objectionToTrack_20

theorem wi_X0_objectionToCell_X5 : ∀ w ∈ wsX50, w ∈ wsX0_objectionToCell := by decide +kernel
theorem wi_X0_objectionToCell_X3 : ∀ w ∈ wsX30, w ∈ wsX0_objectionToCell := by decide +kernel
theorem wi_X0_objectionToCell_X0 : ∀ w ∈ wsX00, w ∈ wsX0_objectionToCell := by decide +kernel
set_option maxHeartbeats 4000000 in
set_option maxRecDepth 100000 in
theorem c_X0_objectionToCell (l : Launch) (D : va_G) (ad : Nat → Nat) (cy : Nat → ClassId) (pm : Nat → Nat) (rj : Option Nat) (σ : Nat → Nat → Int32) (sz : Nat) (r : Int32) (c1 : Int32) : Met l yX0_objectionToCell wsX0_objectionToCell ({ frames := 2, cells := 1, slots := 3, locals := 43 } : Room) (sp_Pm D (tyG cy) sz [.ref (ad (0)), .int (r), .int (c1)] (cW ad cy pm rj σ)) (sp_R D (f_objCell σ r c1)) 1 3 (fun q => sz ≤ q) := by
  refine Met.ofW (cc := cX0_objectionToCell) (maxL := 4) (ret := (some (.object "SandProofreader$Rejection"))) (by decide) rfl ?_
  intro p e s m args below meth c s₁ B hml hv
  obtain ⟨rfl, hsz, hP, hK⟩ := hv
  have hx := B.exec
  have hb := B.bytes
  have hr := B.returns
  have hts := atoms_spec (ws := wsX0_objectionToCell) B.pre
  have hown : s.vm.findClass RX0 = some m.cls := findClass_of_methodNamed B.named
  have hlocks := B.notSynchronized
  subst hsz
  have hS : va_S (fun q => s.heap.size ≤ q) s.heap s.heap [] := va_S.rf
  have hl := lv_entry ([.ref (ad (0)), .int (r), .int (c1)]) (n := 4) (Nat.le_of_ble_eq_true rfl)
  refine W.eq (lg_entry_eq _ ([.ref (ad (0)), .int (r), .int (c1)]) _) ?_
  generalize (lg_sl ([.ref (ad (0)), .int (r), .int (c1)]) ++ List.replicate (4 - (lg_sl ([.ref (ad (0)), .int (r), .int (c1)])).length) Slot.unset).toArray = ls at hl ⊢
  have hl : lv_has ls 4 [(0, .ref (ad (0))), (1, .int (r)), (2, .int (c1))] := hl
  refine lv_aload_n hx hb dX0_objectionToCell_0 rfl (lv_at hl 0 rfl) ?_
  refine lv_iload_n hx hb dX0_objectionToCell_1 rfl (lv_at hl 1 rfl) ?_
  refine sp_call (W.runV (As := [.int (r)]) (rest := []) ⟨hx, hb, hml, hown, hts⟩ (c_X0_isUnderWater l D ad cy pm rj σ r) (cwV 1 hts gX0_objectionToCell_X0_isUnderWater rfl rfl rfl (by decide +kernel) ⟨Nat.le_of_ble_eq_true rfl, Nat.le_of_ble_eq_true rfl⟩) (sp_preV hK hP (κ := 0) (by omega) (cE_beach (by omega) (by omega)) rfl) rfl rfl hl.1 rfl (lv_room (Nat.le_of_ble_eq_true rfl)) dX0_objectionToCell_2 ⟨Nat.le_of_ble_eq_true rfl, Nat.le_of_ble_eq_true rfl⟩) ?_
  refine W.eq (g2 := F0 m 5 ls [.int (b2i (f_under σ r))]) rfl ?_
  refine lv_if_eq (tgt := 22) hx hb dX0_objectionToCell_5 (by decide) (fun c_1 => ?_) (fun c_1 => ?_)
  · rw [b2i_eq0] at c_1
    refine lv_aload_n hx hb dX0_objectionToCell_22 rfl (lv_at hl 0 rfl) ?_
    refine lv_iload_n hx hb dX0_objectionToCell_23 rfl (lv_at hl 1 rfl) ?_
    refine lv_iload_n hx hb dX0_objectionToCell_24 rfl (lv_at hl 2 rfl) ?_
    refine sp_call (W.runV (As := [.int (r), .int (c1)]) (rest := []) ⟨hx, hb, hml, hown, hts⟩ (c_X0_inCell l D ad cy pm rj σ r c1) (cwV 2 hts gX0_objectionToCell_X0_inCell rfl rfl rfl (by decide +kernel) ⟨Nat.le_of_ble_eq_true rfl, Nat.le_of_ble_eq_true rfl⟩) (sp_preV hK hP (κ := 0) (by omega) (cE_beach (by omega) (by omega)) rfl) rfl rfl hl.1 rfl (lv_room (Nat.le_of_ble_eq_true rfl)) dX0_objectionToCell_25 ⟨Nat.le_of_ble_eq_true rfl, Nat.le_of_ble_eq_true rfl⟩) ?_
    rcases q_2 : f_inCell σ r c1 with _ | j_3
    · refine W.eq (g2 := F0 m 28 ls [.null]) rfl ?_
      refine lv_astore_nN (lv' := [(3, .null), (0, .ref (ad (0))), (1, .int (r)), (2, .int (c1))]) hx hb dX0_objectionToCell_28 rfl hl (by decide) rfl (fun ls hl => ?_)
      refine lv_aload_nN hx hb dX0_objectionToCell_29 rfl (lv_at hl 0 rfl) ?_
      refine lv_ifnonnullN hx hb dX0_objectionToCell_30 ?_
      refine lv_null hx hb dX0_objectionToCell_33 ?_
      refine lv_goto (tgt := 50) hx hb dX0_objectionToCell_34 (by decide) ?_
      refine W.widen (k := 1) (n := 3) (by omega) (by omega) ?_
      exact W.aret (v := .null) (rt := (.object "SandProofreader$Rejection")) hx hb hr (Or.inl ⟨_, rfl⟩) (Or.inl rfl) (fun T9 hT9 _ => ⟨hS.F hT9, Or.inl ⟨show f_objCell σ r c1 = none from (by first | rfl | (simp [f_objCell, b2i, c_1, q_2]; done)), rfl⟩⟩) hS.2.2 dX0_objectionToCell_50
    · have hj_3 := f_inCell_lt q_2
      refine W.eq (g2 := F0 m 28 ls [.ref (ad (9 + j_3))]) rfl ?_
      refine lv_astore_n (lv' := [(3, .ref (ad (9 + j_3))), (0, .ref (ad (0))), (1, .int (r)), (2, .int (c1))]) hx hb dX0_objectionToCell_28 rfl hl (by decide) rfl (fun ls hl => ?_)
      refine lv_aload_n hx hb dX0_objectionToCell_29 rfl (lv_at hl 0 rfl) ?_
      refine lv_ifnonnull (tgt := 37) hx hb dX0_objectionToCell_30 (by decide) ?_
      have hge_q_4 := hS.1
      refine sp_new (fs := [.int 0, .int 0, .null]) (ci := 8) (C := RX5) (T := TX5) (N := 3) hx hb hts wi_X0_objectionToCell_X5 tyX5 tyX5_ok hown (hts _ (List.mem_of_getElem? (i := 1) rfl)) (hts _ (List.mem_of_getElem? (i := 2) rfl)) (hts _ (List.mem_of_getElem? (i := 3) rfl)) hK hS rfl (fun j hj => by rcases (show j = 0 ∨ j = 1 ∨ j = 2 by omega) with rfl | rfl | rfl <;> rfl) (Nat.le_of_ble_eq_true rfl) (Nat.le_of_ble_eq_true rfl) dX0_objectionToCell_37 (fun q_4 H hq_4 hz_q_4 hk_q_4 hat_q_4 hS => ?_)
      have hge_q_4 : s.heap.size ≤ q_4 := by rw [hq_4]; exact hge_q_4
      have hP9_q_4 := hP
      have hP := sp_P_ext hP hk_q_4
      refine lv_dup hx hb dX0_objectionToCell_40 rfl ?_
      refine lv_iconst (v := 5) hx hb dX0_objectionToCell_41 (by decide) ?_
      refine lv_aload_n hx hb dX0_objectionToCell_42 rfl (lv_at hl 0 rfl) ?_
      refine sp_get hx hb hts wi_X0_objectionToCell_X3 hown hK hP (κ := 9 + j_3) (by omega) (cE_print (by omega) (by omega)) rfl 1 (by decide) (hts _ (List.mem_of_getElem? (i := 5) rfl)) (fun _ h => h) rfl dX0_objectionToCell_43 ?_
      refine lv_null hx hb dX0_objectionToCell_46 ?_
      refine sp_callm (va_runI (As := [.int (5), .int (σ (9 + j_3) 1), .null]) (rest := [.ref (q_4)]) ⟨hx, hb, hml, hown, hts⟩ (c_X5_init l D (tyG cy) q_4 _ 5 (σ (9 + j_3) 1) none) (cwI 3 hts gX0_objectionToCell_X5_init rfl rfl rfl (hts _ (List.mem_of_getElem? (i := 3) rfl)) (hts _ (List.mem_of_getElem? (i := 11) rfl)) (hts _ (List.mem_of_getElem? (i := 12) rfl)) rfl (by decide +kernel) ⟨Nat.le_of_ble_eq_true rfl, Nat.le_of_ble_eq_true rfl⟩) ⟨sp_blindm, fun U hU hW => ⟨rfl, by rw [hU], by rw [hU]; exact sp_one hat_q_4, va_K.moved hW.alike hK⟩⟩ rfl rfl hl.1 rfl (lv_room (Nat.le_of_ble_eq_true rfl)) dX0_objectionToCell_47 ⟨Nat.le_of_ble_eq_true rfl, Nat.le_of_ble_eq_true rfl⟩) hS (fun z h1 h2 => by rw [h2]; exact hge_q_4) (fun z h2 => by rw [h2]; exact hge_q_4) (fun H locs hPq_q_4 hle_q_4 hfr_q_4 hS => ?_)
      have hat_q_4 := hPq_q_4 0 _ rfl
      have hP := sp_P_new hP9_q_4 hq_4 hP hfr_q_4
      refine W.eq (g2 := F0 m 50 ls [.ref (q_4)]) rfl ?_
      exact W.aret (v := .ref q_4) (rt := (.object "SandProofreader$Rejection")) hx hb hr (Or.inl ⟨_, rfl⟩) (Or.inr ⟨_, rfl⟩) (fun T9 hT9 _ => ⟨hS.F hT9, Or.inr ⟨(5, σ (9 + j_3) 1), q_4, show f_objCell σ r c1 = some (5, σ (9 + j_3) 1) from (by first | rfl | (simp [f_objCell, b2i, c_1, q_2]; done)), rfl, hge_q_4, by rw [hT9]; exact hat_q_4⟩⟩) hS.2.2 dX0_objectionToCell_50
  · rw [b2i_eq0] at c_1
    have hge_q_5 := hS.1
    refine sp_new (fs := [.int 0, .int 0, .null]) (ci := 8) (C := RX5) (T := TX5) (N := 3) hx hb hts wi_X0_objectionToCell_X5 tyX5 tyX5_ok hown (hts _ (List.mem_of_getElem? (i := 1) rfl)) (hts _ (List.mem_of_getElem? (i := 2) rfl)) (hts _ (List.mem_of_getElem? (i := 3) rfl)) hK hS rfl (fun j hj => by rcases (show j = 0 ∨ j = 1 ∨ j = 2 by omega) with rfl | rfl | rfl <;> rfl) (Nat.le_of_ble_eq_true rfl) (Nat.le_of_ble_eq_true rfl) dX0_objectionToCell_8 (fun q_5 H hq_5 hz_q_5 hk_q_5 hat_q_5 hS => ?_)
    have hge_q_5 : s.heap.size ≤ q_5 := by rw [hq_5]; exact hge_q_5
    have hP9_q_5 := hP
    have hP := sp_P_ext hP hk_q_5
    refine lv_dup hx hb dX0_objectionToCell_11 rfl ?_
    refine lv_iconst (v := 4) hx hb dX0_objectionToCell_12 (by decide) ?_
    refine lv_aload_n hx hb dX0_objectionToCell_13 rfl (lv_at hl 0 rfl) ?_
    refine sp_get hx hb hts wi_X0_objectionToCell_X0 hown hK hP (κ := 0) (by omega) (cE_beach (by omega) (by omega)) rfl 2 (by decide) (hts _ (List.mem_of_getElem? (i := 4) rfl)) (fun _ h => h) rfl dX0_objectionToCell_14 ?_
    refine lv_null hx hb dX0_objectionToCell_17 ?_
    refine sp_callm (va_runI (As := [.int (4), .int (σ 0 2), .null]) (rest := [.ref (q_5)]) ⟨hx, hb, hml, hown, hts⟩ (c_X5_init l D (tyG cy) q_5 _ 4 (σ 0 2) none) (cwI 3 hts gX0_objectionToCell_X5_init rfl rfl rfl (hts _ (List.mem_of_getElem? (i := 3) rfl)) (hts _ (List.mem_of_getElem? (i := 11) rfl)) (hts _ (List.mem_of_getElem? (i := 12) rfl)) rfl (by decide +kernel) ⟨Nat.le_of_ble_eq_true rfl, Nat.le_of_ble_eq_true rfl⟩) ⟨sp_blindm, fun U hU hW => ⟨rfl, by rw [hU], by rw [hU]; exact sp_one hat_q_5, va_K.moved hW.alike hK⟩⟩ rfl rfl hl.1 rfl (lv_room (Nat.le_of_ble_eq_true rfl)) dX0_objectionToCell_18 ⟨Nat.le_of_ble_eq_true rfl, Nat.le_of_ble_eq_true rfl⟩) hS (fun z h1 h2 => by rw [h2]; exact hge_q_5) (fun z h2 => by rw [h2]; exact hge_q_5) (fun H locs hPq_q_5 hle_q_5 hfr_q_5 hS => ?_)
    have hat_q_5 := hPq_q_5 0 _ rfl
    have hP := sp_P_new hP9_q_5 hq_5 hP hfr_q_5
    refine W.eq (g2 := F0 m 21 ls [.ref (q_5)]) rfl ?_
    exact W.aret (v := .ref q_5) (rt := (.object "SandProofreader$Rejection")) hx hb hr (Or.inl ⟨_, rfl⟩) (Or.inr ⟨_, rfl⟩) (fun T9 hT9 _ => ⟨hS.F hT9, Or.inr ⟨(4, σ 0 2), q_5, show f_objCell σ r c1 = some (4, σ 0 2) from (by first | rfl | (simp [f_objCell, b2i, c_1]; done)), rfl, hge_q_5, by rw [hT9]; exact hat_q_5⟩⟩) hS.2.2 dX0_objectionToCell_21

theorem wi_X0_objectionToPrint_X5 : ∀ w ∈ wsX50, w ∈ wsX0_objectionToPrint := by decide +kernel
theorem wi_X0_objectionToPrint_X3 : ∀ w ∈ wsX30, w ∈ wsX0_objectionToPrint := by decide +kernel
set_option maxHeartbeats 4000000 in
set_option maxRecDepth 100000 in
theorem c_X0_objectionToPrint (l : Launch) (D : va_G) (ad : Nat → Nat) (cy : Nat → ClassId) (pm : Nat → Nat) (rj : Option Nat) (σ : Nat → Nat → Int32) (sz : Nat) (t : Int32) (u : Int32) (r : Int32) (c1 : Int32) : Met l yX0_objectionToPrint wsX0_objectionToPrint ({ frames := 3, cells := 1, slots := 3, locals := 66 } : Room) (sp_Pm D (tyG cy) sz [.ref (ad (0)), .int (t), .int (u), .int (r), .int (c1)] (cW ad cy pm rj σ)) (sp_R D (f_objPrint σ t u r c1)) 1 3 (fun q => sz ≤ q) := by
  refine Met.ofW (cc := cX0_objectionToPrint) (maxL := 6) (ret := (some (.object "SandProofreader$Rejection"))) (by decide) rfl ?_
  intro p e s m args below meth c s₁ B hml hv
  obtain ⟨rfl, hsz, hP, hK⟩ := hv
  have hx := B.exec
  have hb := B.bytes
  have hr := B.returns
  have hts := atoms_spec (ws := wsX0_objectionToPrint) B.pre
  have hown : s.vm.findClass RX0 = some m.cls := findClass_of_methodNamed B.named
  have hlocks := B.notSynchronized
  subst hsz
  have hS : va_S (fun q => s.heap.size ≤ q) s.heap s.heap [] := va_S.rf
  have hl := lv_entry ([.ref (ad (0)), .int (t), .int (u), .int (r), .int (c1)]) (n := 6) (Nat.le_of_ble_eq_true rfl)
  refine W.eq (lg_entry_eq _ ([.ref (ad (0)), .int (t), .int (u), .int (r), .int (c1)]) _) ?_
  generalize (lg_sl ([.ref (ad (0)), .int (t), .int (u), .int (r), .int (c1)]) ++ List.replicate (6 - (lg_sl ([.ref (ad (0)), .int (t), .int (u), .int (r), .int (c1)])).length) Slot.unset).toArray = ls at hl ⊢
  have hl : lv_has ls 6 [(0, .ref (ad (0))), (1, .int (t)), (2, .int (u)), (3, .int (r)), (4, .int (c1))] := hl
  refine lv_aload_n hx hb dX0_objectionToPrint_0 rfl (lv_at hl 0 rfl) ?_
  refine sp_call (W.runV (As := []) (rest := []) ⟨hx, hb, hml, hown, hts⟩ (c_X0_countAllPrints l D ad cy pm rj σ ) (cwV 0 hts gX0_objectionToPrint_X0_countAllPrints rfl rfl rfl (by decide +kernel) ⟨Nat.le_of_ble_eq_true rfl, Nat.le_of_ble_eq_true rfl⟩) (sp_preV hK hP (κ := 0) (by omega) (cE_beach (by omega) (by omega)) rfl) rfl rfl hl.1 rfl (lv_room (Nat.le_of_ble_eq_true rfl)) dX0_objectionToPrint_1 ⟨Nat.le_of_ble_eq_true rfl, Nat.le_of_ble_eq_true rfl⟩) ?_
  refine W.eq (g2 := F0 m 4 ls [.int (f_countPrintsInRows σ 0 10)]) rfl ?_
  refine lv_bipush (v := 30) hx hb dX0_objectionToPrint_4 (by decide) ?_
  refine lv_icmp_ne (tgt := 21) hx hb dX0_objectionToPrint_6 (by decide) (fun c_1 => ?_) (fun c_1 => ?_)
  · skip
    refine lv_aload_n hx hb dX0_objectionToPrint_21 rfl (lv_at hl 0 rfl) ?_
    refine lv_iload_n hx hb dX0_objectionToPrint_22 rfl (lv_at hl 1 rfl) ?_
    refine lv_iload_n hx hb dX0_objectionToPrint_23 rfl (lv_at hl 2 rfl) ?_
    refine sp_call (W.runV (As := [.int (t), .int (u)]) (rest := []) ⟨hx, hb, hml, hown, hts⟩ (c_X0_atTime l D ad cy pm rj σ t u) (cwV 2 hts gX0_objectionToPrint_X0_atTime rfl rfl rfl (by decide +kernel) ⟨Nat.le_of_ble_eq_true rfl, Nat.le_of_ble_eq_true rfl⟩) (sp_preV hK hP (κ := 0) (by omega) (cE_beach (by omega) (by omega)) rfl) rfl rfl hl.1 rfl (lv_room (Nat.le_of_ble_eq_true rfl)) dX0_objectionToPrint_24 ⟨Nat.le_of_ble_eq_true rfl, Nat.le_of_ble_eq_true rfl⟩) ?_
    rcases q_2 : f_atTime σ t u with _ | j_3
    · refine W.eq (g2 := F0 m 27 ls [.null]) rfl ?_
      refine lv_astoreN (lv' := [(5, .null), (0, .ref (ad (0))), (1, .int (t)), (2, .int (u)), (3, .int (r)), (4, .int (c1))]) hx hb dX0_objectionToPrint_27 hl (by decide) rfl (fun ls hl => ?_)
      refine lv_aloadN hx hb dX0_objectionToPrint_29 (lv_at hl 0 rfl) ?_
      refine lv_ifnullN (tgt := 49) hx hb dX0_objectionToPrint_31 (by decide) ?_
      refine lv_aload_n hx hb dX0_objectionToPrint_49 rfl (lv_at hl 1 rfl) ?_
      refine lv_iload_n hx hb dX0_objectionToPrint_50 rfl (lv_at hl 4 rfl) ?_
      refine lv_iload hx hb dX0_objectionToPrint_51 (lv_at hl 5 rfl) ?_
      have hge0_q_4 := hS.1
      refine sp_callR (va_runV (As := [.int (r), .int (c1)]) (rest := []) ⟨hx, hb, hml, hown, hts⟩ (c_X0_objectionToCell l D ad cy pm rj σ _ r c1) (cwV 2 hts gX0_objectionToPrint_X0_objectionToCell rfl rfl rfl (by decide +kernel) ⟨Nat.le_of_ble_eq_true rfl, Nat.le_of_ble_eq_true rfl⟩) (sp_preVm hK hP (κ := 0) (by omega) (cE_beach (by omega) (by omega)) rfl) rfl rfl hl.1 rfl (lv_room (Nat.le_of_ble_eq_true rfl)) dX0_objectionToPrint_53 ⟨Nat.le_of_ble_eq_true rfl, Nat.le_of_ble_eq_true rfl⟩) hS (fun z h => Nat.le_trans hS.1 h) (fun v_5 H locs hle_q_4 hk_q_4 hS => ?_) (fun x1_q_4 x2_q_4 q_4 v_5 hge_q_4 H locs hle_q_4 hk_q_4 hS hat_q_4 => ?_)
      · have hP := sp_P_ext hP hk_q_4
        exact W.aret (v := .null) (rt := (.object "SandProofreader$Rejection")) hx hb hr (Or.inl ⟨_, rfl⟩) (Or.inl rfl) (fun T9 hT9 _ => ⟨hS.F hT9, Or.inl ⟨show f_objPrint σ t u r c1 = none from (by first | rfl | (simp [f_objPrint, b2i, c_1, q_2, v_5]; done)), rfl⟩⟩) hS.2.2 dX0_objectionToPrint_56
      · have hP := sp_P_ext hP hk_q_4
        exact W.aret (v := .ref q_4) (rt := (.object "SandProofreader$Rejection")) hx hb hr (Or.inl ⟨_, rfl⟩) (Or.inr ⟨_, rfl⟩) (fun T9 hT9 _ => ⟨hS.F hT9, Or.inr ⟨(x1_q_4, x2_q_4), q_4, show f_objPrint σ t u r c1 = some (x1_q_4, x2_q_4) from (by first | rfl | (simp [f_objPrint, b2i, c_1, q_2, v_5]; done)), rfl, (Nat.le_trans hge0_q_4 hge_q_4), by rw [hT9]; exact hat_q_4⟩⟩) hS.2.2 dX0_objectionToPrint_56
    · have hj_3 := f_atTime_lt q_2
      refine W.eq (g2 := F0 m 27 ls [.ref (ad (9 + j_3))]) rfl ?_
      refine lv_astore (lv' := [(5, .ref (ad (9 + j_3))), (0, .ref (ad (0))), (1, .int (t)), (2, .int (u)), (3, .int (r)), (4, .int (c1))]) hx hb dX0_objectionToPrint_27 hl (by decide) rfl (fun ls hl => ?_)
      refine lv_aload hx hb dX0_objectionToPrint_29 (lv_at hl 0 rfl) ?_
      refine lv_ifnull hx hb dX0_objectionToPrint_31 ?_
      have hge_q_6 := hS.1
      refine sp_new (fs := [.int 0, .int 0, .null]) (ci := 8) (C := RX5) (T := TX5) (N := 3) hx hb hts wi_X0_objectionToPrint_X5 tyX5 tyX5_ok hown (hts _ (List.mem_of_getElem? (i := 1) rfl)) (hts _ (List.mem_of_getElem? (i := 2) rfl)) (hts _ (List.mem_of_getElem? (i := 3) rfl)) hK hS rfl (fun j hj => by rcases (show j = 0 ∨ j = 1 ∨ j = 2 by omega) with rfl | rfl | rfl <;> rfl) (Nat.le_of_ble_eq_true rfl) (Nat.le_of_ble_eq_true rfl) dX0_objectionToPrint_34 (fun q_6 H hq_6 hz_q_6 hk_q_6 hat_q_6 hS => ?_)
      have hge_q_6 : s.heap.size ≤ q_6 := by rw [hq_6]; exact hge_q_6
      have hP9_q_6 := hP
      have hP := sp_P_ext hP hk_q_6
      refine lv_dup hx hb dX0_objectionToPrint_37 rfl ?_
      refine lv_iconst (v := 3) hx hb dX0_objectionToPrint_38 (by decide) ?_
      refine lv_aload hx hb dX0_objectionToPrint_39 (lv_at hl 0 rfl) ?_
      refine sp_get hx hb hts wi_X0_objectionToPrint_X3 hown hK hP (κ := 9 + j_3) (by omega) (cE_print (by omega) (by omega)) rfl 1 (by decide) (hts _ (List.mem_of_getElem? (i := 4) rfl)) (fun _ h => h) rfl dX0_objectionToPrint_41 ?_
      refine lv_null hx hb dX0_objectionToPrint_44 ?_
      refine sp_callm (va_runI (As := [.int (3), .int (σ (9 + j_3) 1), .null]) (rest := [.ref (q_6)]) ⟨hx, hb, hml, hown, hts⟩ (c_X5_init l D (tyG cy) q_6 _ 3 (σ (9 + j_3) 1) none) (cwI 3 hts gX0_objectionToPrint_X5_init rfl rfl rfl (hts _ (List.mem_of_getElem? (i := 3) rfl)) (hts _ (List.mem_of_getElem? (i := 17) rfl)) (hts _ (List.mem_of_getElem? (i := 18) rfl)) rfl (by decide +kernel) ⟨Nat.le_of_ble_eq_true rfl, Nat.le_of_ble_eq_true rfl⟩) ⟨sp_blindm, fun U hU hW => ⟨rfl, by rw [hU], by rw [hU]; exact sp_one hat_q_6, va_K.moved hW.alike hK⟩⟩ rfl rfl hl.1 rfl (lv_room (Nat.le_of_ble_eq_true rfl)) dX0_objectionToPrint_45 ⟨Nat.le_of_ble_eq_true rfl, Nat.le_of_ble_eq_true rfl⟩) hS (fun z h1 h2 => by rw [h2]; exact hge_q_6) (fun z h2 => by rw [h2]; exact hge_q_6) (fun H locs hPq_q_6 hle_q_6 hfr_q_6 hS => ?_)
      have hat_q_6 := hPq_q_6 0 _ rfl
      have hP := sp_P_new hP9_q_6 hq_6 hP hfr_q_6
      refine W.eq (g2 := F0 m 48 ls [.ref (q_6)]) rfl ?_
      exact W.aret (v := .ref q_6) (rt := (.object "SandProofreader$Rejection")) hx hb hr (Or.inl ⟨_, rfl⟩) (Or.inr ⟨_, rfl⟩) (fun T9 hT9 _ => ⟨hS.F hT9, Or.inr ⟨(3, σ (9 + j_3) 1), q_6, show f_objPrint σ t u r c1 = some (3, σ (9 + j_3) 1) from (by first | rfl | (simp [f_objPrint, b2i, c_1, q_2]; done)), rfl, hge_q_6, by rw [hT9]; exact hat_q_6⟩⟩) hS.2.2 dX0_objectionToPrint_48
  · skip
    have hge_q_7 := hS.1
    refine sp_new (fs := [.int 0, .int 0, .null]) (ci := 8) (C := RX5) (T := TX5) (N := 3) hx hb hts wi_X0_objectionToPrint_X5 tyX5 tyX5_ok hown (hts _ (List.mem_of_getElem? (i := 1) rfl)) (hts _ (List.mem_of_getElem? (i := 2) rfl)) (hts _ (List.mem_of_getElem? (i := 3) rfl)) hK hS rfl (fun j hj => by rcases (show j = 0 ∨ j = 1 ∨ j = 2 by omega) with rfl | rfl | rfl <;> rfl) (Nat.le_of_ble_eq_true rfl) (Nat.le_of_ble_eq_true rfl) dX0_objectionToPrint_9 (fun q_7 H hq_7 hz_q_7 hk_q_7 hat_q_7 hS => ?_)
    have hge_q_7 : s.heap.size ≤ q_7 := by rw [hq_7]; exact hge_q_7
    have hP9_q_7 := hP
    have hP := sp_P_ext hP hk_q_7
    refine lv_dup hx hb dX0_objectionToPrint_12 rfl ?_
    refine lv_iconst (v := 2) hx hb dX0_objectionToPrint_13 (by decide) ?_
    refine lv_bipush (v := 30) hx hb dX0_objectionToPrint_14 (by decide) ?_
    refine lv_null hx hb dX0_objectionToPrint_16 ?_
    refine sp_callm (va_runI (As := [.int (2), .int (30), .null]) (rest := [.ref (q_7)]) ⟨hx, hb, hml, hown, hts⟩ (c_X5_init l D (tyG cy) q_7 _ 2 30 none) (cwI 3 hts gX0_objectionToPrint_X5_init rfl rfl rfl (hts _ (List.mem_of_getElem? (i := 3) rfl)) (hts _ (List.mem_of_getElem? (i := 17) rfl)) (hts _ (List.mem_of_getElem? (i := 18) rfl)) rfl (by decide +kernel) ⟨Nat.le_of_ble_eq_true rfl, Nat.le_of_ble_eq_true rfl⟩) ⟨sp_blindm, fun U hU hW => ⟨rfl, by rw [hU], by rw [hU]; exact sp_one hat_q_7, va_K.moved hW.alike hK⟩⟩ rfl rfl hl.1 rfl (lv_room (Nat.le_of_ble_eq_true rfl)) dX0_objectionToPrint_17 ⟨Nat.le_of_ble_eq_true rfl, Nat.le_of_ble_eq_true rfl⟩) hS (fun z h1 h2 => by rw [h2]; exact hge_q_7) (fun z h2 => by rw [h2]; exact hge_q_7) (fun H locs hPq_q_7 hle_q_7 hfr_q_7 hS => ?_)
    have hat_q_7 := hPq_q_7 0 _ rfl
    have hP := sp_P_new hP9_q_7 hq_7 hP hfr_q_7
    refine W.eq (g2 := F0 m 20 ls [.ref (q_7)]) rfl ?_
    exact W.aret (v := .ref q_7) (rt := (.object "SandProofreader$Rejection")) hx hb hr (Or.inl ⟨_, rfl⟩) (Or.inr ⟨_, rfl⟩) (fun T9 hT9 _ => ⟨hS.F hT9, Or.inr ⟨(2, 30), q_7, show f_objPrint σ t u r c1 = some (2, 30) from (by first | rfl | (simp [f_objPrint, b2i, c_1]; done)), rfl, hge_q_7, by rw [hT9]; exact hat_q_7⟩⟩) hS.2.2 dX0_objectionToPrint_20

theorem wi_X0_objectionToMove_X5 : ∀ w ∈ wsX50, w ∈ wsX0_objectionToMove := by decide +kernel
set_option maxHeartbeats 4000000 in
set_option maxRecDepth 100000 in
theorem c_X0_objectionToMove (l : Launch) (D : va_G) (ad : Nat → Nat) (cy : Nat → ClassId) (pm : Nat → Nat) (rj : Option Nat) (σ : Nat → Nat → Int32) (sz : Nat) (k : Nat) (hk : k < 30) (r : Int32) (c1 : Int32) : Met l yX0_objectionToMove wsX0_objectionToMove ({ frames := 3, cells := 1, slots := 3, locals := 66 } : Room) (sp_Pm D (tyG cy) sz [.ref (ad (0)), .ref (ad (9 + k)), .int (r), .int (c1)] (cW ad cy pm rj σ)) (sp_R D (f_objMove σ k r c1)) 1 3 (fun q => sz ≤ q) := by
  refine Met.ofW (cc := cX0_objectionToMove) (maxL := 5) (ret := (some (.object "SandProofreader$Rejection"))) (by decide) rfl ?_
  intro p e s m args below meth c s₁ B hml hv
  obtain ⟨rfl, hsz, hP, hK⟩ := hv
  have hx := B.exec
  have hb := B.bytes
  have hr := B.returns
  have hts := atoms_spec (ws := wsX0_objectionToMove) B.pre
  have hown : s.vm.findClass RX0 = some m.cls := findClass_of_methodNamed B.named
  have hlocks := B.notSynchronized
  subst hsz
  have hS : va_S (fun q => s.heap.size ≤ q) s.heap s.heap [] := va_S.rf
  have hl := lv_entry ([.ref (ad (0)), .ref (ad (9 + k)), .int (r), .int (c1)]) (n := 5) (Nat.le_of_ble_eq_true rfl)
  refine W.eq (lg_entry_eq _ ([.ref (ad (0)), .ref (ad (9 + k)), .int (r), .int (c1)]) _) ?_
  generalize (lg_sl ([.ref (ad (0)), .ref (ad (9 + k)), .int (r), .int (c1)]) ++ List.replicate (5 - (lg_sl ([.ref (ad (0)), .ref (ad (9 + k)), .int (r), .int (c1)])).length) Slot.unset).toArray = ls at hl ⊢
  have hl : lv_has ls 5 [(0, .ref (ad (0))), (1, .ref (ad (9 + k))), (2, .int (r)), (3, .int (c1))] := hl
  refine lv_aload_n hx hb dX0_objectionToMove_0 rfl (lv_at hl 1 rfl) ?_
  refine lv_iload_n hx hb dX0_objectionToMove_1 rfl (lv_at hl 2 rfl) ?_
  refine lv_iload_n hx hb dX0_objectionToMove_2 rfl (lv_at hl 3 rfl) ?_
  refine sp_call (W.runV (As := [.int (r), .int (c1)]) (rest := []) ⟨hx, hb, hml, hown, hts⟩ (c_X3_distanceTo l D ad cy pm rj σ (9 + k) (by omega) (by omega) r c1) (cwV 2 hts gX0_objectionToMove_X3_distanceTo rfl rfl rfl (by decide +kernel) ⟨Nat.le_of_ble_eq_true rfl, Nat.le_of_ble_eq_true rfl⟩) (sp_preV hK hP (κ := 9 + k) (by omega) (cE_print (by omega) (by omega)) rfl) rfl rfl hl.1 rfl (lv_room (Nat.le_of_ble_eq_true rfl)) dX0_objectionToMove_3 ⟨Nat.le_of_ble_eq_true rfl, Nat.le_of_ble_eq_true rfl⟩) ?_
  refine W.eq (g2 := F0 m 6 ls [.int (f_dist σ (9 + k) r c1)]) rfl ?_
  refine lv_istore (lv' := [(4, .int (f_dist σ (9 + k) r c1)), (0, .ref (ad (0))), (1, .ref (ad (9 + k))), (2, .int (r)), (3, .int (c1))]) hx hb dX0_objectionToMove_6 hl (by decide) rfl (fun ls hl => ?_)
  refine lv_iload hx hb dX0_objectionToMove_8 (lv_at hl 0 rfl) ?_
  refine lv_iconst (v := 1) hx hb dX0_objectionToMove_10 (by decide) ?_
  refine lv_icmp_lt (tgt := 20) hx hb dX0_objectionToMove_11 (by decide) (fun c_1 => ?_) (fun c_1 => ?_)
  · skip
    have c_1d := Int32.not_le.mpr c_1
    have hge_q_2 := hS.1
    refine sp_new (fs := [.int 0, .int 0, .null]) (ci := 8) (C := RX5) (T := TX5) (N := 3) hx hb hts wi_X0_objectionToMove_X5 tyX5 tyX5_ok hown (hts _ (List.mem_of_getElem? (i := 1) rfl)) (hts _ (List.mem_of_getElem? (i := 2) rfl)) (hts _ (List.mem_of_getElem? (i := 3) rfl)) hK hS rfl (fun j hj => by rcases (show j = 0 ∨ j = 1 ∨ j = 2 by omega) with rfl | rfl | rfl <;> rfl) (Nat.le_of_ble_eq_true rfl) (Nat.le_of_ble_eq_true rfl) dX0_objectionToMove_20 (fun q_2 H hq_2 hz_q_2 hk_q_2 hat_q_2 hS => ?_)
    have hge_q_2 : s.heap.size ≤ q_2 := by rw [hq_2]; exact hge_q_2
    have hP9_q_2 := hP
    have hP := sp_P_ext hP hk_q_2
    refine lv_dup hx hb dX0_objectionToMove_23 rfl ?_
    refine lv_bipush (v := 6) hx hb dX0_objectionToMove_24 (by decide) ?_
    refine lv_iload hx hb dX0_objectionToMove_26 (lv_at hl 0 rfl) ?_
    refine lv_null hx hb dX0_objectionToMove_28 ?_
    refine sp_callm (va_runI (As := [.int (6), .int (f_dist σ (9 + k) r c1), .null]) (rest := [.ref (q_2)]) ⟨hx, hb, hml, hown, hts⟩ (c_X5_init l D (tyG cy) q_2 _ 6 (f_dist σ (9 + k) r c1) none) (cwI 3 hts gX0_objectionToMove_X5_init rfl rfl rfl (hts _ (List.mem_of_getElem? (i := 3) rfl)) (hts _ (List.mem_of_getElem? (i := 15) rfl)) (hts _ (List.mem_of_getElem? (i := 16) rfl)) rfl (by decide +kernel) ⟨Nat.le_of_ble_eq_true rfl, Nat.le_of_ble_eq_true rfl⟩) ⟨sp_blindm, fun U hU hW => ⟨rfl, by rw [hU], by rw [hU]; exact sp_one hat_q_2, va_K.moved hW.alike hK⟩⟩ rfl rfl hl.1 rfl (lv_room (Nat.le_of_ble_eq_true rfl)) dX0_objectionToMove_29 ⟨Nat.le_of_ble_eq_true rfl, Nat.le_of_ble_eq_true rfl⟩) hS (fun z h1 h2 => by rw [h2]; exact hge_q_2) (fun z h2 => by rw [h2]; exact hge_q_2) (fun H locs hPq_q_2 hle_q_2 hfr_q_2 hS => ?_)
    have hat_q_2 := hPq_q_2 0 _ rfl
    have hP := sp_P_new hP9_q_2 hq_2 hP hfr_q_2
    refine W.eq (g2 := F0 m 32 ls [.ref (q_2)]) rfl ?_
    exact W.aret (v := .ref q_2) (rt := (.object "SandProofreader$Rejection")) hx hb hr (Or.inl ⟨_, rfl⟩) (Or.inr ⟨_, rfl⟩) (fun T9 hT9 _ => ⟨hS.F hT9, Or.inr ⟨(6, f_dist σ (9 + k) r c1), q_2, show f_objMove σ k r c1 = some (6, f_dist σ (9 + k) r c1) from (by first | rfl | (simp [f_objMove, b2i, c_1, c_1d]; done)), rfl, hge_q_2, by rw [hT9]; exact hat_q_2⟩⟩) hS.2.2 dX0_objectionToMove_32
  · skip
    have c_1d := Int32.not_lt.mp c_1
    refine lv_iload hx hb dX0_objectionToMove_14 (lv_at hl 0 rfl) ?_
    refine lv_iconst (v := 2) hx hb dX0_objectionToMove_16 (by decide) ?_
    refine lv_icmp_le (tgt := 33) hx hb dX0_objectionToMove_17 (by decide) (fun c_3 => ?_) (fun c_3 => ?_)
    · skip
      have c_3d := Int32.not_lt.mpr c_3
      refine lv_aload_n hx hb dX0_objectionToMove_33 rfl (lv_at hl 1 rfl) ?_
      refine lv_iload_n hx hb dX0_objectionToMove_34 rfl (lv_at hl 3 rfl) ?_
      refine lv_iload_n hx hb dX0_objectionToMove_35 rfl (lv_at hl 4 rfl) ?_
      have hge0_q_4 := hS.1
      refine sp_callR (va_runV (As := [.int (r), .int (c1)]) (rest := []) ⟨hx, hb, hml, hown, hts⟩ (c_X0_objectionToCell l D ad cy pm rj σ _ r c1) (cwV 2 hts gX0_objectionToMove_X0_objectionToCell rfl rfl rfl (by decide +kernel) ⟨Nat.le_of_ble_eq_true rfl, Nat.le_of_ble_eq_true rfl⟩) (sp_preVm hK hP (κ := 0) (by omega) (cE_beach (by omega) (by omega)) rfl) rfl rfl hl.1 rfl (lv_room (Nat.le_of_ble_eq_true rfl)) dX0_objectionToMove_36 ⟨Nat.le_of_ble_eq_true rfl, Nat.le_of_ble_eq_true rfl⟩) hS (fun z h => Nat.le_trans hS.1 h) (fun v_5 H locs hle_q_4 hk_q_4 hS => ?_) (fun x1_q_4 x2_q_4 q_4 v_5 hge_q_4 H locs hle_q_4 hk_q_4 hS hat_q_4 => ?_)
      · have hP := sp_P_ext hP hk_q_4
        exact W.aret (v := .null) (rt := (.object "SandProofreader$Rejection")) hx hb hr (Or.inl ⟨_, rfl⟩) (Or.inl rfl) (fun T9 hT9 _ => ⟨hS.F hT9, Or.inl ⟨show f_objMove σ k r c1 = none from (by first | rfl | (simp [f_objMove, b2i, c_1, c_1d, c_3, c_3d, v_5]; done)), rfl⟩⟩) hS.2.2 dX0_objectionToMove_39
      · have hP := sp_P_ext hP hk_q_4
        exact W.aret (v := .ref q_4) (rt := (.object "SandProofreader$Rejection")) hx hb hr (Or.inl ⟨_, rfl⟩) (Or.inr ⟨_, rfl⟩) (fun T9 hT9 _ => ⟨hS.F hT9, Or.inr ⟨(x1_q_4, x2_q_4), q_4, show f_objMove σ k r c1 = some (x1_q_4, x2_q_4) from (by first | rfl | (simp [f_objMove, b2i, c_1, c_1d, c_3, c_3d, v_5]; done)), rfl, (Nat.le_trans hge0_q_4 hge_q_4), by rw [hT9]; exact hat_q_4⟩⟩) hS.2.2 dX0_objectionToMove_39
    · skip
      have c_3d := Int32.not_le.mp c_3
      have hge_q_6 := hS.1
      refine sp_new (fs := [.int 0, .int 0, .null]) (ci := 8) (C := RX5) (T := TX5) (N := 3) hx hb hts wi_X0_objectionToMove_X5 tyX5 tyX5_ok hown (hts _ (List.mem_of_getElem? (i := 1) rfl)) (hts _ (List.mem_of_getElem? (i := 2) rfl)) (hts _ (List.mem_of_getElem? (i := 3) rfl)) hK hS rfl (fun j hj => by rcases (show j = 0 ∨ j = 1 ∨ j = 2 by omega) with rfl | rfl | rfl <;> rfl) (Nat.le_of_ble_eq_true rfl) (Nat.le_of_ble_eq_true rfl) dX0_objectionToMove_20 (fun q_6 H hq_6 hz_q_6 hk_q_6 hat_q_6 hS => ?_)
      have hge_q_6 : s.heap.size ≤ q_6 := by rw [hq_6]; exact hge_q_6
      have hP9_q_6 := hP
      have hP := sp_P_ext hP hk_q_6
      refine lv_dup hx hb dX0_objectionToMove_23 rfl ?_
      refine lv_bipush (v := 6) hx hb dX0_objectionToMove_24 (by decide) ?_
      refine lv_iload hx hb dX0_objectionToMove_26 (lv_at hl 0 rfl) ?_
      refine lv_null hx hb dX0_objectionToMove_28 ?_
      refine sp_callm (va_runI (As := [.int (6), .int (f_dist σ (9 + k) r c1), .null]) (rest := [.ref (q_6)]) ⟨hx, hb, hml, hown, hts⟩ (c_X5_init l D (tyG cy) q_6 _ 6 (f_dist σ (9 + k) r c1) none) (cwI 3 hts gX0_objectionToMove_X5_init rfl rfl rfl (hts _ (List.mem_of_getElem? (i := 3) rfl)) (hts _ (List.mem_of_getElem? (i := 15) rfl)) (hts _ (List.mem_of_getElem? (i := 16) rfl)) rfl (by decide +kernel) ⟨Nat.le_of_ble_eq_true rfl, Nat.le_of_ble_eq_true rfl⟩) ⟨sp_blindm, fun U hU hW => ⟨rfl, by rw [hU], by rw [hU]; exact sp_one hat_q_6, va_K.moved hW.alike hK⟩⟩ rfl rfl hl.1 rfl (lv_room (Nat.le_of_ble_eq_true rfl)) dX0_objectionToMove_29 ⟨Nat.le_of_ble_eq_true rfl, Nat.le_of_ble_eq_true rfl⟩) hS (fun z h1 h2 => by rw [h2]; exact hge_q_6) (fun z h2 => by rw [h2]; exact hge_q_6) (fun H locs hPq_q_6 hle_q_6 hfr_q_6 hS => ?_)
      have hat_q_6 := hPq_q_6 0 _ rfl
      have hP := sp_P_new hP9_q_6 hq_6 hP hfr_q_6
      refine W.eq (g2 := F0 m 32 ls [.ref (q_6)]) rfl ?_
      exact W.aret (v := .ref q_6) (rt := (.object "SandProofreader$Rejection")) hx hb hr (Or.inl ⟨_, rfl⟩) (Or.inr ⟨_, rfl⟩) (fun T9 hT9 _ => ⟨hS.F hT9, Or.inr ⟨(6, f_dist σ (9 + k) r c1), q_6, show f_objMove σ k r c1 = some (6, f_dist σ (9 + k) r c1) from (by first | rfl | (simp [f_objMove, b2i, c_1, c_1d, c_3, c_3d]; done)), rfl, hge_q_6, by rw [hT9]; exact hat_q_6⟩⟩) hS.2.2 dX0_objectionToMove_32

theorem wi_X0_objectionToDoubt_X3 : ∀ w ∈ wsX30, w ∈ wsX0_objectionToDoubt := by decide +kernel
theorem wi_X0_objectionToDoubt_X5 : ∀ w ∈ wsX50, w ∈ wsX0_objectionToDoubt := by decide +kernel
set_option maxHeartbeats 4000000 in
set_option maxRecDepth 100000 in
theorem c_X0_objectionToDoubt (l : Launch) (D : va_G) (ad : Nat → Nat) (cy : Nat → ClassId) (pm : Nat → Nat) (rj : Option Nat) (σ : Nat → Nat → Int32) (sz : Nat) (k : Nat) (hk : k < 30) : Met l yX0_objectionToDoubt wsX0_objectionToDoubt ({ frames := 2, cells := 1, slots := 3, locals := 43 } : Room) (sp_Pm D (tyG cy) sz [.ref (ad (0)), .ref (ad (9 + k))] (cW ad cy pm rj σ)) (sp_R D (f_objDoubt σ k)) 1 3 (fun q => sz ≤ q) := by
  refine Met.ofW (cc := cX0_objectionToDoubt) (maxL := 2) (ret := (some (.object "SandProofreader$Rejection"))) (by decide) rfl ?_
  intro p e s m args below meth c s₁ B hml hv
  obtain ⟨rfl, hsz, hP, hK⟩ := hv
  have hx := B.exec
  have hb := B.bytes
  have hr := B.returns
  have hts := atoms_spec (ws := wsX0_objectionToDoubt) B.pre
  have hown : s.vm.findClass RX0 = some m.cls := findClass_of_methodNamed B.named
  have hlocks := B.notSynchronized
  subst hsz
  have hS : va_S (fun q => s.heap.size ≤ q) s.heap s.heap [] := va_S.rf
  have hl := lv_entry ([.ref (ad (0)), .ref (ad (9 + k))]) (n := 2) (Nat.le_of_ble_eq_true rfl)
  refine W.eq (lg_entry_eq _ ([.ref (ad (0)), .ref (ad (9 + k))]) _) ?_
  generalize (lg_sl ([.ref (ad (0)), .ref (ad (9 + k))]) ++ List.replicate (2 - (lg_sl ([.ref (ad (0)), .ref (ad (9 + k))])).length) Slot.unset).toArray = ls at hl ⊢
  have hl : lv_has ls 2 [(0, .ref (ad (0))), (1, .ref (ad (9 + k)))] := hl
  refine lv_aload_n hx hb dX0_objectionToDoubt_0 rfl (lv_at hl 1 rfl) ?_
  refine sp_get hx hb hts wi_X0_objectionToDoubt_X3 hown hK hP (κ := 9 + k) (by omega) (cE_print (by omega) (by omega)) rfl 8 (by decide) (hts _ (List.mem_of_getElem? (i := 1) rfl)) (fun _ h => h) rfl dX0_objectionToDoubt_1 ?_
  refine lv_iconst (v := 3) hx hb dX0_objectionToDoubt_4 (by decide) ?_
  refine lv_icmp_lt (tgt := 20) hx hb dX0_objectionToDoubt_5 (by decide) (fun c_1 => ?_) (fun c_1 => ?_)
  · skip
    have c_1d := Int32.not_le.mpr c_1
    refine lv_null hx hb dX0_objectionToDoubt_20 ?_
    refine W.widen (k := 1) (n := 3) (by omega) (by omega) ?_
    exact W.aret (v := .null) (rt := (.object "SandProofreader$Rejection")) hx hb hr (Or.inl ⟨_, rfl⟩) (Or.inl rfl) (fun T9 hT9 _ => ⟨hS.F hT9, Or.inl ⟨show f_objDoubt σ k = none from (by first | rfl | (simp [f_objDoubt, b2i, c_1, c_1d]; done)), rfl⟩⟩) hS.2.2 dX0_objectionToDoubt_21
  · skip
    have c_1d := Int32.not_lt.mp c_1
    have hge_q_2 := hS.1
    refine sp_new (fs := [.int 0, .int 0, .null]) (ci := 8) (C := RX5) (T := TX5) (N := 3) hx hb hts wi_X0_objectionToDoubt_X5 tyX5 tyX5_ok hown (hts _ (List.mem_of_getElem? (i := 2) rfl)) (hts _ (List.mem_of_getElem? (i := 3) rfl)) (hts _ (List.mem_of_getElem? (i := 4) rfl)) hK hS rfl (fun j hj => by rcases (show j = 0 ∨ j = 1 ∨ j = 2 by omega) with rfl | rfl | rfl <;> rfl) (Nat.le_of_ble_eq_true rfl) (Nat.le_of_ble_eq_true rfl) dX0_objectionToDoubt_8 (fun q_2 H hq_2 hz_q_2 hk_q_2 hat_q_2 hS => ?_)
    have hge_q_2 : s.heap.size ≤ q_2 := by rw [hq_2]; exact hge_q_2
    have hP9_q_2 := hP
    have hP := sp_P_ext hP hk_q_2
    refine lv_dup hx hb dX0_objectionToDoubt_11 rfl ?_
    refine lv_bipush (v := 7) hx hb dX0_objectionToDoubt_12 (by decide) ?_
    refine lv_iconst (v := 3) hx hb dX0_objectionToDoubt_14 (by decide) ?_
    refine lv_null hx hb dX0_objectionToDoubt_15 ?_
    refine sp_callm (va_runI (As := [.int (7), .int (3), .null]) (rest := [.ref (q_2)]) ⟨hx, hb, hml, hown, hts⟩ (c_X5_init l D (tyG cy) q_2 _ 7 3 none) (cwI 3 hts gX0_objectionToDoubt_X5_init rfl rfl rfl (hts _ (List.mem_of_getElem? (i := 4) rfl)) (hts _ (List.mem_of_getElem? (i := 5) rfl)) (hts _ (List.mem_of_getElem? (i := 6) rfl)) rfl (by decide +kernel) ⟨Nat.le_of_ble_eq_true rfl, Nat.le_of_ble_eq_true rfl⟩) ⟨sp_blindm, fun U hU hW => ⟨rfl, by rw [hU], by rw [hU]; exact sp_one hat_q_2, va_K.moved hW.alike hK⟩⟩ rfl rfl hl.1 rfl (lv_room (Nat.le_of_ble_eq_true rfl)) dX0_objectionToDoubt_16 ⟨Nat.le_of_ble_eq_true rfl, Nat.le_of_ble_eq_true rfl⟩) hS (fun z h1 h2 => by rw [h2]; exact hge_q_2) (fun z h2 => by rw [h2]; exact hge_q_2) (fun H locs hPq_q_2 hle_q_2 hfr_q_2 hS => ?_)
    have hat_q_2 := hPq_q_2 0 _ rfl
    have hP := sp_P_new hP9_q_2 hq_2 hP hfr_q_2
    refine W.eq (g2 := F0 m 19 ls [.ref (q_2)]) rfl ?_
    exact W.aret (v := .ref q_2) (rt := (.object "SandProofreader$Rejection")) hx hb hr (Or.inl ⟨_, rfl⟩) (Or.inr ⟨_, rfl⟩) (fun T9 hT9 _ => ⟨hS.F hT9, Or.inr ⟨(7, 3), q_2, show f_objDoubt σ k = some (7, 3) from (by first | rfl | (simp [f_objDoubt, b2i, c_1, c_1d]; done)), rfl, hge_q_2, by rw [hT9]; exact hat_q_2⟩⟩) hS.2.2 dX0_objectionToDoubt_19

theorem wi_X0_objectionToConfirmation_X3 : ∀ w ∈ wsX30, w ∈ wsX0_objectionToConfirmation := by decide +kernel
theorem wi_X0_objectionToConfirmation_X5 : ∀ w ∈ wsX50, w ∈ wsX0_objectionToConfirmation := by decide +kernel
set_option maxHeartbeats 4000000 in
set_option maxRecDepth 100000 in
theorem c_X0_objectionToConfirmation (l : Launch) (D : va_G) (ad : Nat → Nat) (cy : Nat → ClassId) (pm : Nat → Nat) (rj : Option Nat) (σ : Nat → Nat → Int32) (sz : Nat) (k : Nat) (hk : k < 30) : Met l yX0_objectionToConfirmation wsX0_objectionToConfirmation ({ frames := 2, cells := 1, slots := 3, locals := 43 } : Room) (sp_Pm D (tyG cy) sz [.ref (ad (0)), .ref (ad (9 + k))] (cW ad cy pm rj σ)) (sp_R D (f_objConf σ k)) 1 3 (fun q => sz ≤ q) := by
  refine Met.ofW (cc := cX0_objectionToConfirmation) (maxL := 2) (ret := (some (.object "SandProofreader$Rejection"))) (by decide) rfl ?_
  intro p e s m args below meth c s₁ B hml hv
  obtain ⟨rfl, hsz, hP, hK⟩ := hv
  have hx := B.exec
  have hb := B.bytes
  have hr := B.returns
  have hts := atoms_spec (ws := wsX0_objectionToConfirmation) B.pre
  have hown : s.vm.findClass RX0 = some m.cls := findClass_of_methodNamed B.named
  have hlocks := B.notSynchronized
  subst hsz
  have hS : va_S (fun q => s.heap.size ≤ q) s.heap s.heap [] := va_S.rf
  have hl := lv_entry ([.ref (ad (0)), .ref (ad (9 + k))]) (n := 2) (Nat.le_of_ble_eq_true rfl)
  refine W.eq (lg_entry_eq _ ([.ref (ad (0)), .ref (ad (9 + k))]) _) ?_
  generalize (lg_sl ([.ref (ad (0)), .ref (ad (9 + k))]) ++ List.replicate (2 - (lg_sl ([.ref (ad (0)), .ref (ad (9 + k))])).length) Slot.unset).toArray = ls at hl ⊢
  have hl : lv_has ls 2 [(0, .ref (ad (0))), (1, .ref (ad (9 + k)))] := hl
  refine lv_aload_n hx hb dX0_objectionToConfirmation_0 rfl (lv_at hl 1 rfl) ?_
  refine sp_get hx hb hts wi_X0_objectionToConfirmation_X3 hown hK hP (κ := 9 + k) (by omega) (cE_print (by omega) (by omega)) rfl 8 (by decide) (hts _ (List.mem_of_getElem? (i := 1) rfl)) (fun _ h => h) rfl dX0_objectionToConfirmation_1 ?_
  refine lv_if_le (tgt := 11) hx hb dX0_objectionToConfirmation_4 (by decide) (fun c_1 => ?_) (fun c_1 => ?_)
  · skip
    have c_1d := Int32.not_lt.mpr c_1
    have hge_q_2 := hS.1
    refine sp_new (fs := [.int 0, .int 0, .null]) (ci := 8) (C := RX5) (T := TX5) (N := 3) hx hb hts wi_X0_objectionToConfirmation_X5 tyX5 tyX5_ok hown (hts _ (List.mem_of_getElem? (i := 2) rfl)) (hts _ (List.mem_of_getElem? (i := 3) rfl)) (hts _ (List.mem_of_getElem? (i := 4) rfl)) hK hS rfl (fun j hj => by rcases (show j = 0 ∨ j = 1 ∨ j = 2 by omega) with rfl | rfl | rfl <;> rfl) (Nat.le_of_ble_eq_true rfl) (Nat.le_of_ble_eq_true rfl) dX0_objectionToConfirmation_11 (fun q_2 H hq_2 hz_q_2 hk_q_2 hat_q_2 hS => ?_)
    have hge_q_2 : s.heap.size ≤ q_2 := by rw [hq_2]; exact hge_q_2
    have hP9_q_2 := hP
    have hP := sp_P_ext hP hk_q_2
    refine lv_dup hx hb dX0_objectionToConfirmation_14 rfl ?_
    refine lv_bipush (v := 8) hx hb dX0_objectionToConfirmation_15 (by decide) ?_
    refine lv_iconst (v := 0) hx hb dX0_objectionToConfirmation_17 (by decide) ?_
    refine lv_null hx hb dX0_objectionToConfirmation_18 ?_
    refine sp_callm (va_runI (As := [.int (8), .int (0), .null]) (rest := [.ref (q_2)]) ⟨hx, hb, hml, hown, hts⟩ (c_X5_init l D (tyG cy) q_2 _ 8 0 none) (cwI 3 hts gX0_objectionToConfirmation_X5_init rfl rfl rfl (hts _ (List.mem_of_getElem? (i := 4) rfl)) (hts _ (List.mem_of_getElem? (i := 5) rfl)) (hts _ (List.mem_of_getElem? (i := 6) rfl)) rfl (by decide +kernel) ⟨Nat.le_of_ble_eq_true rfl, Nat.le_of_ble_eq_true rfl⟩) ⟨sp_blindm, fun U hU hW => ⟨rfl, by rw [hU], by rw [hU]; exact sp_one hat_q_2, va_K.moved hW.alike hK⟩⟩ rfl rfl hl.1 rfl (lv_room (Nat.le_of_ble_eq_true rfl)) dX0_objectionToConfirmation_19 ⟨Nat.le_of_ble_eq_true rfl, Nat.le_of_ble_eq_true rfl⟩) hS (fun z h1 h2 => by rw [h2]; exact hge_q_2) (fun z h2 => by rw [h2]; exact hge_q_2) (fun H locs hPq_q_2 hle_q_2 hfr_q_2 hS => ?_)
    have hat_q_2 := hPq_q_2 0 _ rfl
    have hP := sp_P_new hP9_q_2 hq_2 hP hfr_q_2
    refine W.eq (g2 := F0 m 22 ls [.ref (q_2)]) rfl ?_
    exact W.aret (v := .ref q_2) (rt := (.object "SandProofreader$Rejection")) hx hb hr (Or.inl ⟨_, rfl⟩) (Or.inr ⟨_, rfl⟩) (fun T9 hT9 _ => ⟨hS.F hT9, Or.inr ⟨(8, 0), q_2, show f_objConf σ k = some (8, 0) from (by first | rfl | (simp [f_objConf, b2i, c_1, c_1d]; done)), rfl, hge_q_2, by rw [hT9]; exact hat_q_2⟩⟩) hS.2.2 dX0_objectionToConfirmation_22
  · skip
    have c_1d := Int32.not_le.mp c_1
    refine lv_null hx hb dX0_objectionToConfirmation_7 ?_
    refine lv_goto (tgt := 22) hx hb dX0_objectionToConfirmation_8 (by decide) ?_
    refine W.widen (k := 1) (n := 3) (by omega) (by omega) ?_
    exact W.aret (v := .null) (rt := (.object "SandProofreader$Rejection")) hx hb hr (Or.inl ⟨_, rfl⟩) (Or.inl rfl) (fun T9 hT9 _ => ⟨hS.F hT9, Or.inl ⟨show f_objConf σ k = none from (by first | rfl | (simp [f_objConf, b2i, c_1, c_1d]; done)), rfl⟩⟩) hS.2.2 dX0_objectionToConfirmation_22

theorem wi_X0_objectionToTide_X0 : ∀ w ∈ wsX00, w ∈ wsX0_objectionToTide := by decide +kernel
theorem wi_X0_objectionToTide_X5 : ∀ w ∈ wsX50, w ∈ wsX0_objectionToTide := by decide +kernel
set_option maxHeartbeats 4000000 in
set_option maxRecDepth 100000 in
theorem c_X0_objectionToTide (l : Launch) (D : va_G) (ad : Nat → Nat) (cy : Nat → ClassId) (pm : Nat → Nat) (rj : Option Nat) (σ : Nat → Nat → Int32) (sz : Nat) (v : Int32) : Met l yX0_objectionToTide wsX0_objectionToTide ({ frames := 2, cells := 1, slots := 3, locals := 43 } : Room) (sp_Pm D (tyG cy) sz [.ref (ad (0)), .int (v)] (cW ad cy pm rj σ)) (sp_R D (f_objTide σ v)) 1 3 (fun q => sz ≤ q) := by
  refine Met.ofW (cc := cX0_objectionToTide) (maxL := 2) (ret := (some (.object "SandProofreader$Rejection"))) (by decide) rfl ?_
  intro p e s m args below meth c s₁ B hml hv
  obtain ⟨rfl, hsz, hP, hK⟩ := hv
  have hx := B.exec
  have hb := B.bytes
  have hr := B.returns
  have hts := atoms_spec (ws := wsX0_objectionToTide) B.pre
  have hown : s.vm.findClass RX0 = some m.cls := findClass_of_methodNamed B.named
  have hlocks := B.notSynchronized
  subst hsz
  have hS : va_S (fun q => s.heap.size ≤ q) s.heap s.heap [] := va_S.rf
  have hl := lv_entry ([.ref (ad (0)), .int (v)]) (n := 2) (Nat.le_of_ble_eq_true rfl)
  refine W.eq (lg_entry_eq _ ([.ref (ad (0)), .int (v)]) _) ?_
  generalize (lg_sl ([.ref (ad (0)), .int (v)]) ++ List.replicate (2 - (lg_sl ([.ref (ad (0)), .int (v)])).length) Slot.unset).toArray = ls at hl ⊢
  have hl : lv_has ls 2 [(0, .ref (ad (0))), (1, .int (v))] := hl
  refine lv_iload_n hx hb dX0_objectionToTide_0 rfl (lv_at hl 1 rfl) ?_
  refine lv_aload_n hx hb dX0_objectionToTide_1 rfl (lv_at hl 0 rfl) ?_
  refine sp_get hx hb hts wi_X0_objectionToTide_X0 hown hK hP (κ := 0) (by omega) (cE_beach (by omega) (by omega)) rfl 2 (by decide) (hts _ (List.mem_of_getElem? (i := 1) rfl)) (fun _ h => h) rfl dX0_objectionToTide_2 ?_
  refine lv_icmp_eq (tgt := 12) hx hb dX0_objectionToTide_5 (by decide) (fun c_1 => ?_) (fun c_1 => ?_)
  · skip
    have hge_q_2 := hS.1
    refine sp_new (fs := [.int 0, .int 0, .null]) (ci := 8) (C := RX5) (T := TX5) (N := 3) hx hb hts wi_X0_objectionToTide_X5 tyX5 tyX5_ok hown (hts _ (List.mem_of_getElem? (i := 2) rfl)) (hts _ (List.mem_of_getElem? (i := 3) rfl)) (hts _ (List.mem_of_getElem? (i := 4) rfl)) hK hS rfl (fun j hj => by rcases (show j = 0 ∨ j = 1 ∨ j = 2 by omega) with rfl | rfl | rfl <;> rfl) (Nat.le_of_ble_eq_true rfl) (Nat.le_of_ble_eq_true rfl) dX0_objectionToTide_12 (fun q_2 H hq_2 hz_q_2 hk_q_2 hat_q_2 hS => ?_)
    have hge_q_2 : s.heap.size ≤ q_2 := by rw [hq_2]; exact hge_q_2
    have hP9_q_2 := hP
    have hP := sp_P_ext hP hk_q_2
    refine lv_dup hx hb dX0_objectionToTide_15 rfl ?_
    refine lv_bipush (v := 9) hx hb dX0_objectionToTide_16 (by decide) ?_
    refine lv_aload_n hx hb dX0_objectionToTide_18 rfl (lv_at hl 0 rfl) ?_
    refine sp_get hx hb hts wi_X0_objectionToTide_X0 hown hK hP (κ := 0) (by omega) (cE_beach (by omega) (by omega)) rfl 2 (by decide) (hts _ (List.mem_of_getElem? (i := 1) rfl)) (fun _ h => h) rfl dX0_objectionToTide_19 ?_
    refine lv_null hx hb dX0_objectionToTide_22 ?_
    refine sp_callm (va_runI (As := [.int (9), .int (σ 0 2), .null]) (rest := [.ref (q_2)]) ⟨hx, hb, hml, hown, hts⟩ (c_X5_init l D (tyG cy) q_2 _ 9 (σ 0 2) none) (cwI 3 hts gX0_objectionToTide_X5_init rfl rfl rfl (hts _ (List.mem_of_getElem? (i := 4) rfl)) (hts _ (List.mem_of_getElem? (i := 5) rfl)) (hts _ (List.mem_of_getElem? (i := 6) rfl)) rfl (by decide +kernel) ⟨Nat.le_of_ble_eq_true rfl, Nat.le_of_ble_eq_true rfl⟩) ⟨sp_blindm, fun U hU hW => ⟨rfl, by rw [hU], by rw [hU]; exact sp_one hat_q_2, va_K.moved hW.alike hK⟩⟩ rfl rfl hl.1 rfl (lv_room (Nat.le_of_ble_eq_true rfl)) dX0_objectionToTide_23 ⟨Nat.le_of_ble_eq_true rfl, Nat.le_of_ble_eq_true rfl⟩) hS (fun z h1 h2 => by rw [h2]; exact hge_q_2) (fun z h2 => by rw [h2]; exact hge_q_2) (fun H locs hPq_q_2 hle_q_2 hfr_q_2 hS => ?_)
    have hat_q_2 := hPq_q_2 0 _ rfl
    have hP := sp_P_new hP9_q_2 hq_2 hP hfr_q_2
    refine W.eq (g2 := F0 m 26 ls [.ref (q_2)]) rfl ?_
    exact W.aret (v := .ref q_2) (rt := (.object "SandProofreader$Rejection")) hx hb hr (Or.inl ⟨_, rfl⟩) (Or.inr ⟨_, rfl⟩) (fun T9 hT9 _ => ⟨hS.F hT9, Or.inr ⟨(9, σ 0 2), q_2, show f_objTide σ v = some (9, σ 0 2) from (by first | rfl | (simp [f_objTide, b2i, c_1]; done)), rfl, hge_q_2, by rw [hT9]; exact hat_q_2⟩⟩) hS.2.2 dX0_objectionToTide_26
  · skip
    refine lv_null hx hb dX0_objectionToTide_8 ?_
    refine lv_goto (tgt := 26) hx hb dX0_objectionToTide_9 (by decide) ?_
    refine W.widen (k := 1) (n := 3) (by omega) (by omega) ?_
    exact W.aret (v := .null) (rt := (.object "SandProofreader$Rejection")) hx hb hr (Or.inl ⟨_, rfl⟩) (Or.inl rfl) (fun T9 hT9 _ => ⟨hS.F hT9, Or.inl ⟨show f_objTide σ v = none from (by first | rfl | (simp [f_objTide, b2i, c_1]; done)), rfl⟩⟩) hS.2.2 dX0_objectionToTide_26
