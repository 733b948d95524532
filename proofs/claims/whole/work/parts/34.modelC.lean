
/-! the model's answers -/
theorem m_pn (w : Nat) : (19 + (-9) : Int32) + nI w = nI (10 + w) := by rw [show (19 + (-9) : Int32) = nI 10 by decide]; exact nI_addE rfl rfl
def m_pv (μ : Nat → Int32) (o : Option Nat) (w : Nat) : Int32 := match o with
  | none => μ (10 + w)
  | some k => gP μ k w
def upd2 (μ : Nat → Int32) (a : Nat) (v : Int32) (b : Nat) (w : Int32) : Nat → Int32 := upd (upd μ a v) b w
theorem st2_1 (μ : Nat → Nat → Int32) (a : Nat) (v : Int32) (b : Nat) (w : Int32) : sp_st (sp_st μ 1 a v) 1 b w 1 = upd2 (μ 1) a v b w := by
  unfold upd2
  rw [sp_st_up, sp_up_same, sp_st_up, sp_up_same]
def m_there (μ : Nat → Int32) (n t a : Nat) (r c1 : Int32) : Int32 := m_errs (upd2 μ (19 + 9 * a + 3) r (19 + 9 * a + 4) c1) n t (gP (upd2 μ (19 + 9 * a + 3) r (19 + 9 * a + 4) c1) a 1)
theorem m_back (μ : Nat → Nat → Int32) (a : Nat) (r c1 : Int32) : sp_st (sp_st (sp_st (sp_st μ 1 (19 + 9 * a + 3) r) 1 (19 + 9 * a + 4) c1) 1 (19 + 9 * a + 3) (gP (μ 1) a 3)) 1 (19 + 9 * a + 4) (gP (μ 1) a 4) = μ := by
  funext x b
  simp only [sp_st_at]
  by_cases ha : x = 1
  · subst ha
    by_cases h4 : b = 19 + 9 * a + 4
    · subst h4; simp [gP]
    · by_cases h3 : b = 19 + 9 * a + 3
      · subst h3; simp [gP]
      · simp [h4, h3]
  · simp [ha]
def m_may (μ : Nat → Int32) (n a : Nat) (r c1 : Int32) : Bool := m_in (m_dist μ a r c1) 1 2 && decide (μ 4 ≤ r) && (m_cell μ n r c1).isNone
theorem wi_X10_p_n_X10 : ∀ w ∈ wsX100, w ∈ wsX10_p := by decide +kernel
set_option maxHeartbeats 4000000 in
set_option maxRecDepth 100000 in
theorem c_X10_p_n (l : Launch) (D : va_G) (am : Nat → Nat) (cy : Nat → ClassId) (μ : Nat → Nat → Int32) (w : Nat) (hw : w < 9) : Met l yX10_p wsX10_p ({ frames := 0, cells := 0, slots := 0, locals := 0 } : Room) (sp_Pc D (tyG cy) [.ref (am (0)), .int ((-1)), .int (nI w)] (mW am cy μ)) (sp_S (some (.int (μ 1 (10 + w))))) 0 0 (fun _ => False) := by
  refine Met.ofW (cc := cX10_p) (maxL := 3) (ret := (some .int)) (by decide) rfl ?_
  intro p e s m args below meth c s₁ B hml hv
  obtain ⟨rfl, hP, hK⟩ := hv
  have hx := B.exec
  have hb := B.bytes
  have hr := B.returns
  have hts := atoms_spec (ws := wsX10_p) B.pre
  have hown : s.vm.findClass RX10 = some m.cls := findClass_of_methodNamed B.named
  have hlocks := B.notSynchronized
  have hl := lv_entry ([.ref (am (0)), .int ((-1)), .int (nI w)]) (n := 3) (Nat.le_of_ble_eq_true rfl)
  refine W.eq (lg_entry_eq _ ([.ref (am (0)), .int ((-1)), .int (nI w)]) _) ?_
  generalize (lg_sl ([.ref (am (0)), .int ((-1)), .int (nI w)]) ++ List.replicate (3 - (lg_sl ([.ref (am (0)), .int ((-1)), .int (nI w)])).length) Slot.unset).toArray = ls at hl ⊢
  have hl : lv_has ls 3 [(0, .ref (am (0))), (1, .int ((-1))), (2, .int (nI w))] := hl
  refine lv_aload_n hx hb dX10_p_0 rfl (lv_at hl 0 rfl) ?_
  refine sp_get hx hb hts wi_X10_p_n_X10 hown hK hP (κ := 0) (by decide) mE_0 rfl 1 (by decide) (hts _ (List.mem_of_getElem? (i := 1) rfl)) (fun _ h => h) rfl dX10_p_1 ?_
  refine lv_bipush (v := 19) hx hb dX10_p_4 (by decide) ?_
  refine lv_bipush (v := 9) hx hb dX10_p_6 (by decide) ?_
  refine lv_iload_n hx hb dX10_p_8 rfl (lv_at hl 1 rfl) ?_
  refine lv_imul hx hb dX10_p_9 ?_
  refine W.eq (g2 := F0 m 10 ls [.int ((-9)), .int (19), .ref (am (1))]) rfl ?_
  refine lv_iadd hx hb dX10_p_10 ?_
  refine W.eq (g2 := F0 m 11 ls [.int (10), .ref (am (1))]) rfl ?_
  refine lv_iload_n hx hb dX10_p_11 rfl (lv_at hl 2 rfl) ?_
  refine lv_iadd hx hb dX10_p_12 ?_
  refine sp_iald hx hb hK hP (κ := 1) (by decide) 1 mE_1 rfl (10 + w) (nI_addE rfl rfl) (by omega) (by decide) dX10_p_13 ?_
  exact W.iret (v := μ 1 (10 + w)) hx hb hr (fun T9 hT9 _ => ⟨congrArg (fun z9 => Outcome.returned (some (Value.int z9))) (show (μ 1 (10 + w) : Int32) = μ 1 (10 + w) from (by rfl)), hT9⟩) (fun _ h => by cases h) dX10_p_14

theorem wi_X10_isFine_b_X10 : ∀ w ∈ wsX100, w ∈ wsX10_isFine := by decide +kernel
set_option maxHeartbeats 4000000 in
set_option maxRecDepth 100000 in
theorem c_X10_isFine_b (l : Launch) (D : va_G) (am : Nat → Nat) (cy : Nat → ClassId) (μ : Nat → Nat → Int32) (sz : Nat) (hi : sp_inj am 5) (b : Bool) : Met l yX10_isFine wsX10_isFine ({ frames := 0, cells := 0, slots := 0, locals := 0 } : Room) (sp_Pm D (tyG cy) sz [.ref (am (0)), .int (b2i b)] (mW am cy μ)) (sp_Q D (some (.int (b2i (b)))) (mW am cy (sp_st μ 0 0 (b2i (!b)))) (sp_A am 5 sz)) 0 0 (sp_A am 5 sz) := by
  refine Met.ofW (cc := cX10_isFine) (maxL := 2) (ret := (some .boolean)) (by decide) rfl ?_
  intro p e s m args below meth c s₁ B hml hv
  obtain ⟨rfl, hsz, hP, hK⟩ := hv
  have hx := B.exec
  have hb := B.bytes
  have hr := B.returns
  have hts := atoms_spec (ws := wsX10_isFine) B.pre
  have hown : s.vm.findClass RX10 = some m.cls := findClass_of_methodNamed B.named
  have hlocks := B.notSynchronized
  subst hsz
  have hS : va_S (sp_A am 5 s.heap.size) s.heap s.heap [] := va_S.rf
  have hAk : ∀ k, k < 5 → (sp_A am 5 s.heap.size) (am k) := fun k hk => Or.inl ⟨k, hk, rfl⟩
  skip
  have hl := lv_entry ([.ref (am (0)), .int (b2i b)]) (n := 2) (Nat.le_of_ble_eq_true rfl)
  refine W.eq (lg_entry_eq _ ([.ref (am (0)), .int (b2i b)]) _) ?_
  generalize (lg_sl ([.ref (am (0)), .int (b2i b)]) ++ List.replicate (2 - (lg_sl ([.ref (am (0)), .int (b2i b)])).length) Slot.unset).toArray = ls at hl ⊢
  have hl : lv_has ls 2 [(0, .ref (am (0))), (1, .int (b2i b))] := hl
  refine lv_aload_n hx hb dX10_isFine_0 rfl (lv_at hl 0 rfl) ?_
  refine lv_iload_n hx hb dX10_isFine_1 rfl (lv_at hl 1 rfl) ?_
  refine lv_if_eq (tgt := 9) hx hb dX10_isFine_2 (by decide) (fun c_1 => ?_) (fun c_1 => ?_)
  · rw [b2i_eq0] at c_1
    refine lv_iconst (v := 1) hx hb dX10_isFine_9 (by decide) ?_
    refine sp_put hx hb hts wi_X10_isFine_b_X10 tyX10 tyX10_ok nmX10 hown hK hP hi hAk hS (κ := 0) (by decide) mE_0 rfl 0 (by decide) (hts _ (List.mem_of_getElem? (i := 1) rfl)) (fun _ h => h) rfl (ty := tyX10 0) (by decide +kernel) ⟨rfl, rfl⟩ (Nat.le_of_ble_eq_true rfl) (r1 := upd (μ 0) 0 1) (cE_of mE_0 (by simp [upd])) dX10_isFine_10 (fun H locs hP hS => ?_)
    have hP : va_P D vwCl (mW am cy (sp_st μ 0 0 1)) H := hP
    refine lv_iload_n hx hb dX10_isFine_13 rfl (lv_at hl 1 rfl) ?_
    have hE9 : mW am cy (sp_st μ 0 0 1) = mW am cy (sp_st μ 0 0 (b2i (!b))) := by exact mW_eq (by simp [b2i, b2i, c_1])
    have hP : va_P D vwCl (mW am cy (sp_st μ 0 0 (b2i (!b)))) H := by rw [← hE9]; exact hP
    exact W.zret (v := b2i b) hx hb hr ((nz_of (bz_b2i _)).1) (fun T9 hT9 _ => ⟨congrArg (fun z9 => Outcome.returned (some (Value.int z9))) (show (b2i b : Int32) = b2i (b) from (by simp [b2i, b2i, c_1])), by rw [hT9]; exact hP, hS.F hT9⟩) hS.2.2 dX10_isFine_14
  · rw [b2i_eq0] at c_1
    refine lv_iconst (v := 0) hx hb dX10_isFine_5 (by decide) ?_
    refine lv_goto (tgt := 10) hx hb dX10_isFine_6 (by decide) ?_
    refine sp_put hx hb hts wi_X10_isFine_b_X10 tyX10 tyX10_ok nmX10 hown hK hP hi hAk hS (κ := 0) (by decide) mE_0 rfl 0 (by decide) (hts _ (List.mem_of_getElem? (i := 1) rfl)) (fun _ h => h) rfl (ty := tyX10 0) (by decide +kernel) ⟨rfl, rfl⟩ (Nat.le_of_ble_eq_true rfl) (r1 := upd (μ 0) 0 0) (cE_of mE_0 (by simp [upd])) dX10_isFine_10 (fun H locs hP hS => ?_)
    have hP : va_P D vwCl (mW am cy (sp_st μ 0 0 0)) H := hP
    refine lv_iload_n hx hb dX10_isFine_13 rfl (lv_at hl 1 rfl) ?_
    have hE9 : mW am cy (sp_st μ 0 0 0) = mW am cy (sp_st μ 0 0 (b2i (!b))) := by exact mW_eq (by simp [b2i, b2i, c_1])
    have hP : va_P D vwCl (mW am cy (sp_st μ 0 0 (b2i (!b)))) H := by rw [← hE9]; exact hP
    exact W.zret (v := b2i b) hx hb hr ((nz_of (bz_b2i _)).1) (fun T9 hT9 _ => ⟨congrArg (fun z9 => Outcome.returned (some (Value.int z9))) (show (b2i b : Int32) = b2i (b) from (by simp [b2i, b2i, c_1])), by rw [hT9]; exact hP, hS.F hT9⟩) hS.2.2 dX10_isFine_14

set_option maxHeartbeats 4000000 in
set_option maxRecDepth 100000 in
theorem c_X10_ofPrint (l : Launch) (D : va_G) (am : Nat → Nat) (cy : Nat → ClassId) (μ : Nat → Nat → Int32) (sz : Nat) (hi : sp_inj am 5) (n : Nat) (t : Nat) (hM : MS (μ 1) n t) (x : Int32) (w : Nat) (hw : w < 9) : Met l yX10_ofPrint wsX10_ofPrint ({ frames := 2, cells := 0, slots := 0, locals := 44 } : Room) (sp_Pm D (tyG cy) sz [.ref (am (0)), .int (x), .int (nI w)] (mW am cy μ)) (sp_Q D (some (.int (atO (m_find (μ 1) n x) 0 (fun k => gP (μ 1) k w)))) (mW am cy (sp_st μ 0 0 (atO (m_find (μ 1) n x) 1 (fun _ => 0)))) (sp_A am 5 sz)) 0 0 (sp_A am 5 sz) := by
  refine Met.ofW (cc := cX10_ofPrint) (maxL := 4) (ret := (some .int)) (by decide) rfl ?_
  intro p e s m args below meth c s₁ B hml hv
  obtain ⟨rfl, hsz, hP, hK⟩ := hv
  have hx := B.exec
  have hb := B.bytes
  have hr := B.returns
  have hts := atoms_spec (ws := wsX10_ofPrint) B.pre
  have hown : s.vm.findClass RX10 = some m.cls := findClass_of_methodNamed B.named
  have hlocks := B.notSynchronized
  subst hsz
  have hS : va_S (sp_A am 5 s.heap.size) s.heap s.heap [] := va_S.rf
  have hAk : ∀ k, k < 5 → (sp_A am 5 s.heap.size) (am k) := fun k hk => Or.inl ⟨k, hk, rfl⟩
  skip
  have hn30 := hM.2.1
  have ht6 := hM.2.2.2
  have hl := lv_entry ([.ref (am (0)), .int (x), .int (nI w)]) (n := 4) (Nat.le_of_ble_eq_true rfl)
  refine W.eq (lg_entry_eq _ ([.ref (am (0)), .int (x), .int (nI w)]) _) ?_
  generalize (lg_sl ([.ref (am (0)), .int (x), .int (nI w)]) ++ List.replicate (4 - (lg_sl ([.ref (am (0)), .int (x), .int (nI w)])).length) Slot.unset).toArray = ls at hl ⊢
  have hl : lv_has ls 4 [(0, .ref (am (0))), (1, .int (x)), (2, .int (nI w))] := hl
  refine lv_aload_n hx hb dX10_ofPrint_0 rfl (lv_at hl 0 rfl) ?_
  refine lv_iload_n hx hb dX10_ofPrint_1 rfl (lv_at hl 1 rfl) ?_
  refine sp_call (W.runV (As := [.int (x)]) (rest := []) ⟨hx, hb, hml, hown, hts⟩ (c_X10_find l D am cy μ n t (by first | exact hM | exact hi_0 | (repeat first | exact hM | exact hi_0 | refine MS.st0 ?_ | refine MS.st ?_ (by omega))) x) (cwV 1 hts gX10_ofPrint_X10_find rfl rfl rfl (by decide +kernel) ⟨Nat.le_of_ble_eq_true rfl, Nat.le_of_ble_eq_true rfl⟩) (sp_preV hK hP (κ := 0) (by decide) mE_0 rfl) rfl rfl hl.1 rfl (lv_room (Nat.le_of_ble_eq_true rfl)) dX10_ofPrint_2 ⟨Nat.le_of_ble_eq_true rfl, Nat.le_of_ble_eq_true rfl⟩) ?_
  rcases opt_em (m_find (μ 1) n x) with q_1 | ⟨j_2, q_1⟩
  · refine W.eq (g2 := F0 m 5 ls [.int ((-1))]) (by rw [q_1]; rfl) ?_
    refine lv_istore_n (lv' := [(3, .int ((-1))), (0, .ref (am (0))), (1, .int (x)), (2, .int (nI w))]) hx hb dX10_ofPrint_5 rfl hl (by decide) rfl (fun ls hl => ?_)
    refine lv_aload_n hx hb dX10_ofPrint_6 rfl (lv_at hl 1 rfl) ?_
    refine lv_iload_n hx hb dX10_ofPrint_7 rfl (lv_at hl 0 rfl) ?_
    refine lv_if_lt (tgt := 15) hx hb dX10_ofPrint_8 (by decide) (fun c_3 => ?_) (fun c_3 => ?_)
    · skip
      refine lv_iconst (v := 0) hx hb dX10_ofPrint_15 (by decide) ?_
      refine sp_callm (va_runV (As := [.int (0)]) (rest := []) ⟨hx, hb, hml, hown, hts⟩ (c_X10_isFine_0 l D am cy μ _ hi ) (cwV 1 hts gX10_ofPrint_X10_isFine rfl rfl rfl (by decide +kernel) ⟨Nat.le_of_ble_eq_true rfl, Nat.le_of_ble_eq_true rfl⟩) (sp_preVm hK hP (κ := 0) (by decide) mE_0 rfl) rfl rfl hl.1 rfl (lv_room (Nat.le_of_ble_eq_true rfl)) dX10_ofPrint_16 ⟨Nat.le_of_ble_eq_true rfl, Nat.le_of_ble_eq_true rfl⟩) hS (fun q h1 h2 => sp_Alt h1 h2) (sp_Ale hS.1) (fun H locs hP hle hfr hS => ?_)
      refine W.eq (g2 := F0 m 19 ls [.int (0)]) rfl ?_
      refine lv_if_eq (tgt := 31) hx hb dX10_ofPrint_19 (by decide) (fun c_4 => ?_) (fun c_4 => ?_)
      · skip
        refine lv_iconst (v := 0) hx hb dX10_ofPrint_31 (by decide) ?_
        have hE9 : mW am cy (sp_st μ 0 0 1) = mW am cy (sp_st μ 0 0 (atO (m_find (μ 1) n x) 1 (fun _ => 0))) := by exact mW_eq (by simp [atO, b2i, atO, q_1])
        have hP : va_P D vwCl (mW am cy (sp_st μ 0 0 (atO (m_find (μ 1) n x) 1 (fun _ => 0)))) H := by rw [← hE9]; exact hP
        exact W.iret (v := 0) hx hb hr (fun T9 hT9 _ => ⟨congrArg (fun z9 => Outcome.returned (some (Value.int z9))) (show (0 : Int32) = atO (m_find (μ 1) n x) 0 (fun k => gP (μ 1) k w) from (by first | rfl | (simp [atO, b2i, q_1]; done))), by rw [hT9]; exact hP, hS.F hT9⟩) hS.2.2 dX10_ofPrint_32
      · exact absurd c_4 (by decide)
    · exact absurd c_3 (by decide)
  · have hj_2 := m_find_lt q_1
    refine W.eq (g2 := F0 m 5 ls [.int (nI j_2)]) (by rw [q_1]; rfl) ?_
    refine lv_istore_n (lv' := [(3, .int (nI j_2)), (0, .ref (am (0))), (1, .int (x)), (2, .int (nI w))]) hx hb dX10_ofPrint_5 rfl hl (by decide) rfl (fun ls hl => ?_)
    refine lv_aload_n hx hb dX10_ofPrint_6 rfl (lv_at hl 1 rfl) ?_
    refine lv_iload_n hx hb dX10_ofPrint_7 rfl (lv_at hl 0 rfl) ?_
    refine lv_if_lt (tgt := 15) hx hb dX10_ofPrint_8 (by decide) (fun c_5 => ?_) (fun c_5 => ?_)
    · exact absurd c_5 (nI_pos (by omega))
    · skip
      have c_5d := Int32.not_lt.mp c_5
      refine lv_iconst (v := 1) hx hb dX10_ofPrint_11 (by decide) ?_
      refine lv_goto (tgt := 16) hx hb dX10_ofPrint_12 (by decide) ?_
      refine sp_callm (va_runV (As := [.int (1)]) (rest := []) ⟨hx, hb, hml, hown, hts⟩ (c_X10_isFine_1 l D am cy μ _ hi ) (cwV 1 hts gX10_ofPrint_X10_isFine rfl rfl rfl (by decide +kernel) ⟨Nat.le_of_ble_eq_true rfl, Nat.le_of_ble_eq_true rfl⟩) (sp_preVm hK hP (κ := 0) (by decide) mE_0 rfl) rfl rfl hl.1 rfl (lv_room (Nat.le_of_ble_eq_true rfl)) dX10_ofPrint_16 ⟨Nat.le_of_ble_eq_true rfl, Nat.le_of_ble_eq_true rfl⟩) hS (fun q h1 h2 => sp_Alt h1 h2) (sp_Ale hS.1) (fun H locs hP hle hfr hS => ?_)
      refine W.eq (g2 := F0 m 19 ls [.int (1)]) rfl ?_
      refine lv_if_eq (tgt := 31) hx hb dX10_ofPrint_19 (by decide) (fun c_6 => ?_) (fun c_6 => ?_)
      · exact absurd c_6 (by decide)
      · skip
        refine lv_aload_n hx hb dX10_ofPrint_22 rfl (lv_at hl 1 rfl) ?_
        refine lv_iload_n hx hb dX10_ofPrint_23 rfl (lv_at hl 0 rfl) ?_
        refine lv_iload_n hx hb dX10_ofPrint_24 rfl (lv_at hl 3 rfl) ?_
        refine sp_call (W.runV (As := [.int (nI j_2), .int (nI w)]) (rest := []) ⟨hx, hb, hml, hown, hts⟩ (c_X10_p l D am cy (sp_st μ 0 0 0) j_2 (by omega) w (by omega)) (cwV 2 hts gX10_ofPrint_X10_p rfl rfl rfl (by decide +kernel) ⟨Nat.le_of_ble_eq_true rfl, Nat.le_of_ble_eq_true rfl⟩) (sp_preV hK hP (κ := 0) (by decide) mE_0 rfl) rfl rfl hl.1 rfl (lv_room (Nat.le_of_ble_eq_true rfl)) dX10_ofPrint_25 ⟨Nat.le_of_ble_eq_true rfl, Nat.le_of_ble_eq_true rfl⟩) ?_
        refine W.eq (g2 := F0 m 28 ls [.int (gP ((sp_st μ 0 0 0) 1) j_2 w)]) rfl ?_
        refine W.eq (g2 := F0 m 28 ls [.int (gP (μ 1) j_2 w)]) (by rw [st0_1 μ 0 0]) ?_
        refine lv_goto (tgt := 32) hx hb dX10_ofPrint_28 (by decide) ?_
        have hE9 : mW am cy (sp_st μ 0 0 0) = mW am cy (sp_st μ 0 0 (atO (m_find (μ 1) n x) 1 (fun _ => 0))) := by exact mW_eq (by simp [atO, b2i, atO, q_1, c_5, c_5d])
        have hP : va_P D vwCl (mW am cy (sp_st μ 0 0 (atO (m_find (μ 1) n x) 1 (fun _ => 0)))) H := by rw [← hE9]; exact hP
        exact W.iret (v := gP (μ 1) j_2 w) hx hb hr (fun T9 hT9 _ => ⟨congrArg (fun z9 => Outcome.returned (some (Value.int z9))) (show (gP (μ 1) j_2 w : Int32) = atO (m_find (μ 1) n x) 0 (fun k => gP (μ 1) k w) from (by first | rfl | (simp [atO, b2i, q_1, c_5, c_5d]; done))), by rw [hT9]; exact hP, hS.F hT9⟩) hS.2.2 dX10_ofPrint_32

set_option maxHeartbeats 4000000 in
set_option maxRecDepth 100000 in
theorem c_X10_trackOf (l : Launch) (D : va_G) (am : Nat → Nat) (cy : Nat → ClassId) (μ : Nat → Nat → Int32) (sz : Nat) (hi : sp_inj am 5) (n : Nat) (t : Nat) (hM : MS (μ 1) n t) (x : Int32) : Met l yX10_trackOf wsX10_trackOf ({ frames := 3, cells := 0, slots := 0, locals := 67 } : Room) (sp_Pm D (tyG cy) sz [.ref (am (0)), .int (x)] (mW am cy μ)) (sp_Q D (some (.int (atO (m_find (μ 1) n x) 0 (fun k => gP (μ 1) k 1)))) (mW am cy (sp_st μ 0 0 (atO (m_find (μ 1) n x) 1 (fun _ => 0)))) (sp_A am 5 sz)) 0 0 (sp_A am 5 sz) := by
  refine Met.ofW (cc := cX10_trackOf) (maxL := 2) (ret := (some .int)) (by decide) rfl ?_
  intro p e s m args below meth c s₁ B hml hv
  obtain ⟨rfl, hsz, hP, hK⟩ := hv
  have hx := B.exec
  have hb := B.bytes
  have hr := B.returns
  have hts := atoms_spec (ws := wsX10_trackOf) B.pre
  have hown : s.vm.findClass RX10 = some m.cls := findClass_of_methodNamed B.named
  have hlocks := B.notSynchronized
  subst hsz
  have hS : va_S (sp_A am 5 s.heap.size) s.heap s.heap [] := va_S.rf
  have hAk : ∀ k, k < 5 → (sp_A am 5 s.heap.size) (am k) := fun k hk => Or.inl ⟨k, hk, rfl⟩
  skip
  have hn30 := hM.2.1
  have ht6 := hM.2.2.2
  have hl := lv_entry ([.ref (am (0)), .int (x)]) (n := 2) (Nat.le_of_ble_eq_true rfl)
  refine W.eq (lg_entry_eq _ ([.ref (am (0)), .int (x)]) _) ?_
  generalize (lg_sl ([.ref (am (0)), .int (x)]) ++ List.replicate (2 - (lg_sl ([.ref (am (0)), .int (x)])).length) Slot.unset).toArray = ls at hl ⊢
  have hl : lv_has ls 2 [(0, .ref (am (0))), (1, .int (x))] := hl
  refine lv_aload_n hx hb dX10_trackOf_0 rfl (lv_at hl 0 rfl) ?_
  refine lv_iload_n hx hb dX10_trackOf_1 rfl (lv_at hl 1 rfl) ?_
  refine lv_iconst (v := 1) hx hb dX10_trackOf_2 (by decide) ?_
  refine sp_callm (va_runV (As := [.int (x), .int (1)]) (rest := []) ⟨hx, hb, hml, hown, hts⟩ (c_X10_ofPrint l D am cy μ _ hi n t (by first | exact hM | exact hi_0 | (repeat first | exact hM | exact hi_0 | refine MS.st0 ?_ | refine MS.st ?_ (by omega))) x 1 (by omega)) (cwV 2 hts gX10_trackOf_X10_ofPrint rfl rfl rfl (by decide +kernel) ⟨Nat.le_of_ble_eq_true rfl, Nat.le_of_ble_eq_true rfl⟩) (sp_preVm hK hP (κ := 0) (by decide) mE_0 rfl) rfl rfl hl.1 rfl (lv_room (Nat.le_of_ble_eq_true rfl)) dX10_trackOf_3 ⟨Nat.le_of_ble_eq_true rfl, Nat.le_of_ble_eq_true rfl⟩) hS (fun q h1 h2 => sp_Alt h1 h2) (sp_Ale hS.1) (fun H locs hP hle hfr hS => ?_)
  refine W.eq (g2 := F0 m 6 ls [.int (atO (m_find (μ 1) n x) 0 (fun k => gP (μ 1) k 1))]) rfl ?_
  exact W.iret (v := atO (m_find (μ 1) n x) 0 (fun k => gP (μ 1) k 1)) hx hb hr (fun T9 hT9 _ => ⟨congrArg (fun z9 => Outcome.returned (some (Value.int z9))) (show (atO (m_find (μ 1) n x) 0 (fun k => gP (μ 1) k 1) : Int32) = atO (m_find (μ 1) n x) 0 (fun k => gP (μ 1) k 1) from (by first | rfl | (simp [atO, b2i]; done))), by rw [hT9]; exact hP, hS.F hT9⟩) hS.2.2 dX10_trackOf_6

set_option maxHeartbeats 4000000 in
set_option maxRecDepth 100000 in
theorem c_X10_timeOf (l : Launch) (D : va_G) (am : Nat → Nat) (cy : Nat → ClassId) (μ : Nat → Nat → Int32) (sz : Nat) (hi : sp_inj am 5) (n : Nat) (t : Nat) (hM : MS (μ 1) n t) (x : Int32) : Met l yX10_timeOf wsX10_timeOf ({ frames := 3, cells := 0, slots := 0, locals := 67 } : Room) (sp_Pm D (tyG cy) sz [.ref (am (0)), .int (x)] (mW am cy μ)) (sp_Q D (some (.int (atO (m_find (μ 1) n x) 0 (fun k => gP (μ 1) k 2)))) (mW am cy (sp_st μ 0 0 (atO (m_find (μ 1) n x) 1 (fun _ => 0)))) (sp_A am 5 sz)) 0 0 (sp_A am 5 sz) := by
  refine Met.ofW (cc := cX10_timeOf) (maxL := 2) (ret := (some .int)) (by decide) rfl ?_
  intro p e s m args below meth c s₁ B hml hv
  obtain ⟨rfl, hsz, hP, hK⟩ := hv
  have hx := B.exec
  have hb := B.bytes
  have hr := B.returns
  have hts := atoms_spec (ws := wsX10_timeOf) B.pre
  have hown : s.vm.findClass RX10 = some m.cls := findClass_of_methodNamed B.named
  have hlocks := B.notSynchronized
  subst hsz
  have hS : va_S (sp_A am 5 s.heap.size) s.heap s.heap [] := va_S.rf
  have hAk : ∀ k, k < 5 → (sp_A am 5 s.heap.size) (am k) := fun k hk => Or.inl ⟨k, hk, rfl⟩
  skip
  have hn30 := hM.2.1
  have ht6 := hM.2.2.2
  have hl := lv_entry ([.ref (am (0)), .int (x)]) (n := 2) (Nat.le_of_ble_eq_true rfl)
  refine W.eq (lg_entry_eq _ ([.ref (am (0)), .int (x)]) _) ?_
  generalize (lg_sl ([.ref (am (0)), .int (x)]) ++ List.replicate (2 - (lg_sl ([.ref (am (0)), .int (x)])).length) Slot.unset).toArray = ls at hl ⊢
  have hl : lv_has ls 2 [(0, .ref (am (0))), (1, .int (x))] := hl
  refine lv_aload_n hx hb dX10_timeOf_0 rfl (lv_at hl 0 rfl) ?_
  refine lv_iload_n hx hb dX10_timeOf_1 rfl (lv_at hl 1 rfl) ?_
  refine lv_iconst (v := 2) hx hb dX10_timeOf_2 (by decide) ?_
  refine sp_callm (va_runV (As := [.int (x), .int (2)]) (rest := []) ⟨hx, hb, hml, hown, hts⟩ (c_X10_ofPrint l D am cy μ _ hi n t (by first | exact hM | exact hi_0 | (repeat first | exact hM | exact hi_0 | refine MS.st0 ?_ | refine MS.st ?_ (by omega))) x 2 (by omega)) (cwV 2 hts gX10_timeOf_X10_ofPrint rfl rfl rfl (by decide +kernel) ⟨Nat.le_of_ble_eq_true rfl, Nat.le_of_ble_eq_true rfl⟩) (sp_preVm hK hP (κ := 0) (by decide) mE_0 rfl) rfl rfl hl.1 rfl (lv_room (Nat.le_of_ble_eq_true rfl)) dX10_timeOf_3 ⟨Nat.le_of_ble_eq_true rfl, Nat.le_of_ble_eq_true rfl⟩) hS (fun q h1 h2 => sp_Alt h1 h2) (sp_Ale hS.1) (fun H locs hP hle hfr hS => ?_)
  refine W.eq (g2 := F0 m 6 ls [.int (atO (m_find (μ 1) n x) 0 (fun k => gP (μ 1) k 2))]) rfl ?_
  exact W.iret (v := atO (m_find (μ 1) n x) 0 (fun k => gP (μ 1) k 2)) hx hb hr (fun T9 hT9 _ => ⟨congrArg (fun z9 => Outcome.returned (some (Value.int z9))) (show (atO (m_find (μ 1) n x) 0 (fun k => gP (μ 1) k 2) : Int32) = atO (m_find (μ 1) n x) 0 (fun k => gP (μ 1) k 2) from (by first | rfl | (simp [atO, b2i]; done))), by rw [hT9]; exact hP, hS.F hT9⟩) hS.2.2 dX10_timeOf_6

set_option maxHeartbeats 4000000 in
set_option maxRecDepth 100000 in
theorem c_X10_rowOf (l : Launch) (D : va_G) (am : Nat → Nat) (cy : Nat → ClassId) (μ : Nat → Nat → Int32) (sz : Nat) (hi : sp_inj am 5) (n : Nat) (t : Nat) (hM : MS (μ 1) n t) (x : Int32) : Met l yX10_rowOf wsX10_rowOf ({ frames := 3, cells := 0, slots := 0, locals := 67 } : Room) (sp_Pm D (tyG cy) sz [.ref (am (0)), .int (x)] (mW am cy μ)) (sp_Q D (some (.int (atO (m_find (μ 1) n x) 0 (fun k => gP (μ 1) k 3)))) (mW am cy (sp_st μ 0 0 (atO (m_find (μ 1) n x) 1 (fun _ => 0)))) (sp_A am 5 sz)) 0 0 (sp_A am 5 sz) := by
  refine Met.ofW (cc := cX10_rowOf) (maxL := 2) (ret := (some .int)) (by decide) rfl ?_
  intro p e s m args below meth c s₁ B hml hv
  obtain ⟨rfl, hsz, hP, hK⟩ := hv
  have hx := B.exec
  have hb := B.bytes
  have hr := B.returns
  have hts := atoms_spec (ws := wsX10_rowOf) B.pre
  have hown : s.vm.findClass RX10 = some m.cls := findClass_of_methodNamed B.named
  have hlocks := B.notSynchronized
  subst hsz
  have hS : va_S (sp_A am 5 s.heap.size) s.heap s.heap [] := va_S.rf
  have hAk : ∀ k, k < 5 → (sp_A am 5 s.heap.size) (am k) := fun k hk => Or.inl ⟨k, hk, rfl⟩
  skip
  have hn30 := hM.2.1
  have ht6 := hM.2.2.2
  have hl := lv_entry ([.ref (am (0)), .int (x)]) (n := 2) (Nat.le_of_ble_eq_true rfl)
  refine W.eq (lg_entry_eq _ ([.ref (am (0)), .int (x)]) _) ?_
  generalize (lg_sl ([.ref (am (0)), .int (x)]) ++ List.replicate (2 - (lg_sl ([.ref (am (0)), .int (x)])).length) Slot.unset).toArray = ls at hl ⊢
  have hl : lv_has ls 2 [(0, .ref (am (0))), (1, .int (x))] := hl
  refine lv_aload_n hx hb dX10_rowOf_0 rfl (lv_at hl 0 rfl) ?_
  refine lv_iload_n hx hb dX10_rowOf_1 rfl (lv_at hl 1 rfl) ?_
  refine lv_iconst (v := 3) hx hb dX10_rowOf_2 (by decide) ?_
  refine sp_callm (va_runV (As := [.int (x), .int (3)]) (rest := []) ⟨hx, hb, hml, hown, hts⟩ (c_X10_ofPrint l D am cy μ _ hi n t (by first | exact hM | exact hi_0 | (repeat first | exact hM | exact hi_0 | refine MS.st0 ?_ | refine MS.st ?_ (by omega))) x 3 (by omega)) (cwV 2 hts gX10_rowOf_X10_ofPrint rfl rfl rfl (by decide +kernel) ⟨Nat.le_of_ble_eq_true rfl, Nat.le_of_ble_eq_true rfl⟩) (sp_preVm hK hP (κ := 0) (by decide) mE_0 rfl) rfl rfl hl.1 rfl (lv_room (Nat.le_of_ble_eq_true rfl)) dX10_rowOf_3 ⟨Nat.le_of_ble_eq_true rfl, Nat.le_of_ble_eq_true rfl⟩) hS (fun q h1 h2 => sp_Alt h1 h2) (sp_Ale hS.1) (fun H locs hP hle hfr hS => ?_)
  refine W.eq (g2 := F0 m 6 ls [.int (atO (m_find (μ 1) n x) 0 (fun k => gP (μ 1) k 3))]) rfl ?_
  exact W.iret (v := atO (m_find (μ 1) n x) 0 (fun k => gP (μ 1) k 3)) hx hb hr (fun T9 hT9 _ => ⟨congrArg (fun z9 => Outcome.returned (some (Value.int z9))) (show (atO (m_find (μ 1) n x) 0 (fun k => gP (μ 1) k 3) : Int32) = atO (m_find (μ 1) n x) 0 (fun k => gP (μ 1) k 3) from (by first | rfl | (simp [atO, b2i]; done))), by rw [hT9]; exact hP, hS.F hT9⟩) hS.2.2 dX10_rowOf_6

set_option maxHeartbeats 4000000 in
set_option maxRecDepth 100000 in
theorem c_X10_columnOf (l : Launch) (D : va_G) (am : Nat → Nat) (cy : Nat → ClassId) (μ : Nat → Nat → Int32) (sz : Nat) (hi : sp_inj am 5) (n : Nat) (t : Nat) (hM : MS (μ 1) n t) (x : Int32) : Met l yX10_columnOf wsX10_columnOf ({ frames := 3, cells := 0, slots := 0, locals := 67 } : Room) (sp_Pm D (tyG cy) sz [.ref (am (0)), .int (x)] (mW am cy μ)) (sp_Q D (some (.int (atO (m_find (μ 1) n x) 0 (fun k => gP (μ 1) k 4)))) (mW am cy (sp_st μ 0 0 (atO (m_find (μ 1) n x) 1 (fun _ => 0)))) (sp_A am 5 sz)) 0 0 (sp_A am 5 sz) := by
  refine Met.ofW (cc := cX10_columnOf) (maxL := 2) (ret := (some .int)) (by decide) rfl ?_
  intro p e s m args below meth c s₁ B hml hv
  obtain ⟨rfl, hsz, hP, hK⟩ := hv
  have hx := B.exec
  have hb := B.bytes
  have hr := B.returns
  have hts := atoms_spec (ws := wsX10_columnOf) B.pre
  have hown : s.vm.findClass RX10 = some m.cls := findClass_of_methodNamed B.named
  have hlocks := B.notSynchronized
  subst hsz
  have hS : va_S (sp_A am 5 s.heap.size) s.heap s.heap [] := va_S.rf
  have hAk : ∀ k, k < 5 → (sp_A am 5 s.heap.size) (am k) := fun k hk => Or.inl ⟨k, hk, rfl⟩
  skip
  have hn30 := hM.2.1
  have ht6 := hM.2.2.2
  have hl := lv_entry ([.ref (am (0)), .int (x)]) (n := 2) (Nat.le_of_ble_eq_true rfl)
  refine W.eq (lg_entry_eq _ ([.ref (am (0)), .int (x)]) _) ?_
  generalize (lg_sl ([.ref (am (0)), .int (x)]) ++ List.replicate (2 - (lg_sl ([.ref (am (0)), .int (x)])).length) Slot.unset).toArray = ls at hl ⊢
  have hl : lv_has ls 2 [(0, .ref (am (0))), (1, .int (x))] := hl
  refine lv_aload_n hx hb dX10_columnOf_0 rfl (lv_at hl 0 rfl) ?_
  refine lv_iload_n hx hb dX10_columnOf_1 rfl (lv_at hl 1 rfl) ?_
  refine lv_iconst (v := 4) hx hb dX10_columnOf_2 (by decide) ?_
  refine sp_callm (va_runV (As := [.int (x), .int (4)]) (rest := []) ⟨hx, hb, hml, hown, hts⟩ (c_X10_ofPrint l D am cy μ _ hi n t (by first | exact hM | exact hi_0 | (repeat first | exact hM | exact hi_0 | refine MS.st0 ?_ | refine MS.st ?_ (by omega))) x 4 (by omega)) (cwV 2 hts gX10_columnOf_X10_ofPrint rfl rfl rfl (by decide +kernel) ⟨Nat.le_of_ble_eq_true rfl, Nat.le_of_ble_eq_true rfl⟩) (sp_preVm hK hP (κ := 0) (by decide) mE_0 rfl) rfl rfl hl.1 rfl (lv_room (Nat.le_of_ble_eq_true rfl)) dX10_columnOf_3 ⟨Nat.le_of_ble_eq_true rfl, Nat.le_of_ble_eq_true rfl⟩) hS (fun q h1 h2 => sp_Alt h1 h2) (sp_Ale hS.1) (fun H locs hP hle hfr hS => ?_)
  refine W.eq (g2 := F0 m 6 ls [.int (atO (m_find (μ 1) n x) 0 (fun k => gP (μ 1) k 4))]) rfl ?_
  exact W.iret (v := atO (m_find (μ 1) n x) 0 (fun k => gP (μ 1) k 4)) hx hb hr (fun T9 hT9 _ => ⟨congrArg (fun z9 => Outcome.returned (some (Value.int z9))) (show (atO (m_find (μ 1) n x) 0 (fun k => gP (μ 1) k 4) : Int32) = atO (m_find (μ 1) n x) 0 (fun k => gP (μ 1) k 4) from (by first | rfl | (simp [atO, b2i]; done))), by rw [hT9]; exact hP, hS.F hT9⟩) hS.2.2 dX10_columnOf_6

set_option maxHeartbeats 4000000 in
set_option maxRecDepth 100000 in
theorem c_X10_depthOf (l : Launch) (D : va_G) (am : Nat → Nat) (cy : Nat → ClassId) (μ : Nat → Nat → Int32) (sz : Nat) (hi : sp_inj am 5) (n : Nat) (t : Nat) (hM : MS (μ 1) n t) (x : Int32) : Met l yX10_depthOf wsX10_depthOf ({ frames := 3, cells := 0, slots := 0, locals := 67 } : Room) (sp_Pm D (tyG cy) sz [.ref (am (0)), .int (x)] (mW am cy μ)) (sp_Q D (some (.int (atO (m_find (μ 1) n x) 0 (fun k => gP (μ 1) k 6)))) (mW am cy (sp_st μ 0 0 (atO (m_find (μ 1) n x) 1 (fun _ => 0)))) (sp_A am 5 sz)) 0 0 (sp_A am 5 sz) := by
  refine Met.ofW (cc := cX10_depthOf) (maxL := 2) (ret := (some .int)) (by decide) rfl ?_
  intro p e s m args below meth c s₁ B hml hv
  obtain ⟨rfl, hsz, hP, hK⟩ := hv
  have hx := B.exec
  have hb := B.bytes
  have hr := B.returns
  have hts := atoms_spec (ws := wsX10_depthOf) B.pre
  have hown : s.vm.findClass RX10 = some m.cls := findClass_of_methodNamed B.named
  have hlocks := B.notSynchronized
  subst hsz
  have hS : va_S (sp_A am 5 s.heap.size) s.heap s.heap [] := va_S.rf
  have hAk : ∀ k, k < 5 → (sp_A am 5 s.heap.size) (am k) := fun k hk => Or.inl ⟨k, hk, rfl⟩
  skip
  have hn30 := hM.2.1
  have ht6 := hM.2.2.2
  have hl := lv_entry ([.ref (am (0)), .int (x)]) (n := 2) (Nat.le_of_ble_eq_true rfl)
  refine W.eq (lg_entry_eq _ ([.ref (am (0)), .int (x)]) _) ?_
  generalize (lg_sl ([.ref (am (0)), .int (x)]) ++ List.replicate (2 - (lg_sl ([.ref (am (0)), .int (x)])).length) Slot.unset).toArray = ls at hl ⊢
  have hl : lv_has ls 2 [(0, .ref (am (0))), (1, .int (x))] := hl
  refine lv_aload_n hx hb dX10_depthOf_0 rfl (lv_at hl 0 rfl) ?_
  refine lv_iload_n hx hb dX10_depthOf_1 rfl (lv_at hl 1 rfl) ?_
  refine lv_bipush (v := 6) hx hb dX10_depthOf_2 (by decide) ?_
  refine sp_callm (va_runV (As := [.int (x), .int (6)]) (rest := []) ⟨hx, hb, hml, hown, hts⟩ (c_X10_ofPrint l D am cy μ _ hi n t (by first | exact hM | exact hi_0 | (repeat first | exact hM | exact hi_0 | refine MS.st0 ?_ | refine MS.st ?_ (by omega))) x 6 (by omega)) (cwV 2 hts gX10_depthOf_X10_ofPrint rfl rfl rfl (by decide +kernel) ⟨Nat.le_of_ble_eq_true rfl, Nat.le_of_ble_eq_true rfl⟩) (sp_preVm hK hP (κ := 0) (by decide) mE_0 rfl) rfl rfl hl.1 rfl (lv_room (Nat.le_of_ble_eq_true rfl)) dX10_depthOf_4 ⟨Nat.le_of_ble_eq_true rfl, Nat.le_of_ble_eq_true rfl⟩) hS (fun q h1 h2 => sp_Alt h1 h2) (sp_Ale hS.1) (fun H locs hP hle hfr hS => ?_)
  refine W.eq (g2 := F0 m 7 ls [.int (atO (m_find (μ 1) n x) 0 (fun k => gP (μ 1) k 6))]) rfl ?_
  exact W.iret (v := atO (m_find (μ 1) n x) 0 (fun k => gP (μ 1) k 6)) hx hb hr (fun T9 hT9 _ => ⟨congrArg (fun z9 => Outcome.returned (some (Value.int z9))) (show (atO (m_find (μ 1) n x) 0 (fun k => gP (μ 1) k 6) : Int32) = atO (m_find (μ 1) n x) 0 (fun k => gP (μ 1) k 6) from (by first | rfl | (simp [atO, b2i]; done))), by rw [hT9]; exact hP, hS.F hT9⟩) hS.2.2 dX10_depthOf_7

set_option maxHeartbeats 4000000 in
set_option maxRecDepth 100000 in
theorem c_X10_doubtsOf (l : Launch) (D : va_G) (am : Nat → Nat) (cy : Nat → ClassId) (μ : Nat → Nat → Int32) (sz : Nat) (hi : sp_inj am 5) (n : Nat) (t : Nat) (hM : MS (μ 1) n t) (x : Int32) : Met l yX10_doubtsOf wsX10_doubtsOf ({ frames := 3, cells := 0, slots := 0, locals := 67 } : Room) (sp_Pm D (tyG cy) sz [.ref (am (0)), .int (x)] (mW am cy μ)) (sp_Q D (some (.int (atO (m_find (μ 1) n x) 0 (fun k => gP (μ 1) k 7)))) (mW am cy (sp_st μ 0 0 (atO (m_find (μ 1) n x) 1 (fun _ => 0)))) (sp_A am 5 sz)) 0 0 (sp_A am 5 sz) := by
  refine Met.ofW (cc := cX10_doubtsOf) (maxL := 2) (ret := (some .int)) (by decide) rfl ?_
  intro p e s m args below meth c s₁ B hml hv
  obtain ⟨rfl, hsz, hP, hK⟩ := hv
  have hx := B.exec
  have hb := B.bytes
  have hr := B.returns
  have hts := atoms_spec (ws := wsX10_doubtsOf) B.pre
  have hown : s.vm.findClass RX10 = some m.cls := findClass_of_methodNamed B.named
  have hlocks := B.notSynchronized
  subst hsz
  have hS : va_S (sp_A am 5 s.heap.size) s.heap s.heap [] := va_S.rf
  have hAk : ∀ k, k < 5 → (sp_A am 5 s.heap.size) (am k) := fun k hk => Or.inl ⟨k, hk, rfl⟩
  skip
  have hn30 := hM.2.1
  have ht6 := hM.2.2.2
  have hl := lv_entry ([.ref (am (0)), .int (x)]) (n := 2) (Nat.le_of_ble_eq_true rfl)
  refine W.eq (lg_entry_eq _ ([.ref (am (0)), .int (x)]) _) ?_
  generalize (lg_sl ([.ref (am (0)), .int (x)]) ++ List.replicate (2 - (lg_sl ([.ref (am (0)), .int (x)])).length) Slot.unset).toArray = ls at hl ⊢
  have hl : lv_has ls 2 [(0, .ref (am (0))), (1, .int (x))] := hl
  refine lv_aload_n hx hb dX10_doubtsOf_0 rfl (lv_at hl 0 rfl) ?_
  refine lv_iload_n hx hb dX10_doubtsOf_1 rfl (lv_at hl 1 rfl) ?_
  refine lv_bipush (v := 7) hx hb dX10_doubtsOf_2 (by decide) ?_
  refine sp_callm (va_runV (As := [.int (x), .int (7)]) (rest := []) ⟨hx, hb, hml, hown, hts⟩ (c_X10_ofPrint l D am cy μ _ hi n t (by first | exact hM | exact hi_0 | (repeat first | exact hM | exact hi_0 | refine MS.st0 ?_ | refine MS.st ?_ (by omega))) x 7 (by omega)) (cwV 2 hts gX10_doubtsOf_X10_ofPrint rfl rfl rfl (by decide +kernel) ⟨Nat.le_of_ble_eq_true rfl, Nat.le_of_ble_eq_true rfl⟩) (sp_preVm hK hP (κ := 0) (by decide) mE_0 rfl) rfl rfl hl.1 rfl (lv_room (Nat.le_of_ble_eq_true rfl)) dX10_doubtsOf_4 ⟨Nat.le_of_ble_eq_true rfl, Nat.le_of_ble_eq_true rfl⟩) hS (fun q h1 h2 => sp_Alt h1 h2) (sp_Ale hS.1) (fun H locs hP hle hfr hS => ?_)
  refine W.eq (g2 := F0 m 7 ls [.int (atO (m_find (μ 1) n x) 0 (fun k => gP (μ 1) k 7))]) rfl ?_
  exact W.iret (v := atO (m_find (μ 1) n x) 0 (fun k => gP (μ 1) k 7)) hx hb hr (fun T9 hT9 _ => ⟨congrArg (fun z9 => Outcome.returned (some (Value.int z9))) (show (atO (m_find (μ 1) n x) 0 (fun k => gP (μ 1) k 7) : Int32) = atO (m_find (μ 1) n x) 0 (fun k => gP (μ 1) k 7) from (by first | rfl | (simp [atO, b2i]; done))), by rw [hT9]; exact hP, hS.F hT9⟩) hS.2.2 dX10_doubtsOf_7

set_option maxHeartbeats 4000000 in
set_option maxRecDepth 100000 in
theorem c_X10_isLeft (l : Launch) (D : va_G) (am : Nat → Nat) (cy : Nat → ClassId) (μ : Nat → Nat → Int32) (sz : Nat) (hi : sp_inj am 5) (n : Nat) (t : Nat) (hM : MS (μ 1) n t) (x : Int32) : Met l yX10_isLeft wsX10_isLeft ({ frames := 3, cells := 0, slots := 0, locals := 67 } : Room) (sp_Pm D (tyG cy) sz [.ref (am (0)), .int (x)] (mW am cy μ)) (sp_Q D (some (.int (b2i (atO (m_find (μ 1) n x) 0 (fun k => gP (μ 1) k 5) == 1)))) (mW am cy (sp_st μ 0 0 (atO (m_find (μ 1) n x) 1 (fun _ => 0)))) (sp_A am 5 sz)) 0 0 (sp_A am 5 sz) := by
  refine Met.ofW (cc := cX10_isLeft) (maxL := 2) (ret := (some .boolean)) (by decide) rfl ?_
  intro p e s m args below meth c s₁ B hml hv
  obtain ⟨rfl, hsz, hP, hK⟩ := hv
  have hx := B.exec
  have hb := B.bytes
  have hr := B.returns
  have hts := atoms_spec (ws := wsX10_isLeft) B.pre
  have hown : s.vm.findClass RX10 = some m.cls := findClass_of_methodNamed B.named
  have hlocks := B.notSynchronized
  subst hsz
  have hS : va_S (sp_A am 5 s.heap.size) s.heap s.heap [] := va_S.rf
  have hAk : ∀ k, k < 5 → (sp_A am 5 s.heap.size) (am k) := fun k hk => Or.inl ⟨k, hk, rfl⟩
  skip
  have hn30 := hM.2.1
  have ht6 := hM.2.2.2
  have hl := lv_entry ([.ref (am (0)), .int (x)]) (n := 2) (Nat.le_of_ble_eq_true rfl)
  refine W.eq (lg_entry_eq _ ([.ref (am (0)), .int (x)]) _) ?_
  generalize (lg_sl ([.ref (am (0)), .int (x)]) ++ List.replicate (2 - (lg_sl ([.ref (am (0)), .int (x)])).length) Slot.unset).toArray = ls at hl ⊢
  have hl : lv_has ls 2 [(0, .ref (am (0))), (1, .int (x))] := hl
  refine lv_aload_n hx hb dX10_isLeft_0 rfl (lv_at hl 0 rfl) ?_
  refine lv_iload_n hx hb dX10_isLeft_1 rfl (lv_at hl 1 rfl) ?_
  refine lv_iconst (v := 5) hx hb dX10_isLeft_2 (by decide) ?_
  refine sp_callm (va_runV (As := [.int (x), .int (5)]) (rest := []) ⟨hx, hb, hml, hown, hts⟩ (c_X10_ofPrint l D am cy μ _ hi n t (by first | exact hM | exact hi_0 | (repeat first | exact hM | exact hi_0 | refine MS.st0 ?_ | refine MS.st ?_ (by omega))) x 5 (by omega)) (cwV 2 hts gX10_isLeft_X10_ofPrint rfl rfl rfl (by decide +kernel) ⟨Nat.le_of_ble_eq_true rfl, Nat.le_of_ble_eq_true rfl⟩) (sp_preVm hK hP (κ := 0) (by decide) mE_0 rfl) rfl rfl hl.1 rfl (lv_room (Nat.le_of_ble_eq_true rfl)) dX10_isLeft_3 ⟨Nat.le_of_ble_eq_true rfl, Nat.le_of_ble_eq_true rfl⟩) hS (fun q h1 h2 => sp_Alt h1 h2) (sp_Ale hS.1) (fun H locs hP hle hfr hS => ?_)
  refine W.eq (g2 := F0 m 6 ls [.int (atO (m_find (μ 1) n x) 0 (fun k => gP (μ 1) k 5))]) rfl ?_
  refine lv_iconst (v := 1) hx hb dX10_isLeft_6 (by decide) ?_
  refine lv_icmp_ne (tgt := 14) hx hb dX10_isLeft_7 (by decide) (fun c_1 => ?_) (fun c_1 => ?_)
  · skip
    refine lv_iconst (v := 0) hx hb dX10_isLeft_14 (by decide) ?_
    exact W.zret (v := 0) hx hb hr (by decide) (fun T9 hT9 _ => ⟨congrArg (fun z9 => Outcome.returned (some (Value.int z9))) (show (0 : Int32) = b2i (atO (m_find (μ 1) n x) 0 (fun k => gP (μ 1) k 5) == 1) from (by first | rfl | (simp [b2i, c_1]; done))), by rw [hT9]; exact hP, hS.F hT9⟩) hS.2.2 dX10_isLeft_15
  · skip
    refine lv_iconst (v := 1) hx hb dX10_isLeft_10 (by decide) ?_
    refine lv_goto (tgt := 15) hx hb dX10_isLeft_11 (by decide) ?_
    exact W.zret (v := 1) hx hb hr (by decide) (fun T9 hT9 _ => ⟨congrArg (fun z9 => Outcome.returned (some (Value.int z9))) (show (1 : Int32) = b2i (atO (m_find (μ 1) n x) 0 (fun k => gP (μ 1) k 5) == 1) from (by first | rfl | (simp [b2i, c_1]; done))), by rw [hT9]; exact hP, hS.F hT9⟩) hS.2.2 dX10_isLeft_15

set_option maxHeartbeats 4000000 in
set_option maxRecDepth 100000 in
theorem c_X10_isLate (l : Launch) (D : va_G) (am : Nat → Nat) (cy : Nat → ClassId) (μ : Nat → Nat → Int32) (sz : Nat) (hi : sp_inj am 5) (n : Nat) (t : Nat) (hM : MS (μ 1) n t) (x : Int32) : Met l yX10_isLate wsX10_isLate ({ frames := 3, cells := 0, slots := 0, locals := 67 } : Room) (sp_Pm D (tyG cy) sz [.ref (am (0)), .int (x)] (mW am cy μ)) (sp_Q D (some (.int (b2i (atO (m_find (μ 1) n x) 0 (fun k => gP (μ 1) k 8) == 1)))) (mW am cy (sp_st μ 0 0 (atO (m_find (μ 1) n x) 1 (fun _ => 0)))) (sp_A am 5 sz)) 0 0 (sp_A am 5 sz) := by
  refine Met.ofW (cc := cX10_isLate) (maxL := 2) (ret := (some .boolean)) (by decide) rfl ?_
  intro p e s m args below meth c s₁ B hml hv
  obtain ⟨rfl, hsz, hP, hK⟩ := hv
  have hx := B.exec
  have hb := B.bytes
  have hr := B.returns
  have hts := atoms_spec (ws := wsX10_isLate) B.pre
  have hown : s.vm.findClass RX10 = some m.cls := findClass_of_methodNamed B.named
  have hlocks := B.notSynchronized
  subst hsz
  have hS : va_S (sp_A am 5 s.heap.size) s.heap s.heap [] := va_S.rf
  have hAk : ∀ k, k < 5 → (sp_A am 5 s.heap.size) (am k) := fun k hk => Or.inl ⟨k, hk, rfl⟩
  skip
  have hn30 := hM.2.1
  have ht6 := hM.2.2.2
  have hl := lv_entry ([.ref (am (0)), .int (x)]) (n := 2) (Nat.le_of_ble_eq_true rfl)
  refine W.eq (lg_entry_eq _ ([.ref (am (0)), .int (x)]) _) ?_
  generalize (lg_sl ([.ref (am (0)), .int (x)]) ++ List.replicate (2 - (lg_sl ([.ref (am (0)), .int (x)])).length) Slot.unset).toArray = ls at hl ⊢
  have hl : lv_has ls 2 [(0, .ref (am (0))), (1, .int (x))] := hl
  refine lv_aload_n hx hb dX10_isLate_0 rfl (lv_at hl 0 rfl) ?_
  refine lv_iload_n hx hb dX10_isLate_1 rfl (lv_at hl 1 rfl) ?_
  refine lv_bipush (v := 8) hx hb dX10_isLate_2 (by decide) ?_
  refine sp_callm (va_runV (As := [.int (x), .int (8)]) (rest := []) ⟨hx, hb, hml, hown, hts⟩ (c_X10_ofPrint l D am cy μ _ hi n t (by first | exact hM | exact hi_0 | (repeat first | exact hM | exact hi_0 | refine MS.st0 ?_ | refine MS.st ?_ (by omega))) x 8 (by omega)) (cwV 2 hts gX10_isLate_X10_ofPrint rfl rfl rfl (by decide +kernel) ⟨Nat.le_of_ble_eq_true rfl, Nat.le_of_ble_eq_true rfl⟩) (sp_preVm hK hP (κ := 0) (by decide) mE_0 rfl) rfl rfl hl.1 rfl (lv_room (Nat.le_of_ble_eq_true rfl)) dX10_isLate_4 ⟨Nat.le_of_ble_eq_true rfl, Nat.le_of_ble_eq_true rfl⟩) hS (fun q h1 h2 => sp_Alt h1 h2) (sp_Ale hS.1) (fun H locs hP hle hfr hS => ?_)
  refine W.eq (g2 := F0 m 7 ls [.int (atO (m_find (μ 1) n x) 0 (fun k => gP (μ 1) k 8))]) rfl ?_
  refine lv_iconst (v := 1) hx hb dX10_isLate_7 (by decide) ?_
  refine lv_icmp_ne (tgt := 15) hx hb dX10_isLate_8 (by decide) (fun c_1 => ?_) (fun c_1 => ?_)
  · skip
    refine lv_iconst (v := 0) hx hb dX10_isLate_15 (by decide) ?_
    exact W.zret (v := 0) hx hb hr (by decide) (fun T9 hT9 _ => ⟨congrArg (fun z9 => Outcome.returned (some (Value.int z9))) (show (0 : Int32) = b2i (atO (m_find (μ 1) n x) 0 (fun k => gP (μ 1) k 8) == 1) from (by first | rfl | (simp [b2i, c_1]; done))), by rw [hT9]; exact hP, hS.F hT9⟩) hS.2.2 dX10_isLate_16
  · skip
    refine lv_iconst (v := 1) hx hb dX10_isLate_11 (by decide) ?_
    refine lv_goto (tgt := 16) hx hb dX10_isLate_12 (by decide) ?_
    exact W.zret (v := 1) hx hb hr (by decide) (fun T9 hT9 _ => ⟨congrArg (fun z9 => Outcome.returned (some (Value.int z9))) (show (1 : Int32) = b2i (atO (m_find (μ 1) n x) 0 (fun k => gP (μ 1) k 8) == 1) from (by first | rfl | (simp [b2i, c_1]; done))), by rw [hT9]; exact hP, hS.F hT9⟩) hS.2.2 dX10_isLate_16

theorem wi_X10_idBeside_X10 : ∀ w ∈ wsX100, w ∈ wsX10_idBeside := by decide +kernel
set_option maxHeartbeats 4000000 in
set_option maxRecDepth 100000 in
theorem c_X10_idBeside (l : Launch) (D : va_G) (am : Nat → Nat) (cy : Nat → ClassId) (μ : Nat → Nat → Int32) (sz : Nat) (hi : sp_inj am 5) (n : Nat) (t : Nat) (hM : MS (μ 1) n t) (x : Int32) (nx : Bool) : Met l yX10_idBeside wsX10_idBeside ({ frames := 2, cells := 0, slots := 0, locals := 48 } : Room) (sp_Pm D (tyG cy) sz [.ref (am (0)), .int (x), .int (b2i nx)] (mW am cy μ)) (sp_Q D (some (.int (atO (m_find (μ 1) n x) 0 (fun k => atO (m_bes (μ 1) n k nx) 0 (fun j => gP (μ 1) j 0))))) (mW am cy (sp_st μ 0 0 (atO (m_find (μ 1) n x) 1 (fun k => atO (m_bes (μ 1) n k nx) 2 (fun _ => 0))))) (sp_A am 5 sz)) 0 0 (sp_A am 5 sz) := by
  refine Met.ofW (cc := cX10_idBeside) (maxL := 4) (ret := (some .int)) (by decide) rfl ?_
  intro p e s m args below meth c s₁ B hml hv
  obtain ⟨rfl, hsz, hP, hK⟩ := hv
  have hx := B.exec
  have hb := B.bytes
  have hr := B.returns
  have hts := atoms_spec (ws := wsX10_idBeside) B.pre
  have hown : s.vm.findClass RX10 = some m.cls := findClass_of_methodNamed B.named
  have hlocks := B.notSynchronized
  subst hsz
  have hS : va_S (sp_A am 5 s.heap.size) s.heap s.heap [] := va_S.rf
  have hAk : ∀ k, k < 5 → (sp_A am 5 s.heap.size) (am k) := fun k hk => Or.inl ⟨k, hk, rfl⟩
  skip
  have hn30 := hM.2.1
  have ht6 := hM.2.2.2
  have hl := lv_entry ([.ref (am (0)), .int (x), .int (b2i nx)]) (n := 4) (Nat.le_of_ble_eq_true rfl)
  refine W.eq (lg_entry_eq _ ([.ref (am (0)), .int (x), .int (b2i nx)]) _) ?_
  generalize (lg_sl ([.ref (am (0)), .int (x), .int (b2i nx)]) ++ List.replicate (4 - (lg_sl ([.ref (am (0)), .int (x), .int (b2i nx)])).length) Slot.unset).toArray = ls at hl ⊢
  have hl : lv_has ls 4 [(0, .ref (am (0))), (1, .int (x)), (2, .int (b2i nx))] := hl
  refine lv_aload_n hx hb dX10_idBeside_0 rfl (lv_at hl 0 rfl) ?_
  refine lv_iload_n hx hb dX10_idBeside_1 rfl (lv_at hl 1 rfl) ?_
  refine sp_call (W.runV (As := [.int (x)]) (rest := []) ⟨hx, hb, hml, hown, hts⟩ (c_X10_find l D am cy μ n t (by first | exact hM | exact hi_0 | (repeat first | exact hM | exact hi_0 | refine MS.st0 ?_ | refine MS.st ?_ (by omega))) x) (cwV 1 hts gX10_idBeside_X10_find rfl rfl rfl (by decide +kernel) ⟨Nat.le_of_ble_eq_true rfl, Nat.le_of_ble_eq_true rfl⟩) (sp_preV hK hP (κ := 0) (by decide) mE_0 rfl) rfl rfl hl.1 rfl (lv_room (Nat.le_of_ble_eq_true rfl)) dX10_idBeside_2 ⟨Nat.le_of_ble_eq_true rfl, Nat.le_of_ble_eq_true rfl⟩) ?_
  rcases opt_em (m_find (μ 1) n x) with q_1 | ⟨j_2, q_1⟩
  · refine W.eq (g2 := F0 m 5 ls [.int ((-1))]) (by rw [q_1]; rfl) ?_
    refine lv_istore_n (lv' := [(3, .int ((-1))), (0, .ref (am (0))), (1, .int (x)), (2, .int (b2i nx))]) hx hb dX10_idBeside_5 rfl hl (by decide) rfl (fun ls hl => ?_)
    refine lv_aload_n hx hb dX10_idBeside_6 rfl (lv_at hl 1 rfl) ?_
    refine lv_iload_n hx hb dX10_idBeside_7 rfl (lv_at hl 0 rfl) ?_
    refine lv_if_ge (tgt := 15) hx hb dX10_idBeside_8 (by decide) (fun c_3 => ?_) (fun c_3 => ?_)
    · exact absurd c_3 (by decide)
    · skip
      refine lv_iconst (v := 1) hx hb dX10_idBeside_11 (by decide) ?_
      refine lv_goto (tgt := 29) hx hb dX10_idBeside_12 (by decide) ?_
      refine sp_put hx hb hts wi_X10_idBeside_X10 tyX10 tyX10_ok nmX10 hown hK hP hi hAk hS (κ := 0) (by decide) mE_0 rfl 0 (by decide) (hts _ (List.mem_of_getElem? (i := 1) rfl)) (fun _ h => h) rfl (ty := tyX10 0) (by decide +kernel) ⟨rfl, rfl⟩ (Nat.le_of_ble_eq_true rfl) (r1 := upd (μ 0) 0 1) (cE_of mE_0 (by simp [upd])) dX10_idBeside_29 (fun H locs hP hS => ?_)
      have hP : va_P D vwCl (mW am cy (sp_st μ 0 0 1)) H := hP
      refine lv_aload_n hx hb dX10_idBeside_32 rfl (lv_at hl 1 rfl) ?_
      refine sp_get hx hb hts wi_X10_idBeside_X10 hown hK hP (κ := 0) (by decide) mE_0 rfl 0 (by decide) (hts _ (List.mem_of_getElem? (i := 1) rfl)) (fun _ h => h) rfl dX10_idBeside_33 ?_
      refine W.eq (g2 := F0 m 36 ls [.int (1)]) (by rw [sp_st_s]) ?_
      refine lv_if_ne (tgt := 53) hx hb dX10_idBeside_36 (by decide) (fun c_4 => ?_) (fun c_4 => ?_)
      · skip
        refine lv_iconst (v := 0) hx hb dX10_idBeside_53 (by decide) ?_
        have hE9 : mW am cy (sp_st μ 0 0 1) = mW am cy (sp_st μ 0 0 (atO (m_find (μ 1) n x) 1 (fun k => atO (m_bes (μ 1) n k nx) 2 (fun _ => 0)))) := by exact mW_eq (by simp [atO, b2i, atO, q_1])
        have hP : va_P D vwCl (mW am cy (sp_st μ 0 0 (atO (m_find (μ 1) n x) 1 (fun k => atO (m_bes (μ 1) n k nx) 2 (fun _ => 0))))) H := by rw [← hE9]; exact hP
        exact W.iret (v := 0) hx hb hr (fun T9 hT9 _ => ⟨congrArg (fun z9 => Outcome.returned (some (Value.int z9))) (show (0 : Int32) = atO (m_find (μ 1) n x) 0 (fun k => atO (m_bes (μ 1) n k nx) 0 (fun j => gP (μ 1) j 0)) from (by first | rfl | (simp [atO, b2i, q_1]; done))), by rw [hT9]; exact hP, hS.F hT9⟩) hS.2.2 dX10_idBeside_54
      · exact absurd c_4 (by decide)
  · have hj_2 := m_find_lt q_1
    refine W.eq (g2 := F0 m 5 ls [.int (nI j_2)]) (by rw [q_1]; rfl) ?_
    refine lv_istore_n (lv' := [(3, .int (nI j_2)), (0, .ref (am (0))), (1, .int (x)), (2, .int (b2i nx))]) hx hb dX10_idBeside_5 rfl hl (by decide) rfl (fun ls hl => ?_)
    refine lv_aload_n hx hb dX10_idBeside_6 rfl (lv_at hl 1 rfl) ?_
    refine lv_iload_n hx hb dX10_idBeside_7 rfl (lv_at hl 0 rfl) ?_
    refine lv_if_ge (tgt := 15) hx hb dX10_idBeside_8 (by decide) (fun c_5 => ?_) (fun c_5 => ?_)
    · skip
      have c_5d := Int32.not_lt.mpr c_5
      refine lv_aload_n hx hb dX10_idBeside_15 rfl (lv_at hl 1 rfl) ?_
      refine lv_iload_n hx hb dX10_idBeside_16 rfl (lv_at hl 0 rfl) ?_
      refine lv_iload_n hx hb dX10_idBeside_17 rfl (lv_at hl 3 rfl) ?_
      refine sp_call (W.runV (As := [.int (nI j_2), .int (b2i nx)]) (rest := [.ref (am (0))]) ⟨hx, hb, hml, hown, hts⟩ (c_X10_beside l D am cy μ n t (by first | exact hM | exact hi_0 | (repeat first | exact hM | exact hi_0 | refine MS.st0 ?_ | refine MS.st ?_ (by omega))) j_2 (by omega) nx) (cwV 2 hts gX10_idBeside_X10_beside rfl rfl rfl (by decide +kernel) ⟨Nat.le_of_ble_eq_true rfl, Nat.le_of_ble_eq_true rfl⟩) (sp_preV hK hP (κ := 0) (by decide) mE_0 rfl) rfl rfl hl.1 rfl (lv_room (Nat.le_of_ble_eq_true rfl)) dX10_idBeside_18 ⟨Nat.le_of_ble_eq_true rfl, Nat.le_of_ble_eq_true rfl⟩) ?_
      rcases opt_em (m_bes (μ 1) n j_2 nx) with q_6 | ⟨j_7, q_6⟩
      · refine W.eq (g2 := F0 m 21 ls [.int ((-1)), .ref (am (0))]) (by rw [q_6]; rfl) ?_
        refine lv_if_ge (tgt := 28) hx hb dX10_idBeside_21 (by decide) (fun c_8 => ?_) (fun c_8 => ?_)
        · exact absurd c_8 (by decide)
        · skip
          refine lv_iconst (v := 2) hx hb dX10_idBeside_24 (by decide) ?_
          refine lv_goto (tgt := 29) hx hb dX10_idBeside_25 (by decide) ?_
          refine sp_put hx hb hts wi_X10_idBeside_X10 tyX10 tyX10_ok nmX10 hown hK hP hi hAk hS (κ := 0) (by decide) mE_0 rfl 0 (by decide) (hts _ (List.mem_of_getElem? (i := 1) rfl)) (fun _ h => h) rfl (ty := tyX10 0) (by decide +kernel) ⟨rfl, rfl⟩ (Nat.le_of_ble_eq_true rfl) (r1 := upd (μ 0) 0 2) (cE_of mE_0 (by simp [upd])) dX10_idBeside_29 (fun H locs hP hS => ?_)
          have hP : va_P D vwCl (mW am cy (sp_st μ 0 0 2)) H := hP
          refine lv_aload_n hx hb dX10_idBeside_32 rfl (lv_at hl 1 rfl) ?_
          refine sp_get hx hb hts wi_X10_idBeside_X10 hown hK hP (κ := 0) (by decide) mE_0 rfl 0 (by decide) (hts _ (List.mem_of_getElem? (i := 1) rfl)) (fun _ h => h) rfl dX10_idBeside_33 ?_
          refine W.eq (g2 := F0 m 36 ls [.int (2)]) (by rw [sp_st_s]) ?_
          refine lv_if_ne (tgt := 53) hx hb dX10_idBeside_36 (by decide) (fun c_9 => ?_) (fun c_9 => ?_)
          · skip
            refine lv_iconst (v := 0) hx hb dX10_idBeside_53 (by decide) ?_
            have hE9 : mW am cy (sp_st μ 0 0 2) = mW am cy (sp_st μ 0 0 (atO (m_find (μ 1) n x) 1 (fun k => atO (m_bes (μ 1) n k nx) 2 (fun _ => 0)))) := by exact mW_eq (by simp [atO, b2i, atO, q_1, c_5, c_5d, q_6])
            have hP : va_P D vwCl (mW am cy (sp_st μ 0 0 (atO (m_find (μ 1) n x) 1 (fun k => atO (m_bes (μ 1) n k nx) 2 (fun _ => 0))))) H := by rw [← hE9]; exact hP
            exact W.iret (v := 0) hx hb hr (fun T9 hT9 _ => ⟨congrArg (fun z9 => Outcome.returned (some (Value.int z9))) (show (0 : Int32) = atO (m_find (μ 1) n x) 0 (fun k => atO (m_bes (μ 1) n k nx) 0 (fun j => gP (μ 1) j 0)) from (by first | rfl | (simp [atO, b2i, q_1, c_5, c_5d, q_6]; done))), by rw [hT9]; exact hP, hS.F hT9⟩) hS.2.2 dX10_idBeside_54
          · exact absurd c_9 (by decide)
      · have hj_7 := m_bes_lt q_6
        refine W.eq (g2 := F0 m 21 ls [.int (nI j_7), .ref (am (0))]) (by rw [q_6]; rfl) ?_
        refine lv_if_ge (tgt := 28) hx hb dX10_idBeside_21 (by decide) (fun c_10 => ?_) (fun c_10 => ?_)
        · skip
          have c_10d := Int32.not_lt.mpr c_10
          refine lv_iconst (v := 0) hx hb dX10_idBeside_28 (by decide) ?_
          refine sp_put hx hb hts wi_X10_idBeside_X10 tyX10 tyX10_ok nmX10 hown hK hP hi hAk hS (κ := 0) (by decide) mE_0 rfl 0 (by decide) (hts _ (List.mem_of_getElem? (i := 1) rfl)) (fun _ h => h) rfl (ty := tyX10 0) (by decide +kernel) ⟨rfl, rfl⟩ (Nat.le_of_ble_eq_true rfl) (r1 := upd (μ 0) 0 0) (cE_of mE_0 (by simp [upd])) dX10_idBeside_29 (fun H locs hP hS => ?_)
          have hP : va_P D vwCl (mW am cy (sp_st μ 0 0 0)) H := hP
          refine lv_aload_n hx hb dX10_idBeside_32 rfl (lv_at hl 1 rfl) ?_
          refine sp_get hx hb hts wi_X10_idBeside_X10 hown hK hP (κ := 0) (by decide) mE_0 rfl 0 (by decide) (hts _ (List.mem_of_getElem? (i := 1) rfl)) (fun _ h => h) rfl dX10_idBeside_33 ?_
          refine W.eq (g2 := F0 m 36 ls [.int (0)]) (by rw [sp_st_s]) ?_
          refine lv_if_ne (tgt := 53) hx hb dX10_idBeside_36 (by decide) (fun c_11 => ?_) (fun c_11 => ?_)
          · exact absurd c_11 (by decide)
          · skip
            refine lv_aload_n hx hb dX10_idBeside_39 rfl (lv_at hl 1 rfl) ?_
            refine lv_aload_n hx hb dX10_idBeside_40 rfl (lv_at hl 1 rfl) ?_
            refine lv_iload_n hx hb dX10_idBeside_41 rfl (lv_at hl 0 rfl) ?_
            refine lv_iload_n hx hb dX10_idBeside_42 rfl (lv_at hl 3 rfl) ?_
            refine sp_call (W.runV (As := [.int (nI j_2), .int (b2i nx)]) (rest := [.ref (am (0))]) ⟨hx, hb, hml, hown, hts⟩ (c_X10_beside l D am cy (sp_st μ 0 0 0) n t (by first | exact hM | exact hi_0 | (repeat first | exact hM | exact hi_0 | refine MS.st0 ?_ | refine MS.st ?_ (by omega))) j_2 (by omega) nx) (cwV 2 hts gX10_idBeside_X10_beside rfl rfl rfl (by decide +kernel) ⟨Nat.le_of_ble_eq_true rfl, Nat.le_of_ble_eq_true rfl⟩) (sp_preV hK hP (κ := 0) (by decide) mE_0 rfl) rfl rfl hl.1 rfl (lv_room (Nat.le_of_ble_eq_true rfl)) dX10_idBeside_43 ⟨Nat.le_of_ble_eq_true rfl, Nat.le_of_ble_eq_true rfl⟩) ?_
            refine W.eq (g2 := F0 m 46 ls [.int (nI j_7), .ref (am (0))]) (by rw [st0_1 μ 0 0, q_6]; rfl) ?_
            refine lv_iconst (v := 0) hx hb dX10_idBeside_46 (by decide) ?_
            refine sp_call (W.runV (As := [.int (nI j_7), .int (0)]) (rest := []) ⟨hx, hb, hml, hown, hts⟩ (c_X10_p l D am cy (sp_st μ 0 0 0) j_7 (by omega) 0 (by omega)) (cwV 2 hts gX10_idBeside_X10_p rfl rfl rfl (by decide +kernel) ⟨Nat.le_of_ble_eq_true rfl, Nat.le_of_ble_eq_true rfl⟩) (sp_preV hK hP (κ := 0) (by decide) mE_0 rfl) rfl rfl hl.1 rfl (lv_room (Nat.le_of_ble_eq_true rfl)) dX10_idBeside_47 ⟨Nat.le_of_ble_eq_true rfl, Nat.le_of_ble_eq_true rfl⟩) ?_
            refine W.eq (g2 := F0 m 50 ls [.int (gP ((sp_st μ 0 0 0) 1) j_7 0)]) rfl ?_
            refine W.eq (g2 := F0 m 50 ls [.int (gP (μ 1) j_7 0)]) (by rw [st0_1 μ 0 0]) ?_
            refine lv_goto (tgt := 54) hx hb dX10_idBeside_50 (by decide) ?_
            have hE9 : mW am cy (sp_st μ 0 0 0) = mW am cy (sp_st μ 0 0 (atO (m_find (μ 1) n x) 1 (fun k => atO (m_bes (μ 1) n k nx) 2 (fun _ => 0)))) := by exact mW_eq (by simp [atO, b2i, atO, q_1, c_5, c_5d, q_6, c_10, c_10d])
            have hP : va_P D vwCl (mW am cy (sp_st μ 0 0 (atO (m_find (μ 1) n x) 1 (fun k => atO (m_bes (μ 1) n k nx) 2 (fun _ => 0))))) H := by rw [← hE9]; exact hP
            exact W.iret (v := gP (μ 1) j_7 0) hx hb hr (fun T9 hT9 _ => ⟨congrArg (fun z9 => Outcome.returned (some (Value.int z9))) (show (gP (μ 1) j_7 0 : Int32) = atO (m_find (μ 1) n x) 0 (fun k => atO (m_bes (μ 1) n k nx) 0 (fun j => gP (μ 1) j 0)) from (by first | rfl | (simp [atO, b2i, q_1, c_5, c_5d, q_6, c_10, c_10d]; done))), by rw [hT9]; exact hP, hS.F hT9⟩) hS.2.2 dX10_idBeside_54
        · exact absurd (Int32.not_lt.mp (nI_pos (by omega))) c_10
    · exact absurd (Int32.not_lt.mp (nI_pos (by omega))) c_5

set_option maxHeartbeats 4000000 in
set_option maxRecDepth 100000 in
theorem c_X10_previousPrint (l : Launch) (D : va_G) (am : Nat → Nat) (cy : Nat → ClassId) (μ : Nat → Nat → Int32) (sz : Nat) (hi : sp_inj am 5) (n : Nat) (t : Nat) (hM : MS (μ 1) n t) (x : Int32) : Met l yX10_previousPrint wsX10_previousPrint ({ frames := 3, cells := 0, slots := 0, locals := 71 } : Room) (sp_Pm D (tyG cy) sz [.ref (am (0)), .int (x)] (mW am cy μ)) (sp_Q D (some (.int (atO (m_find (μ 1) n x) 0 (fun k => atO (m_bes (μ 1) n k false) 0 (fun j => gP (μ 1) j 0))))) (mW am cy (sp_st μ 0 0 (atO (m_find (μ 1) n x) 1 (fun k => atO (m_bes (μ 1) n k false) 2 (fun _ => 0))))) (sp_A am 5 sz)) 0 0 (sp_A am 5 sz) := by
  refine Met.ofW (cc := cX10_previousPrint) (maxL := 2) (ret := (some .int)) (by decide) rfl ?_
  intro p e s m args below meth c s₁ B hml hv
  obtain ⟨rfl, hsz, hP, hK⟩ := hv
  have hx := B.exec
  have hb := B.bytes
  have hr := B.returns
  have hts := atoms_spec (ws := wsX10_previousPrint) B.pre
  have hown : s.vm.findClass RX10 = some m.cls := findClass_of_methodNamed B.named
  have hlocks := B.notSynchronized
  subst hsz
  have hS : va_S (sp_A am 5 s.heap.size) s.heap s.heap [] := va_S.rf
  have hAk : ∀ k, k < 5 → (sp_A am 5 s.heap.size) (am k) := fun k hk => Or.inl ⟨k, hk, rfl⟩
  skip
  have hn30 := hM.2.1
  have ht6 := hM.2.2.2
  have hl := lv_entry ([.ref (am (0)), .int (x)]) (n := 2) (Nat.le_of_ble_eq_true rfl)
  refine W.eq (lg_entry_eq _ ([.ref (am (0)), .int (x)]) _) ?_
  generalize (lg_sl ([.ref (am (0)), .int (x)]) ++ List.replicate (2 - (lg_sl ([.ref (am (0)), .int (x)])).length) Slot.unset).toArray = ls at hl ⊢
  have hl : lv_has ls 2 [(0, .ref (am (0))), (1, .int (x))] := hl
  refine lv_aload_n hx hb dX10_previousPrint_0 rfl (lv_at hl 0 rfl) ?_
  refine lv_iload_n hx hb dX10_previousPrint_1 rfl (lv_at hl 1 rfl) ?_
  refine lv_iconst (v := 0) hx hb dX10_previousPrint_2 (by decide) ?_
  refine sp_callm (va_runV (As := [.int (x), .int (0)]) (rest := []) ⟨hx, hb, hml, hown, hts⟩ (c_X10_idBeside l D am cy μ _ hi n t (by first | exact hM | exact hi_0 | (repeat first | exact hM | exact hi_0 | refine MS.st0 ?_ | refine MS.st ?_ (by omega))) x false) (cwV 2 hts gX10_previousPrint_X10_idBeside rfl rfl rfl (by decide +kernel) ⟨Nat.le_of_ble_eq_true rfl, Nat.le_of_ble_eq_true rfl⟩) (sp_preVm hK hP (κ := 0) (by decide) mE_0 rfl) rfl rfl hl.1 rfl (lv_room (Nat.le_of_ble_eq_true rfl)) dX10_previousPrint_3 ⟨Nat.le_of_ble_eq_true rfl, Nat.le_of_ble_eq_true rfl⟩) hS (fun q h1 h2 => sp_Alt h1 h2) (sp_Ale hS.1) (fun H locs hP hle hfr hS => ?_)
  refine W.eq (g2 := F0 m 6 ls [.int (atO (m_find (μ 1) n x) 0 (fun k => atO (m_bes (μ 1) n k false) 0 (fun j => gP (μ 1) j 0)))]) rfl ?_
  exact W.iret (v := atO (m_find (μ 1) n x) 0 (fun k => atO (m_bes (μ 1) n k false) 0 (fun j => gP (μ 1) j 0))) hx hb hr (fun T9 hT9 _ => ⟨congrArg (fun z9 => Outcome.returned (some (Value.int z9))) (show (atO (m_find (μ 1) n x) 0 (fun k => atO (m_bes (μ 1) n k false) 0 (fun j => gP (μ 1) j 0)) : Int32) = atO (m_find (μ 1) n x) 0 (fun k => atO (m_bes (μ 1) n k false) 0 (fun j => gP (μ 1) j 0)) from (by first | rfl | (simp [atO, b2i]; done))), by rw [hT9]; exact hP, hS.F hT9⟩) hS.2.2 dX10_previousPrint_6

set_option maxHeartbeats 4000000 in
set_option maxRecDepth 100000 in
theorem c_X10_nextPrint (l : Launch) (D : va_G) (am : Nat → Nat) (cy : Nat → ClassId) (μ : Nat → Nat → Int32) (sz : Nat) (hi : sp_inj am 5) (n : Nat) (t : Nat) (hM : MS (μ 1) n t) (x : Int32) : Met l yX10_nextPrint wsX10_nextPrint ({ frames := 3, cells := 0, slots := 0, locals := 71 } : Room) (sp_Pm D (tyG cy) sz [.ref (am (0)), .int (x)] (mW am cy μ)) (sp_Q D (some (.int (atO (m_find (μ 1) n x) 0 (fun k => atO (m_bes (μ 1) n k true) 0 (fun j => gP (μ 1) j 0))))) (mW am cy (sp_st μ 0 0 (atO (m_find (μ 1) n x) 1 (fun k => atO (m_bes (μ 1) n k true) 2 (fun _ => 0))))) (sp_A am 5 sz)) 0 0 (sp_A am 5 sz) := by
  refine Met.ofW (cc := cX10_nextPrint) (maxL := 2) (ret := (some .int)) (by decide) rfl ?_
  intro p e s m args below meth c s₁ B hml hv
  obtain ⟨rfl, hsz, hP, hK⟩ := hv
  have hx := B.exec
  have hb := B.bytes
  have hr := B.returns
  have hts := atoms_spec (ws := wsX10_nextPrint) B.pre
  have hown : s.vm.findClass RX10 = some m.cls := findClass_of_methodNamed B.named
  have hlocks := B.notSynchronized
  subst hsz
  have hS : va_S (sp_A am 5 s.heap.size) s.heap s.heap [] := va_S.rf
  have hAk : ∀ k, k < 5 → (sp_A am 5 s.heap.size) (am k) := fun k hk => Or.inl ⟨k, hk, rfl⟩
  skip
  have hn30 := hM.2.1
  have ht6 := hM.2.2.2
  have hl := lv_entry ([.ref (am (0)), .int (x)]) (n := 2) (Nat.le_of_ble_eq_true rfl)
  refine W.eq (lg_entry_eq _ ([.ref (am (0)), .int (x)]) _) ?_
  generalize (lg_sl ([.ref (am (0)), .int (x)]) ++ List.replicate (2 - (lg_sl ([.ref (am (0)), .int (x)])).length) Slot.unset).toArray = ls at hl ⊢
  have hl : lv_has ls 2 [(0, .ref (am (0))), (1, .int (x))] := hl
  refine lv_aload_n hx hb dX10_nextPrint_0 rfl (lv_at hl 0 rfl) ?_
  refine lv_iload_n hx hb dX10_nextPrint_1 rfl (lv_at hl 1 rfl) ?_
  refine lv_iconst (v := 1) hx hb dX10_nextPrint_2 (by decide) ?_
  refine sp_callm (va_runV (As := [.int (x), .int (1)]) (rest := []) ⟨hx, hb, hml, hown, hts⟩ (c_X10_idBeside l D am cy μ _ hi n t (by first | exact hM | exact hi_0 | (repeat first | exact hM | exact hi_0 | refine MS.st0 ?_ | refine MS.st ?_ (by omega))) x true) (cwV 2 hts gX10_nextPrint_X10_idBeside rfl rfl rfl (by decide +kernel) ⟨Nat.le_of_ble_eq_true rfl, Nat.le_of_ble_eq_true rfl⟩) (sp_preVm hK hP (κ := 0) (by decide) mE_0 rfl) rfl rfl hl.1 rfl (lv_room (Nat.le_of_ble_eq_true rfl)) dX10_nextPrint_3 ⟨Nat.le_of_ble_eq_true rfl, Nat.le_of_ble_eq_true rfl⟩) hS (fun q h1 h2 => sp_Alt h1 h2) (sp_Ale hS.1) (fun H locs hP hle hfr hS => ?_)
  refine W.eq (g2 := F0 m 6 ls [.int (atO (m_find (μ 1) n x) 0 (fun k => atO (m_bes (μ 1) n k true) 0 (fun j => gP (μ 1) j 0)))]) rfl ?_
  exact W.iret (v := atO (m_find (μ 1) n x) 0 (fun k => atO (m_bes (μ 1) n k true) 0 (fun j => gP (μ 1) j 0))) hx hb hr (fun T9 hT9 _ => ⟨congrArg (fun z9 => Outcome.returned (some (Value.int z9))) (show (atO (m_find (μ 1) n x) 0 (fun k => atO (m_bes (μ 1) n k true) 0 (fun j => gP (μ 1) j 0)) : Int32) = atO (m_find (μ 1) n x) 0 (fun k => atO (m_bes (μ 1) n k true) 0 (fun j => gP (μ 1) j 0)) from (by first | rfl | (simp [atO, b2i]; done))), by rw [hT9]; exact hP, hS.F hT9⟩) hS.2.2 dX10_nextPrint_6

theorem wi_X10_strideOf_X10 : ∀ w ∈ wsX100, w ∈ wsX10_strideOf := by decide +kernel
set_option maxHeartbeats 4000000 in
set_option maxRecDepth 100000 in
theorem c_X10_strideOf (l : Launch) (D : va_G) (am : Nat → Nat) (cy : Nat → ClassId) (μ : Nat → Nat → Int32) (sz : Nat) (hi : sp_inj am 5) (n : Nat) (t : Nat) (hM : MS (μ 1) n t) (x : Int32) : Met l yX10_strideOf wsX10_strideOf ({ frames := 3, cells := 0, slots := 0, locals := 70 } : Room) (sp_Pm D (tyG cy) sz [.ref (am (0)), .int (x)] (mW am cy μ)) (sp_Q D (some (.int (atO (m_find (μ 1) n x) 0 (fun k => atO (m_bes (μ 1) n k false) 0 (fun _ => m_stride (μ 1) n k))))) (mW am cy (sp_st μ 0 0 (atO (m_find (μ 1) n x) 1 (fun k => atO (m_bes (μ 1) n k false) 2 (fun _ => 0))))) (sp_A am 5 sz)) 0 0 (sp_A am 5 sz) := by
  refine Met.ofW (cc := cX10_strideOf) (maxL := 3) (ret := (some .int)) (by decide) rfl ?_
  intro p e s m args below meth c s₁ B hml hv
  obtain ⟨rfl, hsz, hP, hK⟩ := hv
  have hx := B.exec
  have hb := B.bytes
  have hr := B.returns
  have hts := atoms_spec (ws := wsX10_strideOf) B.pre
  have hown : s.vm.findClass RX10 = some m.cls := findClass_of_methodNamed B.named
  have hlocks := B.notSynchronized
  subst hsz
  have hS : va_S (sp_A am 5 s.heap.size) s.heap s.heap [] := va_S.rf
  have hAk : ∀ k, k < 5 → (sp_A am 5 s.heap.size) (am k) := fun k hk => Or.inl ⟨k, hk, rfl⟩
  skip
  have hn30 := hM.2.1
  have ht6 := hM.2.2.2
  have hl := lv_entry ([.ref (am (0)), .int (x)]) (n := 3) (Nat.le_of_ble_eq_true rfl)
  refine W.eq (lg_entry_eq _ ([.ref (am (0)), .int (x)]) _) ?_
  generalize (lg_sl ([.ref (am (0)), .int (x)]) ++ List.replicate (3 - (lg_sl ([.ref (am (0)), .int (x)])).length) Slot.unset).toArray = ls at hl ⊢
  have hl : lv_has ls 3 [(0, .ref (am (0))), (1, .int (x))] := hl
  refine lv_aload_n hx hb dX10_strideOf_0 rfl (lv_at hl 0 rfl) ?_
  refine lv_iload_n hx hb dX10_strideOf_1 rfl (lv_at hl 1 rfl) ?_
  refine sp_call (W.runV (As := [.int (x)]) (rest := []) ⟨hx, hb, hml, hown, hts⟩ (c_X10_find l D am cy μ n t (by first | exact hM | exact hi_0 | (repeat first | exact hM | exact hi_0 | refine MS.st0 ?_ | refine MS.st ?_ (by omega))) x) (cwV 1 hts gX10_strideOf_X10_find rfl rfl rfl (by decide +kernel) ⟨Nat.le_of_ble_eq_true rfl, Nat.le_of_ble_eq_true rfl⟩) (sp_preV hK hP (κ := 0) (by decide) mE_0 rfl) rfl rfl hl.1 rfl (lv_room (Nat.le_of_ble_eq_true rfl)) dX10_strideOf_2 ⟨Nat.le_of_ble_eq_true rfl, Nat.le_of_ble_eq_true rfl⟩) ?_
  rcases opt_em (m_find (μ 1) n x) with q_1 | ⟨j_2, q_1⟩
  · refine W.eq (g2 := F0 m 5 ls [.int ((-1))]) (by rw [q_1]; rfl) ?_
    refine lv_istore_n (lv' := [(2, .int ((-1))), (0, .ref (am (0))), (1, .int (x))]) hx hb dX10_strideOf_5 rfl hl (by decide) rfl (fun ls hl => ?_)
    refine lv_aload_n hx hb dX10_strideOf_6 rfl (lv_at hl 1 rfl) ?_
    refine lv_iload_n hx hb dX10_strideOf_7 rfl (lv_at hl 0 rfl) ?_
    refine lv_if_ge (tgt := 15) hx hb dX10_strideOf_8 (by decide) (fun c_3 => ?_) (fun c_3 => ?_)
    · exact absurd c_3 (by decide)
    · skip
      refine lv_iconst (v := 1) hx hb dX10_strideOf_11 (by decide) ?_
      refine lv_goto (tgt := 29) hx hb dX10_strideOf_12 (by decide) ?_
      refine sp_put hx hb hts wi_X10_strideOf_X10 tyX10 tyX10_ok nmX10 hown hK hP hi hAk hS (κ := 0) (by decide) mE_0 rfl 0 (by decide) (hts _ (List.mem_of_getElem? (i := 1) rfl)) (fun _ h => h) rfl (ty := tyX10 0) (by decide +kernel) ⟨rfl, rfl⟩ (Nat.le_of_ble_eq_true rfl) (r1 := upd (μ 0) 0 1) (cE_of mE_0 (by simp [upd])) dX10_strideOf_29 (fun H locs hP hS => ?_)
      have hP : va_P D vwCl (mW am cy (sp_st μ 0 0 1)) H := hP
      refine lv_aload_n hx hb dX10_strideOf_32 rfl (lv_at hl 1 rfl) ?_
      refine sp_get hx hb hts wi_X10_strideOf_X10 hown hK hP (κ := 0) (by decide) mE_0 rfl 0 (by decide) (hts _ (List.mem_of_getElem? (i := 1) rfl)) (fun _ h => h) rfl dX10_strideOf_33 ?_
      refine W.eq (g2 := F0 m 36 ls [.int (1)]) (by rw [sp_st_s]) ?_
      refine lv_if_ne (tgt := 47) hx hb dX10_strideOf_36 (by decide) (fun c_4 => ?_) (fun c_4 => ?_)
      · skip
        refine lv_iconst (v := 0) hx hb dX10_strideOf_47 (by decide) ?_
        have hE9 : mW am cy (sp_st μ 0 0 1) = mW am cy (sp_st μ 0 0 (atO (m_find (μ 1) n x) 1 (fun k => atO (m_bes (μ 1) n k false) 2 (fun _ => 0)))) := by exact mW_eq (by simp [atO, b2i, atO, q_1])
        have hP : va_P D vwCl (mW am cy (sp_st μ 0 0 (atO (m_find (μ 1) n x) 1 (fun k => atO (m_bes (μ 1) n k false) 2 (fun _ => 0))))) H := by rw [← hE9]; exact hP
        exact W.iret (v := 0) hx hb hr (fun T9 hT9 _ => ⟨congrArg (fun z9 => Outcome.returned (some (Value.int z9))) (show (0 : Int32) = atO (m_find (μ 1) n x) 0 (fun k => atO (m_bes (μ 1) n k false) 0 (fun _ => m_stride (μ 1) n k)) from (by first | rfl | (simp [atO, b2i, q_1]; done))), by rw [hT9]; exact hP, hS.F hT9⟩) hS.2.2 dX10_strideOf_48
      · exact absurd c_4 (by decide)
  · have hj_2 := m_find_lt q_1
    refine W.eq (g2 := F0 m 5 ls [.int (nI j_2)]) (by rw [q_1]; rfl) ?_
    refine lv_istore_n (lv' := [(2, .int (nI j_2)), (0, .ref (am (0))), (1, .int (x))]) hx hb dX10_strideOf_5 rfl hl (by decide) rfl (fun ls hl => ?_)
    refine lv_aload_n hx hb dX10_strideOf_6 rfl (lv_at hl 1 rfl) ?_
    refine lv_iload_n hx hb dX10_strideOf_7 rfl (lv_at hl 0 rfl) ?_
    refine lv_if_ge (tgt := 15) hx hb dX10_strideOf_8 (by decide) (fun c_5 => ?_) (fun c_5 => ?_)
    · skip
      have c_5d := Int32.not_lt.mpr c_5
      refine lv_aload_n hx hb dX10_strideOf_15 rfl (lv_at hl 1 rfl) ?_
      refine lv_iload_n hx hb dX10_strideOf_16 rfl (lv_at hl 0 rfl) ?_
      refine lv_iconst (v := 0) hx hb dX10_strideOf_17 (by decide) ?_
      refine sp_call (W.runV (As := [.int (nI j_2), .int (0)]) (rest := [.ref (am (0))]) ⟨hx, hb, hml, hown, hts⟩ (c_X10_beside l D am cy μ n t (by first | exact hM | exact hi_0 | (repeat first | exact hM | exact hi_0 | refine MS.st0 ?_ | refine MS.st ?_ (by omega))) j_2 (by omega) false) (cwV 2 hts gX10_strideOf_X10_beside rfl rfl rfl (by decide +kernel) ⟨Nat.le_of_ble_eq_true rfl, Nat.le_of_ble_eq_true rfl⟩) (sp_preV hK hP (κ := 0) (by decide) mE_0 rfl) rfl rfl hl.1 rfl (lv_room (Nat.le_of_ble_eq_true rfl)) dX10_strideOf_18 ⟨Nat.le_of_ble_eq_true rfl, Nat.le_of_ble_eq_true rfl⟩) ?_
      rcases opt_em (m_bes (μ 1) n j_2 false) with q_6 | ⟨j_7, q_6⟩
      · refine W.eq (g2 := F0 m 21 ls [.int ((-1)), .ref (am (0))]) (by rw [q_6]; rfl) ?_
        refine lv_if_ge (tgt := 28) hx hb dX10_strideOf_21 (by decide) (fun c_8 => ?_) (fun c_8 => ?_)
        · exact absurd c_8 (by decide)
        · skip
          refine lv_iconst (v := 2) hx hb dX10_strideOf_24 (by decide) ?_
          refine lv_goto (tgt := 29) hx hb dX10_strideOf_25 (by decide) ?_
          refine sp_put hx hb hts wi_X10_strideOf_X10 tyX10 tyX10_ok nmX10 hown hK hP hi hAk hS (κ := 0) (by decide) mE_0 rfl 0 (by decide) (hts _ (List.mem_of_getElem? (i := 1) rfl)) (fun _ h => h) rfl (ty := tyX10 0) (by decide +kernel) ⟨rfl, rfl⟩ (Nat.le_of_ble_eq_true rfl) (r1 := upd (μ 0) 0 2) (cE_of mE_0 (by simp [upd])) dX10_strideOf_29 (fun H locs hP hS => ?_)
          have hP : va_P D vwCl (mW am cy (sp_st μ 0 0 2)) H := hP
          refine lv_aload_n hx hb dX10_strideOf_32 rfl (lv_at hl 1 rfl) ?_
          refine sp_get hx hb hts wi_X10_strideOf_X10 hown hK hP (κ := 0) (by decide) mE_0 rfl 0 (by decide) (hts _ (List.mem_of_getElem? (i := 1) rfl)) (fun _ h => h) rfl dX10_strideOf_33 ?_
          refine W.eq (g2 := F0 m 36 ls [.int (2)]) (by rw [sp_st_s]) ?_
          refine lv_if_ne (tgt := 47) hx hb dX10_strideOf_36 (by decide) (fun c_9 => ?_) (fun c_9 => ?_)
          · skip
            refine lv_iconst (v := 0) hx hb dX10_strideOf_47 (by decide) ?_
            have hE9 : mW am cy (sp_st μ 0 0 2) = mW am cy (sp_st μ 0 0 (atO (m_find (μ 1) n x) 1 (fun k => atO (m_bes (μ 1) n k false) 2 (fun _ => 0)))) := by exact mW_eq (by simp [atO, b2i, atO, q_1, c_5, c_5d, q_6])
            have hP : va_P D vwCl (mW am cy (sp_st μ 0 0 (atO (m_find (μ 1) n x) 1 (fun k => atO (m_bes (μ 1) n k false) 2 (fun _ => 0))))) H := by rw [← hE9]; exact hP
            exact W.iret (v := 0) hx hb hr (fun T9 hT9 _ => ⟨congrArg (fun z9 => Outcome.returned (some (Value.int z9))) (show (0 : Int32) = atO (m_find (μ 1) n x) 0 (fun k => atO (m_bes (μ 1) n k false) 0 (fun _ => m_stride (μ 1) n k)) from (by first | rfl | (simp [atO, b2i, q_1, c_5, c_5d, q_6]; done))), by rw [hT9]; exact hP, hS.F hT9⟩) hS.2.2 dX10_strideOf_48
          · exact absurd c_9 (by decide)
      · have hj_7 := m_bes_lt q_6
        refine W.eq (g2 := F0 m 21 ls [.int (nI j_7), .ref (am (0))]) (by rw [q_6]; rfl) ?_
        refine lv_if_ge (tgt := 28) hx hb dX10_strideOf_21 (by decide) (fun c_10 => ?_) (fun c_10 => ?_)
        · skip
          have c_10d := Int32.not_lt.mpr c_10
          refine lv_iconst (v := 0) hx hb dX10_strideOf_28 (by decide) ?_
          refine sp_put hx hb hts wi_X10_strideOf_X10 tyX10 tyX10_ok nmX10 hown hK hP hi hAk hS (κ := 0) (by decide) mE_0 rfl 0 (by decide) (hts _ (List.mem_of_getElem? (i := 1) rfl)) (fun _ h => h) rfl (ty := tyX10 0) (by decide +kernel) ⟨rfl, rfl⟩ (Nat.le_of_ble_eq_true rfl) (r1 := upd (μ 0) 0 0) (cE_of mE_0 (by simp [upd])) dX10_strideOf_29 (fun H locs hP hS => ?_)
          have hP : va_P D vwCl (mW am cy (sp_st μ 0 0 0)) H := hP
          refine lv_aload_n hx hb dX10_strideOf_32 rfl (lv_at hl 1 rfl) ?_
          refine sp_get hx hb hts wi_X10_strideOf_X10 hown hK hP (κ := 0) (by decide) mE_0 rfl 0 (by decide) (hts _ (List.mem_of_getElem? (i := 1) rfl)) (fun _ h => h) rfl dX10_strideOf_33 ?_
          refine W.eq (g2 := F0 m 36 ls [.int (0)]) (by rw [sp_st_s]) ?_
          refine lv_if_ne (tgt := 47) hx hb dX10_strideOf_36 (by decide) (fun c_11 => ?_) (fun c_11 => ?_)
          · exact absurd c_11 (by decide)
          · skip
            refine lv_aload_n hx hb dX10_strideOf_39 rfl (lv_at hl 1 rfl) ?_
            refine lv_iload_n hx hb dX10_strideOf_40 rfl (lv_at hl 0 rfl) ?_
            refine sp_call (W.runV (As := [.int (nI j_2)]) (rest := []) ⟨hx, hb, hml, hown, hts⟩ (c_X10_strideAt l D am cy (sp_st μ 0 0 0) n t (by first | exact hM | exact hi_0 | (repeat first | exact hM | exact hi_0 | refine MS.st0 ?_ | refine MS.st ?_ (by omega))) j_2 (by omega)) (cwV 1 hts gX10_strideOf_X10_strideAt rfl rfl rfl (by decide +kernel) ⟨Nat.le_of_ble_eq_true rfl, Nat.le_of_ble_eq_true rfl⟩) (sp_preV hK hP (κ := 0) (by decide) mE_0 rfl) rfl rfl hl.1 rfl (lv_room (Nat.le_of_ble_eq_true rfl)) dX10_strideOf_41 ⟨Nat.le_of_ble_eq_true rfl, Nat.le_of_ble_eq_true rfl⟩) ?_
            refine W.eq (g2 := F0 m 44 ls [.int (m_stride ((sp_st μ 0 0 0) 1) n j_2)]) rfl ?_
            refine W.eq (g2 := F0 m 44 ls [.int (m_stride (μ 1) n j_2)]) (by rw [st0_1 μ 0 0]) ?_
            refine lv_goto (tgt := 48) hx hb dX10_strideOf_44 (by decide) ?_
            have hE9 : mW am cy (sp_st μ 0 0 0) = mW am cy (sp_st μ 0 0 (atO (m_find (μ 1) n x) 1 (fun k => atO (m_bes (μ 1) n k false) 2 (fun _ => 0)))) := by exact mW_eq (by simp [atO, b2i, atO, q_1, c_5, c_5d, q_6, c_10, c_10d])
            have hP : va_P D vwCl (mW am cy (sp_st μ 0 0 (atO (m_find (μ 1) n x) 1 (fun k => atO (m_bes (μ 1) n k false) 2 (fun _ => 0))))) H := by rw [← hE9]; exact hP
            exact W.iret (v := m_stride (μ 1) n j_2) hx hb hr (fun T9 hT9 _ => ⟨congrArg (fun z9 => Outcome.returned (some (Value.int z9))) (show (m_stride (μ 1) n j_2 : Int32) = atO (m_find (μ 1) n x) 0 (fun k => atO (m_bes (μ 1) n k false) 0 (fun _ => m_stride (μ 1) n k)) from (by first | rfl | (simp [atO, b2i, q_1, c_5, c_5d, q_6, c_10, c_10d]; done))), by rw [hT9]; exact hP, hS.F hT9⟩) hS.2.2 dX10_strideOf_48
        · exact absurd (Int32.not_lt.mp (nI_pos (by omega))) c_10
    · exact absurd (Int32.not_lt.mp (nI_pos (by omega))) c_5

set_option maxHeartbeats 4000000 in
set_option maxRecDepth 100000 in
theorem c_X10_isWrong (l : Launch) (D : va_G) (am : Nat → Nat) (cy : Nat → ClassId) (μ : Nat → Nat → Int32) (sz : Nat) (hi : sp_inj am 5) (n : Nat) (t : Nat) (hM : MS (μ 1) n t) (x : Int32) (z : Int32) : Met l yX10_isWrong wsX10_isWrong ({ frames := 4, cells := 0, slots := 0, locals := 93 } : Room) (sp_Pm D (tyG cy) sz [.ref (am (0)), .int (x), .int (z)] (mW am cy μ)) (sp_Q D (some (.int (b2i (atO (m_find (μ 1) n x) false (fun k => m_err (μ 1) n t k z))))) (mW am cy (sp_st μ 0 0 (atO (m_find (μ 1) n x) 1 (fun _ => 0)))) (sp_A am 5 sz)) 0 0 (sp_A am 5 sz) := by
  refine Met.ofW (cc := cX10_isWrong) (maxL := 4) (ret := (some .boolean)) (by decide) rfl ?_
  intro p e s m args below meth c s₁ B hml hv
  obtain ⟨rfl, hsz, hP, hK⟩ := hv
  have hx := B.exec
  have hb := B.bytes
  have hr := B.returns
  have hts := atoms_spec (ws := wsX10_isWrong) B.pre
  have hown : s.vm.findClass RX10 = some m.cls := findClass_of_methodNamed B.named
  have hlocks := B.notSynchronized
  subst hsz
  have hS : va_S (sp_A am 5 s.heap.size) s.heap s.heap [] := va_S.rf
  have hAk : ∀ k, k < 5 → (sp_A am 5 s.heap.size) (am k) := fun k hk => Or.inl ⟨k, hk, rfl⟩
  skip
  have hn30 := hM.2.1
  have ht6 := hM.2.2.2
  have hl := lv_entry ([.ref (am (0)), .int (x), .int (z)]) (n := 4) (Nat.le_of_ble_eq_true rfl)
  refine W.eq (lg_entry_eq _ ([.ref (am (0)), .int (x), .int (z)]) _) ?_
  generalize (lg_sl ([.ref (am (0)), .int (x), .int (z)]) ++ List.replicate (4 - (lg_sl ([.ref (am (0)), .int (x), .int (z)])).length) Slot.unset).toArray = ls at hl ⊢
  have hl : lv_has ls 4 [(0, .ref (am (0))), (1, .int (x)), (2, .int (z))] := hl
  refine lv_aload_n hx hb dX10_isWrong_0 rfl (lv_at hl 0 rfl) ?_
  refine lv_iload_n hx hb dX10_isWrong_1 rfl (lv_at hl 1 rfl) ?_
  refine sp_call (W.runV (As := [.int (x)]) (rest := []) ⟨hx, hb, hml, hown, hts⟩ (c_X10_find l D am cy μ n t (by first | exact hM | exact hi_0 | (repeat first | exact hM | exact hi_0 | refine MS.st0 ?_ | refine MS.st ?_ (by omega))) x) (cwV 1 hts gX10_isWrong_X10_find rfl rfl rfl (by decide +kernel) ⟨Nat.le_of_ble_eq_true rfl, Nat.le_of_ble_eq_true rfl⟩) (sp_preV hK hP (κ := 0) (by decide) mE_0 rfl) rfl rfl hl.1 rfl (lv_room (Nat.le_of_ble_eq_true rfl)) dX10_isWrong_2 ⟨Nat.le_of_ble_eq_true rfl, Nat.le_of_ble_eq_true rfl⟩) ?_
  rcases opt_em (m_find (μ 1) n x) with q_1 | ⟨j_2, q_1⟩
  · refine W.eq (g2 := F0 m 5 ls [.int ((-1))]) (by rw [q_1]; rfl) ?_
    refine lv_istore_n (lv' := [(3, .int ((-1))), (0, .ref (am (0))), (1, .int (x)), (2, .int (z))]) hx hb dX10_isWrong_5 rfl hl (by decide) rfl (fun ls hl => ?_)
    refine lv_aload_n hx hb dX10_isWrong_6 rfl (lv_at hl 1 rfl) ?_
    refine lv_iload_n hx hb dX10_isWrong_7 rfl (lv_at hl 0 rfl) ?_
    refine lv_if_lt (tgt := 15) hx hb dX10_isWrong_8 (by decide) (fun c_3 => ?_) (fun c_3 => ?_)
    · skip
      refine lv_iconst (v := 0) hx hb dX10_isWrong_15 (by decide) ?_
      refine sp_callm (va_runV (As := [.int (0)]) (rest := []) ⟨hx, hb, hml, hown, hts⟩ (c_X10_isFine_0 l D am cy μ _ hi ) (cwV 1 hts gX10_isWrong_X10_isFine rfl rfl rfl (by decide +kernel) ⟨Nat.le_of_ble_eq_true rfl, Nat.le_of_ble_eq_true rfl⟩) (sp_preVm hK hP (κ := 0) (by decide) mE_0 rfl) rfl rfl hl.1 rfl (lv_room (Nat.le_of_ble_eq_true rfl)) dX10_isWrong_16 ⟨Nat.le_of_ble_eq_true rfl, Nat.le_of_ble_eq_true rfl⟩) hS (fun q h1 h2 => sp_Alt h1 h2) (sp_Ale hS.1) (fun H locs hP hle hfr hS => ?_)
      refine W.eq (g2 := F0 m 19 ls [.int (0)]) rfl ?_
      refine lv_if_eq (tgt := 35) hx hb dX10_isWrong_19 (by decide) (fun c_4 => ?_) (fun c_4 => ?_)
      · skip
        refine lv_iconst (v := 0) hx hb dX10_isWrong_35 (by decide) ?_
        have hE9 : mW am cy (sp_st μ 0 0 1) = mW am cy (sp_st μ 0 0 (atO (m_find (μ 1) n x) 1 (fun _ => 0))) := by exact mW_eq (by simp [atO, b2i, atO, q_1])
        have hP : va_P D vwCl (mW am cy (sp_st μ 0 0 (atO (m_find (μ 1) n x) 1 (fun _ => 0)))) H := by rw [← hE9]; exact hP
        exact W.zret (v := 0) hx hb hr (by decide) (fun T9 hT9 _ => ⟨congrArg (fun z9 => Outcome.returned (some (Value.int z9))) (show (0 : Int32) = b2i (atO (m_find (μ 1) n x) false (fun k => m_err (μ 1) n t k z)) from (by first | rfl | (simp [atO, b2i, q_1]; done))), by rw [hT9]; exact hP, hS.F hT9⟩) hS.2.2 dX10_isWrong_36
      · exact absurd c_4 (by decide)
    · exact absurd c_3 (by decide)
  · have hj_2 := m_find_lt q_1
    refine W.eq (g2 := F0 m 5 ls [.int (nI j_2)]) (by rw [q_1]; rfl) ?_
    refine lv_istore_n (lv' := [(3, .int (nI j_2)), (0, .ref (am (0))), (1, .int (x)), (2, .int (z))]) hx hb dX10_isWrong_5 rfl hl (by decide) rfl (fun ls hl => ?_)
    refine lv_aload_n hx hb dX10_isWrong_6 rfl (lv_at hl 1 rfl) ?_
    refine lv_iload_n hx hb dX10_isWrong_7 rfl (lv_at hl 0 rfl) ?_
    refine lv_if_lt (tgt := 15) hx hb dX10_isWrong_8 (by decide) (fun c_5 => ?_) (fun c_5 => ?_)
    · exact absurd c_5 (nI_pos (by omega))
    · skip
      have c_5d := Int32.not_lt.mp c_5
      refine lv_iconst (v := 1) hx hb dX10_isWrong_11 (by decide) ?_
      refine lv_goto (tgt := 16) hx hb dX10_isWrong_12 (by decide) ?_
      refine sp_callm (va_runV (As := [.int (1)]) (rest := []) ⟨hx, hb, hml, hown, hts⟩ (c_X10_isFine_1 l D am cy μ _ hi ) (cwV 1 hts gX10_isWrong_X10_isFine rfl rfl rfl (by decide +kernel) ⟨Nat.le_of_ble_eq_true rfl, Nat.le_of_ble_eq_true rfl⟩) (sp_preVm hK hP (κ := 0) (by decide) mE_0 rfl) rfl rfl hl.1 rfl (lv_room (Nat.le_of_ble_eq_true rfl)) dX10_isWrong_16 ⟨Nat.le_of_ble_eq_true rfl, Nat.le_of_ble_eq_true rfl⟩) hS (fun q h1 h2 => sp_Alt h1 h2) (sp_Ale hS.1) (fun H locs hP hle hfr hS => ?_)
      refine W.eq (g2 := F0 m 19 ls [.int (1)]) rfl ?_
      refine lv_if_eq (tgt := 35) hx hb dX10_isWrong_19 (by decide) (fun c_6 => ?_) (fun c_6 => ?_)
      · exact absurd c_6 (by decide)
      · skip
        refine lv_aload_n hx hb dX10_isWrong_22 rfl (lv_at hl 1 rfl) ?_
        refine lv_iload_n hx hb dX10_isWrong_23 rfl (lv_at hl 0 rfl) ?_
        refine lv_iload_n hx hb dX10_isWrong_24 rfl (lv_at hl 3 rfl) ?_
        refine sp_call (W.runV (As := [.int (nI j_2), .int (z)]) (rest := []) ⟨hx, hb, hml, hown, hts⟩ (c_X10_hasError l D am cy (sp_st μ 0 0 0) n t (by first | exact hM | exact hi_0 | (repeat first | exact hM | exact hi_0 | refine MS.st0 ?_ | refine MS.st ?_ (by omega))) j_2 (by omega) z) (cwV 2 hts gX10_isWrong_X10_hasError rfl rfl rfl (by decide +kernel) ⟨Nat.le_of_ble_eq_true rfl, Nat.le_of_ble_eq_true rfl⟩) (sp_preV hK hP (κ := 0) (by decide) mE_0 rfl) rfl rfl hl.1 rfl (lv_room (Nat.le_of_ble_eq_true rfl)) dX10_isWrong_25 ⟨Nat.le_of_ble_eq_true rfl, Nat.le_of_ble_eq_true rfl⟩) ?_
        refine W.eq (g2 := F0 m 28 ls [.int (b2i (m_err ((sp_st μ 0 0 0) 1) n t j_2 z))]) rfl ?_
        refine W.eq (g2 := F0 m 28 ls [.int (b2i (m_err (μ 1) n t j_2 z))]) (by rw [st0_1 μ 0 0]) ?_
        refine lv_if_eq (tgt := 35) hx hb dX10_isWrong_28 (by decide) (fun c_7 => ?_) (fun c_7 => ?_)
        · rw [b2i_eq0] at c_7
          refine lv_iconst (v := 0) hx hb dX10_isWrong_35 (by decide) ?_
          have hE9 : mW am cy (sp_st μ 0 0 0) = mW am cy (sp_st μ 0 0 (atO (m_find (μ 1) n x) 1 (fun _ => 0))) := by exact mW_eq (by simp [atO, b2i, atO, q_1, c_5, c_5d, c_7])
          have hP : va_P D vwCl (mW am cy (sp_st μ 0 0 (atO (m_find (μ 1) n x) 1 (fun _ => 0)))) H := by rw [← hE9]; exact hP
          exact W.zret (v := 0) hx hb hr (by decide) (fun T9 hT9 _ => ⟨congrArg (fun z9 => Outcome.returned (some (Value.int z9))) (show (0 : Int32) = b2i (atO (m_find (μ 1) n x) false (fun k => m_err (μ 1) n t k z)) from (by first | rfl | (simp [atO, b2i, q_1, c_5, c_5d, c_7]; done))), by rw [hT9]; exact hP, hS.F hT9⟩) hS.2.2 dX10_isWrong_36
        · rw [b2i_eq0] at c_7
          refine lv_iconst (v := 1) hx hb dX10_isWrong_31 (by decide) ?_
          refine lv_goto (tgt := 36) hx hb dX10_isWrong_32 (by decide) ?_
          have hE9 : mW am cy (sp_st μ 0 0 0) = mW am cy (sp_st μ 0 0 (atO (m_find (μ 1) n x) 1 (fun _ => 0))) := by exact mW_eq (by simp [atO, b2i, atO, q_1, c_5, c_5d, c_7])
          have hP : va_P D vwCl (mW am cy (sp_st μ 0 0 (atO (m_find (μ 1) n x) 1 (fun _ => 0)))) H := by rw [← hE9]; exact hP
          exact W.zret (v := 1) hx hb hr (by decide) (fun T9 hT9 _ => ⟨congrArg (fun z9 => Outcome.returned (some (Value.int z9))) (show (1 : Int32) = b2i (atO (m_find (μ 1) n x) false (fun k => m_err (μ 1) n t k z)) from (by first | rfl | (simp [atO, b2i, q_1, c_5, c_5d, c_7]; done))), by rw [hT9]; exact hP, hS.F hT9⟩) hS.2.2 dX10_isWrong_36

set_option maxHeartbeats 4000000 in
set_option maxRecDepth 100000 in
theorem c_X10_hasStrideError (l : Launch) (D : va_G) (am : Nat → Nat) (cy : Nat → ClassId) (μ : Nat → Nat → Int32) (sz : Nat) (hi : sp_inj am 5) (n : Nat) (t : Nat) (hM : MS (μ 1) n t) (x : Int32) : Met l yX10_hasStrideError wsX10_hasStrideError ({ frames := 5, cells := 0, slots := 0, locals := 116 } : Room) (sp_Pm D (tyG cy) sz [.ref (am (0)), .int (x)] (mW am cy μ)) (sp_Q D (some (.int (b2i (atO (m_find (μ 1) n x) false (fun k => m_err (μ 1) n t k 0))))) (mW am cy (sp_st μ 0 0 (atO (m_find (μ 1) n x) 1 (fun _ => 0)))) (sp_A am 5 sz)) 0 0 (sp_A am 5 sz) := by
  refine Met.ofW (cc := cX10_hasStrideError) (maxL := 2) (ret := (some .boolean)) (by decide) rfl ?_
  intro p e s m args below meth c s₁ B hml hv
  obtain ⟨rfl, hsz, hP, hK⟩ := hv
  have hx := B.exec
  have hb := B.bytes
  have hr := B.returns
  have hts := atoms_spec (ws := wsX10_hasStrideError) B.pre
  have hown : s.vm.findClass RX10 = some m.cls := findClass_of_methodNamed B.named
  have hlocks := B.notSynchronized
  subst hsz
  have hS : va_S (sp_A am 5 s.heap.size) s.heap s.heap [] := va_S.rf
  have hAk : ∀ k, k < 5 → (sp_A am 5 s.heap.size) (am k) := fun k hk => Or.inl ⟨k, hk, rfl⟩
  skip
  have hn30 := hM.2.1
  have ht6 := hM.2.2.2
  have hl := lv_entry ([.ref (am (0)), .int (x)]) (n := 2) (Nat.le_of_ble_eq_true rfl)
  refine W.eq (lg_entry_eq _ ([.ref (am (0)), .int (x)]) _) ?_
  generalize (lg_sl ([.ref (am (0)), .int (x)]) ++ List.replicate (2 - (lg_sl ([.ref (am (0)), .int (x)])).length) Slot.unset).toArray = ls at hl ⊢
  have hl : lv_has ls 2 [(0, .ref (am (0))), (1, .int (x))] := hl
  refine lv_aload_n hx hb dX10_hasStrideError_0 rfl (lv_at hl 0 rfl) ?_
  refine lv_iload_n hx hb dX10_hasStrideError_1 rfl (lv_at hl 1 rfl) ?_
  refine lv_iconst (v := 0) hx hb dX10_hasStrideError_2 (by decide) ?_
  refine sp_callm (va_runV (As := [.int (x), .int (0)]) (rest := []) ⟨hx, hb, hml, hown, hts⟩ (c_X10_isWrong l D am cy μ _ hi n t (by first | exact hM | exact hi_0 | (repeat first | exact hM | exact hi_0 | refine MS.st0 ?_ | refine MS.st ?_ (by omega))) x 0) (cwV 2 hts gX10_hasStrideError_X10_isWrong rfl rfl rfl (by decide +kernel) ⟨Nat.le_of_ble_eq_true rfl, Nat.le_of_ble_eq_true rfl⟩) (sp_preVm hK hP (κ := 0) (by decide) mE_0 rfl) rfl rfl hl.1 rfl (lv_room (Nat.le_of_ble_eq_true rfl)) dX10_hasStrideError_3 ⟨Nat.le_of_ble_eq_true rfl, Nat.le_of_ble_eq_true rfl⟩) hS (fun q h1 h2 => sp_Alt h1 h2) (sp_Ale hS.1) (fun H locs hP hle hfr hS => ?_)
  refine W.eq (g2 := F0 m 6 ls [.int (b2i (atO (m_find (μ 1) n x) false (fun k => m_err (μ 1) n t k 0)))]) rfl ?_
  exact W.zret (v := b2i (atO (m_find (μ 1) n x) false (fun k => m_err (μ 1) n t k 0))) hx hb hr ((nz_of (bz_b2i _)).1) (fun T9 hT9 _ => ⟨congrArg (fun z9 => Outcome.returned (some (Value.int z9))) (show (b2i (atO (m_find (μ 1) n x) false (fun k => m_err (μ 1) n t k 0)) : Int32) = b2i (atO (m_find (μ 1) n x) false (fun k => m_err (μ 1) n t k 0)) from (by first | rfl | (simp [atO, b2i]; done))), by rw [hT9]; exact hP, hS.F hT9⟩) hS.2.2 dX10_hasStrideError_6

set_option maxHeartbeats 4000000 in
set_option maxRecDepth 100000 in
theorem c_X10_hasFootError (l : Launch) (D : va_G) (am : Nat → Nat) (cy : Nat → ClassId) (μ : Nat → Nat → Int32) (sz : Nat) (hi : sp_inj am 5) (n : Nat) (t : Nat) (hM : MS (μ 1) n t) (x : Int32) : Met l yX10_hasFootError wsX10_hasFootError ({ frames := 5, cells := 0, slots := 0, locals := 116 } : Room) (sp_Pm D (tyG cy) sz [.ref (am (0)), .int (x)] (mW am cy μ)) (sp_Q D (some (.int (b2i (atO (m_find (μ 1) n x) false (fun k => m_err (μ 1) n t k 1))))) (mW am cy (sp_st μ 0 0 (atO (m_find (μ 1) n x) 1 (fun _ => 0)))) (sp_A am 5 sz)) 0 0 (sp_A am 5 sz) := by
  refine Met.ofW (cc := cX10_hasFootError) (maxL := 2) (ret := (some .boolean)) (by decide) rfl ?_
  intro p e s m args below meth c s₁ B hml hv
  obtain ⟨rfl, hsz, hP, hK⟩ := hv
  have hx := B.exec
  have hb := B.bytes
  have hr := B.returns
  have hts := atoms_spec (ws := wsX10_hasFootError) B.pre
  have hown : s.vm.findClass RX10 = some m.cls := findClass_of_methodNamed B.named
  have hlocks := B.notSynchronized
  subst hsz
  have hS : va_S (sp_A am 5 s.heap.size) s.heap s.heap [] := va_S.rf
  have hAk : ∀ k, k < 5 → (sp_A am 5 s.heap.size) (am k) := fun k hk => Or.inl ⟨k, hk, rfl⟩
  skip
  have hn30 := hM.2.1
  have ht6 := hM.2.2.2
  have hl := lv_entry ([.ref (am (0)), .int (x)]) (n := 2) (Nat.le_of_ble_eq_true rfl)
  refine W.eq (lg_entry_eq _ ([.ref (am (0)), .int (x)]) _) ?_
  generalize (lg_sl ([.ref (am (0)), .int (x)]) ++ List.replicate (2 - (lg_sl ([.ref (am (0)), .int (x)])).length) Slot.unset).toArray = ls at hl ⊢
  have hl : lv_has ls 2 [(0, .ref (am (0))), (1, .int (x))] := hl
  refine lv_aload_n hx hb dX10_hasFootError_0 rfl (lv_at hl 0 rfl) ?_
  refine lv_iload_n hx hb dX10_hasFootError_1 rfl (lv_at hl 1 rfl) ?_
  refine lv_iconst (v := 1) hx hb dX10_hasFootError_2 (by decide) ?_
  refine sp_callm (va_runV (As := [.int (x), .int (1)]) (rest := []) ⟨hx, hb, hml, hown, hts⟩ (c_X10_isWrong l D am cy μ _ hi n t (by first | exact hM | exact hi_0 | (repeat first | exact hM | exact hi_0 | refine MS.st0 ?_ | refine MS.st ?_ (by omega))) x 1) (cwV 2 hts gX10_hasFootError_X10_isWrong rfl rfl rfl (by decide +kernel) ⟨Nat.le_of_ble_eq_true rfl, Nat.le_of_ble_eq_true rfl⟩) (sp_preVm hK hP (κ := 0) (by decide) mE_0 rfl) rfl rfl hl.1 rfl (lv_room (Nat.le_of_ble_eq_true rfl)) dX10_hasFootError_3 ⟨Nat.le_of_ble_eq_true rfl, Nat.le_of_ble_eq_true rfl⟩) hS (fun q h1 h2 => sp_Alt h1 h2) (sp_Ale hS.1) (fun H locs hP hle hfr hS => ?_)
  refine W.eq (g2 := F0 m 6 ls [.int (b2i (atO (m_find (μ 1) n x) false (fun k => m_err (μ 1) n t k 1)))]) rfl ?_
  exact W.zret (v := b2i (atO (m_find (μ 1) n x) false (fun k => m_err (μ 1) n t k 1))) hx hb hr ((nz_of (bz_b2i _)).1) (fun T9 hT9 _ => ⟨congrArg (fun z9 => Outcome.returned (some (Value.int z9))) (show (b2i (atO (m_find (μ 1) n x) false (fun k => m_err (μ 1) n t k 1)) : Int32) = b2i (atO (m_find (μ 1) n x) false (fun k => m_err (μ 1) n t k 1)) from (by first | rfl | (simp [atO, b2i]; done))), by rw [hT9]; exact hP, hS.F hT9⟩) hS.2.2 dX10_hasFootError_6

set_option maxHeartbeats 4000000 in
set_option maxRecDepth 100000 in
theorem c_X10_hasDepthError (l : Launch) (D : va_G) (am : Nat → Nat) (cy : Nat → ClassId) (μ : Nat → Nat → Int32) (sz : Nat) (hi : sp_inj am 5) (n : Nat) (t : Nat) (hM : MS (μ 1) n t) (x : Int32) : Met l yX10_hasDepthError wsX10_hasDepthError ({ frames := 5, cells := 0, slots := 0, locals := 116 } : Room) (sp_Pm D (tyG cy) sz [.ref (am (0)), .int (x)] (mW am cy μ)) (sp_Q D (some (.int (b2i (atO (m_find (μ 1) n x) false (fun k => m_err (μ 1) n t k 2))))) (mW am cy (sp_st μ 0 0 (atO (m_find (μ 1) n x) 1 (fun _ => 0)))) (sp_A am 5 sz)) 0 0 (sp_A am 5 sz) := by
  refine Met.ofW (cc := cX10_hasDepthError) (maxL := 2) (ret := (some .boolean)) (by decide) rfl ?_
  intro p e s m args below meth c s₁ B hml hv
  obtain ⟨rfl, hsz, hP, hK⟩ := hv
  have hx := B.exec
  have hb := B.bytes
  have hr := B.returns
  have hts := atoms_spec (ws := wsX10_hasDepthError) B.pre
  have hown : s.vm.findClass RX10 = some m.cls := findClass_of_methodNamed B.named
  have hlocks := B.notSynchronized
  subst hsz
  have hS : va_S (sp_A am 5 s.heap.size) s.heap s.heap [] := va_S.rf
  have hAk : ∀ k, k < 5 → (sp_A am 5 s.heap.size) (am k) := fun k hk => Or.inl ⟨k, hk, rfl⟩
  skip
  have hn30 := hM.2.1
  have ht6 := hM.2.2.2
  have hl := lv_entry ([.ref (am (0)), .int (x)]) (n := 2) (Nat.le_of_ble_eq_true rfl)
  refine W.eq (lg_entry_eq _ ([.ref (am (0)), .int (x)]) _) ?_
  generalize (lg_sl ([.ref (am (0)), .int (x)]) ++ List.replicate (2 - (lg_sl ([.ref (am (0)), .int (x)])).length) Slot.unset).toArray = ls at hl ⊢
  have hl : lv_has ls 2 [(0, .ref (am (0))), (1, .int (x))] := hl
  refine lv_aload_n hx hb dX10_hasDepthError_0 rfl (lv_at hl 0 rfl) ?_
  refine lv_iload_n hx hb dX10_hasDepthError_1 rfl (lv_at hl 1 rfl) ?_
  refine lv_iconst (v := 2) hx hb dX10_hasDepthError_2 (by decide) ?_
  refine sp_callm (va_runV (As := [.int (x), .int (2)]) (rest := []) ⟨hx, hb, hml, hown, hts⟩ (c_X10_isWrong l D am cy μ _ hi n t (by first | exact hM | exact hi_0 | (repeat first | exact hM | exact hi_0 | refine MS.st0 ?_ | refine MS.st ?_ (by omega))) x 2) (cwV 2 hts gX10_hasDepthError_X10_isWrong rfl rfl rfl (by decide +kernel) ⟨Nat.le_of_ble_eq_true rfl, Nat.le_of_ble_eq_true rfl⟩) (sp_preVm hK hP (κ := 0) (by decide) mE_0 rfl) rfl rfl hl.1 rfl (lv_room (Nat.le_of_ble_eq_true rfl)) dX10_hasDepthError_3 ⟨Nat.le_of_ble_eq_true rfl, Nat.le_of_ble_eq_true rfl⟩) hS (fun q h1 h2 => sp_Alt h1 h2) (sp_Ale hS.1) (fun H locs hP hle hfr hS => ?_)
  refine W.eq (g2 := F0 m 6 ls [.int (b2i (atO (m_find (μ 1) n x) false (fun k => m_err (μ 1) n t k 2)))]) rfl ?_
  exact W.zret (v := b2i (atO (m_find (μ 1) n x) false (fun k => m_err (μ 1) n t k 2))) hx hb hr ((nz_of (bz_b2i _)).1) (fun T9 hT9 _ => ⟨congrArg (fun z9 => Outcome.returned (some (Value.int z9))) (show (b2i (atO (m_find (μ 1) n x) false (fun k => m_err (μ 1) n t k 2)) : Int32) = b2i (atO (m_find (μ 1) n x) false (fun k => m_err (μ 1) n t k 2)) from (by first | rfl | (simp [atO, b2i]; done))), by rw [hT9]; exact hP, hS.F hT9⟩) hS.2.2 dX10_hasDepthError_6

theorem wi_X10_maxStride_X10 : ∀ w ∈ wsX100, w ∈ wsX10_maxStride := by decide +kernel
set_option maxHeartbeats 4000000 in
set_option maxRecDepth 100000 in
theorem c_X10_maxStride (l : Launch) (D : va_G) (am : Nat → Nat) (cy : Nat → ClassId) (μ : Nat → Nat → Int32) (sz : Nat) (hi : sp_inj am 5) (n : Nat) (t : Nat) (hM : MS (μ 1) n t) (x : Int32) : Met l yX10_maxStride wsX10_maxStride ({ frames := 1, cells := 0, slots := 0, locals := 22 } : Room) (sp_Pm D (tyG cy) sz [.ref (am (0)), .int (x)] (mW am cy μ)) (sp_Q D (some (.int (atO (m_ft (μ 1) t x) 0 (fun k => gS (μ 1) k)))) (mW am cy (sp_st μ 0 0 (atO (m_ft (μ 1) t x) 1 (fun _ => 0)))) (sp_A am 5 sz)) 0 0 (sp_A am 5 sz) := by
  refine Met.ofW (cc := cX10_maxStride) (maxL := 3) (ret := (some .int)) (by decide) rfl ?_
  intro p e s m args below meth c s₁ B hml hv
  obtain ⟨rfl, hsz, hP, hK⟩ := hv
  have hx := B.exec
  have hb := B.bytes
  have hr := B.returns
  have hts := atoms_spec (ws := wsX10_maxStride) B.pre
  have hown : s.vm.findClass RX10 = some m.cls := findClass_of_methodNamed B.named
  have hlocks := B.notSynchronized
  subst hsz
  have hS : va_S (sp_A am 5 s.heap.size) s.heap s.heap [] := va_S.rf
  have hAk : ∀ k, k < 5 → (sp_A am 5 s.heap.size) (am k) := fun k hk => Or.inl ⟨k, hk, rfl⟩
  skip
  have hn30 := hM.2.1
  have ht6 := hM.2.2.2
  have hl := lv_entry ([.ref (am (0)), .int (x)]) (n := 3) (Nat.le_of_ble_eq_true rfl)
  refine W.eq (lg_entry_eq _ ([.ref (am (0)), .int (x)]) _) ?_
  generalize (lg_sl ([.ref (am (0)), .int (x)]) ++ List.replicate (3 - (lg_sl ([.ref (am (0)), .int (x)])).length) Slot.unset).toArray = ls at hl ⊢
  have hl : lv_has ls 3 [(0, .ref (am (0))), (1, .int (x))] := hl
  refine lv_aload_n hx hb dX10_maxStride_0 rfl (lv_at hl 0 rfl) ?_
  refine lv_iload_n hx hb dX10_maxStride_1 rfl (lv_at hl 1 rfl) ?_
  refine sp_call (W.runV (As := [.int (x)]) (rest := []) ⟨hx, hb, hml, hown, hts⟩ (c_X10_findTrack l D am cy μ n t (by first | exact hM | exact hi_0 | (repeat first | exact hM | exact hi_0 | refine MS.st0 ?_ | refine MS.st ?_ (by omega))) x) (cwV 1 hts gX10_maxStride_X10_findTrack rfl rfl rfl (by decide +kernel) ⟨Nat.le_of_ble_eq_true rfl, Nat.le_of_ble_eq_true rfl⟩) (sp_preV hK hP (κ := 0) (by decide) mE_0 rfl) rfl rfl hl.1 rfl (lv_room (Nat.le_of_ble_eq_true rfl)) dX10_maxStride_2 ⟨Nat.le_of_ble_eq_true rfl, Nat.le_of_ble_eq_true rfl⟩) ?_
  rcases opt_em (m_ft (μ 1) t x) with q_1 | ⟨j_2, q_1⟩
  · refine W.eq (g2 := F0 m 5 ls [.int ((-1))]) (by rw [q_1]; rfl) ?_
    refine lv_istore_n (lv' := [(2, .int ((-1))), (0, .ref (am (0))), (1, .int (x))]) hx hb dX10_maxStride_5 rfl hl (by decide) rfl (fun ls hl => ?_)
    refine lv_aload_n hx hb dX10_maxStride_6 rfl (lv_at hl 1 rfl) ?_
    refine lv_iload_n hx hb dX10_maxStride_7 rfl (lv_at hl 0 rfl) ?_
    refine lv_if_lt (tgt := 15) hx hb dX10_maxStride_8 (by decide) (fun c_3 => ?_) (fun c_3 => ?_)
    · skip
      refine lv_iconst (v := 0) hx hb dX10_maxStride_15 (by decide) ?_
      refine sp_callm (va_runV (As := [.int (0)]) (rest := []) ⟨hx, hb, hml, hown, hts⟩ (c_X10_isFine_0 l D am cy μ _ hi ) (cwV 1 hts gX10_maxStride_X10_isFine rfl rfl rfl (by decide +kernel) ⟨Nat.le_of_ble_eq_true rfl, Nat.le_of_ble_eq_true rfl⟩) (sp_preVm hK hP (κ := 0) (by decide) mE_0 rfl) rfl rfl hl.1 rfl (lv_room (Nat.le_of_ble_eq_true rfl)) dX10_maxStride_16 ⟨Nat.le_of_ble_eq_true rfl, Nat.le_of_ble_eq_true rfl⟩) hS (fun q h1 h2 => sp_Alt h1 h2) (sp_Ale hS.1) (fun H locs hP hle hfr hS => ?_)
      refine W.eq (g2 := F0 m 19 ls [.int (0)]) rfl ?_
      refine lv_if_eq (tgt := 38) hx hb dX10_maxStride_19 (by decide) (fun c_4 => ?_) (fun c_4 => ?_)
      · skip
        refine lv_iconst (v := 0) hx hb dX10_maxStride_38 (by decide) ?_
        have hE9 : mW am cy (sp_st μ 0 0 1) = mW am cy (sp_st μ 0 0 (atO (m_ft (μ 1) t x) 1 (fun _ => 0))) := by exact mW_eq (by simp [atO, b2i, atO, gS, q_1])
        have hP : va_P D vwCl (mW am cy (sp_st μ 0 0 (atO (m_ft (μ 1) t x) 1 (fun _ => 0)))) H := by rw [← hE9]; exact hP
        exact W.iret (v := 0) hx hb hr (fun T9 hT9 _ => ⟨congrArg (fun z9 => Outcome.returned (some (Value.int z9))) (show (0 : Int32) = atO (m_ft (μ 1) t x) 0 (fun k => gS (μ 1) k) from (by first | rfl | (simp [atO, gS, b2i, q_1]; done))), by rw [hT9]; exact hP, hS.F hT9⟩) hS.2.2 dX10_maxStride_39
      · exact absurd c_4 (by decide)
    · exact absurd c_3 (by decide)
  · have hj_2 := m_ft_lt q_1
    refine W.eq (g2 := F0 m 5 ls [.int (nI j_2)]) (by rw [q_1]; rfl) ?_
    refine lv_istore_n (lv' := [(2, .int (nI j_2)), (0, .ref (am (0))), (1, .int (x))]) hx hb dX10_maxStride_5 rfl hl (by decide) rfl (fun ls hl => ?_)
    refine lv_aload_n hx hb dX10_maxStride_6 rfl (lv_at hl 1 rfl) ?_
    refine lv_iload_n hx hb dX10_maxStride_7 rfl (lv_at hl 0 rfl) ?_
    refine lv_if_lt (tgt := 15) hx hb dX10_maxStride_8 (by decide) (fun c_5 => ?_) (fun c_5 => ?_)
    · exact absurd c_5 (nI_pos (by omega))
    · skip
      have c_5d := Int32.not_lt.mp c_5
      refine lv_iconst (v := 1) hx hb dX10_maxStride_11 (by decide) ?_
      refine lv_goto (tgt := 16) hx hb dX10_maxStride_12 (by decide) ?_
      refine sp_callm (va_runV (As := [.int (1)]) (rest := []) ⟨hx, hb, hml, hown, hts⟩ (c_X10_isFine_1 l D am cy μ _ hi ) (cwV 1 hts gX10_maxStride_X10_isFine rfl rfl rfl (by decide +kernel) ⟨Nat.le_of_ble_eq_true rfl, Nat.le_of_ble_eq_true rfl⟩) (sp_preVm hK hP (κ := 0) (by decide) mE_0 rfl) rfl rfl hl.1 rfl (lv_room (Nat.le_of_ble_eq_true rfl)) dX10_maxStride_16 ⟨Nat.le_of_ble_eq_true rfl, Nat.le_of_ble_eq_true rfl⟩) hS (fun q h1 h2 => sp_Alt h1 h2) (sp_Ale hS.1) (fun H locs hP hle hfr hS => ?_)
      refine W.eq (g2 := F0 m 19 ls [.int (1)]) rfl ?_
      refine lv_if_eq (tgt := 38) hx hb dX10_maxStride_19 (by decide) (fun c_6 => ?_) (fun c_6 => ?_)
      · exact absurd c_6 (by decide)
      · skip
        refine lv_aload_n hx hb dX10_maxStride_22 rfl (lv_at hl 1 rfl) ?_
        refine sp_get hx hb hts wi_X10_maxStride_X10 hown hK hP (κ := 0) (by decide) mE_0 rfl 1 (by decide) (hts _ (List.mem_of_getElem? (i := 1) rfl)) (fun _ h => h) rfl dX10_maxStride_23 ?_
        refine lv_bipush (v := 7) hx hb dX10_maxStride_26 (by decide) ?_
        refine lv_iconst (v := 2) hx hb dX10_maxStride_28 (by decide) ?_
        refine lv_iload_n hx hb dX10_maxStride_29 rfl (lv_at hl 0 rfl) ?_
        refine lv_imul hx hb dX10_maxStride_30 ?_
        refine lv_iadd hx hb dX10_maxStride_31 ?_
        refine lv_iconst (v := 1) hx hb dX10_maxStride_32 (by decide) ?_
        refine lv_iadd hx hb dX10_maxStride_33 ?_
        refine sp_iald hx hb hK hP (κ := 1) (by decide) 1 mE_1 rfl ((7 + (2 * j_2)) + 1) (nI_addE (nI_addE rfl (nI_mulE rfl rfl)) rfl) (by omega) (by decide) dX10_maxStride_34 ?_
        refine W.eq (g2 := F0 m 35 ls [.int (μ 1 ((7 + (2 * j_2)) + 1))]) (by rw [sp_st_k _ _ _ _ _ _ (by decide)]) ?_
        refine lv_goto (tgt := 39) hx hb dX10_maxStride_35 (by decide) ?_
        have hE9 : mW am cy (sp_st μ 0 0 0) = mW am cy (sp_st μ 0 0 (atO (m_ft (μ 1) t x) 1 (fun _ => 0))) := by exact mW_eq (by simp [atO, b2i, atO, gS, q_1, c_5, c_5d])
        have hP : va_P D vwCl (mW am cy (sp_st μ 0 0 (atO (m_ft (μ 1) t x) 1 (fun _ => 0)))) H := by rw [← hE9]; exact hP
        exact W.iret (v := μ 1 ((7 + (2 * j_2)) + 1)) hx hb hr (fun T9 hT9 _ => ⟨congrArg (fun z9 => Outcome.returned (some (Value.int z9))) (show (μ 1 ((7 + (2 * j_2)) + 1) : Int32) = atO (m_ft (μ 1) t x) 0 (fun k => gS (μ 1) k) from (by first | rfl | (simp [atO, gS, b2i, q_1, c_5, c_5d]; done))), by rw [hT9]; exact hP, hS.F hT9⟩) hS.2.2 dX10_maxStride_39

set_option maxHeartbeats 4000000 in
set_option maxRecDepth 100000 in
theorem c_X10_printCount (l : Launch) (D : va_G) (am : Nat → Nat) (cy : Nat → ClassId) (μ : Nat → Nat → Int32) (sz : Nat) (hi : sp_inj am 5) (n : Nat) (t : Nat) (hM : MS (μ 1) n t) (x : Int32) : Met l yX10_printCount wsX10_printCount ({ frames := 2, cells := 0, slots := 0, locals := 45 } : Room) (sp_Pm D (tyG cy) sz [.ref (am (0)), .int (x)] (mW am cy μ)) (sp_Q D (some (.int (atO (m_ft (μ 1) t x) 0 (fun k => m_count (μ 1) n x)))) (mW am cy (sp_st μ 0 0 (atO (m_ft (μ 1) t x) 1 (fun _ => 0)))) (sp_A am 5 sz)) 0 0 (sp_A am 5 sz) := by
  refine Met.ofW (cc := cX10_printCount) (maxL := 2) (ret := (some .int)) (by decide) rfl ?_
  intro p e s m args below meth c s₁ B hml hv
  obtain ⟨rfl, hsz, hP, hK⟩ := hv
  have hx := B.exec
  have hb := B.bytes
  have hr := B.returns
  have hts := atoms_spec (ws := wsX10_printCount) B.pre
  have hown : s.vm.findClass RX10 = some m.cls := findClass_of_methodNamed B.named
  have hlocks := B.notSynchronized
  subst hsz
  have hS : va_S (sp_A am 5 s.heap.size) s.heap s.heap [] := va_S.rf
  have hAk : ∀ k, k < 5 → (sp_A am 5 s.heap.size) (am k) := fun k hk => Or.inl ⟨k, hk, rfl⟩
  skip
  have hn30 := hM.2.1
  have ht6 := hM.2.2.2
  have hl := lv_entry ([.ref (am (0)), .int (x)]) (n := 2) (Nat.le_of_ble_eq_true rfl)
  refine W.eq (lg_entry_eq _ ([.ref (am (0)), .int (x)]) _) ?_
  generalize (lg_sl ([.ref (am (0)), .int (x)]) ++ List.replicate (2 - (lg_sl ([.ref (am (0)), .int (x)])).length) Slot.unset).toArray = ls at hl ⊢
  have hl : lv_has ls 2 [(0, .ref (am (0))), (1, .int (x))] := hl
  refine lv_aload_n hx hb dX10_printCount_0 rfl (lv_at hl 0 rfl) ?_
  refine lv_aload_n hx hb dX10_printCount_1 rfl (lv_at hl 0 rfl) ?_
  refine lv_iload_n hx hb dX10_printCount_2 rfl (lv_at hl 1 rfl) ?_
  refine sp_call (W.runV (As := [.int (x)]) (rest := [.ref (am (0))]) ⟨hx, hb, hml, hown, hts⟩ (c_X10_findTrack l D am cy μ n t (by first | exact hM | exact hi_0 | (repeat first | exact hM | exact hi_0 | refine MS.st0 ?_ | refine MS.st ?_ (by omega))) x) (cwV 1 hts gX10_printCount_X10_findTrack rfl rfl rfl (by decide +kernel) ⟨Nat.le_of_ble_eq_true rfl, Nat.le_of_ble_eq_true rfl⟩) (sp_preV hK hP (κ := 0) (by decide) mE_0 rfl) rfl rfl hl.1 rfl (lv_room (Nat.le_of_ble_eq_true rfl)) dX10_printCount_3 ⟨Nat.le_of_ble_eq_true rfl, Nat.le_of_ble_eq_true rfl⟩) ?_
  rcases opt_em (m_ft (μ 1) t x) with q_1 | ⟨j_2, q_1⟩
  · refine W.eq (g2 := F0 m 6 ls [.int ((-1)), .ref (am (0))]) (by rw [q_1]; rfl) ?_
    refine lv_if_lt (tgt := 13) hx hb dX10_printCount_6 (by decide) (fun c_3 => ?_) (fun c_3 => ?_)
    · skip
      refine lv_iconst (v := 0) hx hb dX10_printCount_13 (by decide) ?_
      refine sp_callm (va_runV (As := [.int (0)]) (rest := []) ⟨hx, hb, hml, hown, hts⟩ (c_X10_isFine_0 l D am cy μ _ hi ) (cwV 1 hts gX10_printCount_X10_isFine rfl rfl rfl (by decide +kernel) ⟨Nat.le_of_ble_eq_true rfl, Nat.le_of_ble_eq_true rfl⟩) (sp_preVm hK hP (κ := 0) (by decide) mE_0 rfl) rfl rfl hl.1 rfl (lv_room (Nat.le_of_ble_eq_true rfl)) dX10_printCount_14 ⟨Nat.le_of_ble_eq_true rfl, Nat.le_of_ble_eq_true rfl⟩) hS (fun q h1 h2 => sp_Alt h1 h2) (sp_Ale hS.1) (fun H locs hP hle hfr hS => ?_)
      refine W.eq (g2 := F0 m 17 ls [.int (0)]) rfl ?_
      refine lv_if_eq (tgt := 28) hx hb dX10_printCount_17 (by decide) (fun c_4 => ?_) (fun c_4 => ?_)
      · skip
        refine lv_iconst (v := 0) hx hb dX10_printCount_28 (by decide) ?_
        have hE9 : mW am cy (sp_st μ 0 0 1) = mW am cy (sp_st μ 0 0 (atO (m_ft (μ 1) t x) 1 (fun _ => 0))) := by exact mW_eq (by simp [atO, b2i, atO, q_1])
        have hP : va_P D vwCl (mW am cy (sp_st μ 0 0 (atO (m_ft (μ 1) t x) 1 (fun _ => 0)))) H := by rw [← hE9]; exact hP
        exact W.iret (v := 0) hx hb hr (fun T9 hT9 _ => ⟨congrArg (fun z9 => Outcome.returned (some (Value.int z9))) (show (0 : Int32) = atO (m_ft (μ 1) t x) 0 (fun k => m_count (μ 1) n x) from (by first | rfl | (simp [atO, b2i, q_1]; done))), by rw [hT9]; exact hP, hS.F hT9⟩) hS.2.2 dX10_printCount_29
      · exact absurd c_4 (by decide)
    · exact absurd c_3 (by decide)
  · have hj_2 := m_ft_lt q_1
    refine W.eq (g2 := F0 m 6 ls [.int (nI j_2), .ref (am (0))]) (by rw [q_1]; rfl) ?_
    refine lv_if_lt (tgt := 13) hx hb dX10_printCount_6 (by decide) (fun c_5 => ?_) (fun c_5 => ?_)
    · exact absurd c_5 (nI_pos (by omega))
    · skip
      have c_5d := Int32.not_lt.mp c_5
      refine lv_iconst (v := 1) hx hb dX10_printCount_9 (by decide) ?_
      refine lv_goto (tgt := 14) hx hb dX10_printCount_10 (by decide) ?_
      refine sp_callm (va_runV (As := [.int (1)]) (rest := []) ⟨hx, hb, hml, hown, hts⟩ (c_X10_isFine_1 l D am cy μ _ hi ) (cwV 1 hts gX10_printCount_X10_isFine rfl rfl rfl (by decide +kernel) ⟨Nat.le_of_ble_eq_true rfl, Nat.le_of_ble_eq_true rfl⟩) (sp_preVm hK hP (κ := 0) (by decide) mE_0 rfl) rfl rfl hl.1 rfl (lv_room (Nat.le_of_ble_eq_true rfl)) dX10_printCount_14 ⟨Nat.le_of_ble_eq_true rfl, Nat.le_of_ble_eq_true rfl⟩) hS (fun q h1 h2 => sp_Alt h1 h2) (sp_Ale hS.1) (fun H locs hP hle hfr hS => ?_)
      refine W.eq (g2 := F0 m 17 ls [.int (1)]) rfl ?_
      refine lv_if_eq (tgt := 28) hx hb dX10_printCount_17 (by decide) (fun c_6 => ?_) (fun c_6 => ?_)
      · exact absurd c_6 (by decide)
      · skip
        refine lv_aload_n hx hb dX10_printCount_20 rfl (lv_at hl 0 rfl) ?_
        refine lv_iload_n hx hb dX10_printCount_21 rfl (lv_at hl 1 rfl) ?_
        refine sp_call (W.runV (As := [.int (x)]) (rest := []) ⟨hx, hb, hml, hown, hts⟩ (c_X10_countOf l D am cy (sp_st μ 0 0 0) n t (by first | exact hM | exact hi_0 | (repeat first | exact hM | exact hi_0 | refine MS.st0 ?_ | refine MS.st ?_ (by omega))) x) (cwV 1 hts gX10_printCount_X10_countOf rfl rfl rfl (by decide +kernel) ⟨Nat.le_of_ble_eq_true rfl, Nat.le_of_ble_eq_true rfl⟩) (sp_preV hK hP (κ := 0) (by decide) mE_0 rfl) rfl rfl hl.1 rfl (lv_room (Nat.le_of_ble_eq_true rfl)) dX10_printCount_22 ⟨Nat.le_of_ble_eq_true rfl, Nat.le_of_ble_eq_true rfl⟩) ?_
        refine W.eq (g2 := F0 m 25 ls [.int (m_count ((sp_st μ 0 0 0) 1) n x)]) rfl ?_
        refine W.eq (g2 := F0 m 25 ls [.int (m_count (μ 1) n x)]) (by rw [st0_1 μ 0 0]) ?_
        refine lv_goto (tgt := 29) hx hb dX10_printCount_25 (by decide) ?_
        have hE9 : mW am cy (sp_st μ 0 0 0) = mW am cy (sp_st μ 0 0 (atO (m_ft (μ 1) t x) 1 (fun _ => 0))) := by exact mW_eq (by simp [atO, b2i, atO, q_1, c_5, c_5d])
        have hP : va_P D vwCl (mW am cy (sp_st μ 0 0 (atO (m_ft (μ 1) t x) 1 (fun _ => 0)))) H := by rw [← hE9]; exact hP
        exact W.iret (v := m_count (μ 1) n x) hx hb hr (fun T9 hT9 _ => ⟨congrArg (fun z9 => Outcome.returned (some (Value.int z9))) (show (m_count (μ 1) n x : Int32) = atO (m_ft (μ 1) t x) 0 (fun k => m_count (μ 1) n x) from (by first | rfl | (simp [atO, b2i, q_1, c_5, c_5d]; done))), by rw [hT9]; exact hP, hS.F hT9⟩) hS.2.2 dX10_printCount_29

set_option maxHeartbeats 4000000 in
set_option maxRecDepth 100000 in
theorem c_X10_trackLength (l : Launch) (D : va_G) (am : Nat → Nat) (cy : Nat → ClassId) (μ : Nat → Nat → Int32) (sz : Nat) (hi : sp_inj am 5) (n : Nat) (t : Nat) (hM : MS (μ 1) n t) (x : Int32) : Met l yX10_trackLength wsX10_trackLength ({ frames := 4, cells := 0, slots := 0, locals := 93 } : Room) (sp_Pm D (tyG cy) sz [.ref (am (0)), .int (x)] (mW am cy μ)) (sp_Q D (some (.int (atO (m_ft (μ 1) t x) 0 (fun k => m_len (μ 1) n x)))) (mW am cy (sp_st μ 0 0 (atO (m_ft (μ 1) t x) 1 (fun _ => 0)))) (sp_A am 5 sz)) 0 0 (sp_A am 5 sz) := by
  refine Met.ofW (cc := cX10_trackLength) (maxL := 2) (ret := (some .int)) (by decide) rfl ?_
  intro p e s m args below meth c s₁ B hml hv
  obtain ⟨rfl, hsz, hP, hK⟩ := hv
  have hx := B.exec
  have hb := B.bytes
  have hr := B.returns
  have hts := atoms_spec (ws := wsX10_trackLength) B.pre
  have hown : s.vm.findClass RX10 = some m.cls := findClass_of_methodNamed B.named
  have hlocks := B.notSynchronized
  subst hsz
  have hS : va_S (sp_A am 5 s.heap.size) s.heap s.heap [] := va_S.rf
  have hAk : ∀ k, k < 5 → (sp_A am 5 s.heap.size) (am k) := fun k hk => Or.inl ⟨k, hk, rfl⟩
  skip
  have hn30 := hM.2.1
  have ht6 := hM.2.2.2
  have hl := lv_entry ([.ref (am (0)), .int (x)]) (n := 2) (Nat.le_of_ble_eq_true rfl)
  refine W.eq (lg_entry_eq _ ([.ref (am (0)), .int (x)]) _) ?_
  generalize (lg_sl ([.ref (am (0)), .int (x)]) ++ List.replicate (2 - (lg_sl ([.ref (am (0)), .int (x)])).length) Slot.unset).toArray = ls at hl ⊢
  have hl : lv_has ls 2 [(0, .ref (am (0))), (1, .int (x))] := hl
  refine lv_aload_n hx hb dX10_trackLength_0 rfl (lv_at hl 0 rfl) ?_
  refine lv_aload_n hx hb dX10_trackLength_1 rfl (lv_at hl 0 rfl) ?_
  refine lv_iload_n hx hb dX10_trackLength_2 rfl (lv_at hl 1 rfl) ?_
  refine sp_call (W.runV (As := [.int (x)]) (rest := [.ref (am (0))]) ⟨hx, hb, hml, hown, hts⟩ (c_X10_findTrack l D am cy μ n t (by first | exact hM | exact hi_0 | (repeat first | exact hM | exact hi_0 | refine MS.st0 ?_ | refine MS.st ?_ (by omega))) x) (cwV 1 hts gX10_trackLength_X10_findTrack rfl rfl rfl (by decide +kernel) ⟨Nat.le_of_ble_eq_true rfl, Nat.le_of_ble_eq_true rfl⟩) (sp_preV hK hP (κ := 0) (by decide) mE_0 rfl) rfl rfl hl.1 rfl (lv_room (Nat.le_of_ble_eq_true rfl)) dX10_trackLength_3 ⟨Nat.le_of_ble_eq_true rfl, Nat.le_of_ble_eq_true rfl⟩) ?_
  rcases opt_em (m_ft (μ 1) t x) with q_1 | ⟨j_2, q_1⟩
  · refine W.eq (g2 := F0 m 6 ls [.int ((-1)), .ref (am (0))]) (by rw [q_1]; rfl) ?_
    refine lv_if_lt (tgt := 13) hx hb dX10_trackLength_6 (by decide) (fun c_3 => ?_) (fun c_3 => ?_)
    · skip
      refine lv_iconst (v := 0) hx hb dX10_trackLength_13 (by decide) ?_
      refine sp_callm (va_runV (As := [.int (0)]) (rest := []) ⟨hx, hb, hml, hown, hts⟩ (c_X10_isFine_0 l D am cy μ _ hi ) (cwV 1 hts gX10_trackLength_X10_isFine rfl rfl rfl (by decide +kernel) ⟨Nat.le_of_ble_eq_true rfl, Nat.le_of_ble_eq_true rfl⟩) (sp_preVm hK hP (κ := 0) (by decide) mE_0 rfl) rfl rfl hl.1 rfl (lv_room (Nat.le_of_ble_eq_true rfl)) dX10_trackLength_14 ⟨Nat.le_of_ble_eq_true rfl, Nat.le_of_ble_eq_true rfl⟩) hS (fun q h1 h2 => sp_Alt h1 h2) (sp_Ale hS.1) (fun H locs hP hle hfr hS => ?_)
      refine W.eq (g2 := F0 m 17 ls [.int (0)]) rfl ?_
      refine lv_if_eq (tgt := 28) hx hb dX10_trackLength_17 (by decide) (fun c_4 => ?_) (fun c_4 => ?_)
      · skip
        refine lv_iconst (v := 0) hx hb dX10_trackLength_28 (by decide) ?_
        have hE9 : mW am cy (sp_st μ 0 0 1) = mW am cy (sp_st μ 0 0 (atO (m_ft (μ 1) t x) 1 (fun _ => 0))) := by exact mW_eq (by simp [atO, b2i, atO, q_1])
        have hP : va_P D vwCl (mW am cy (sp_st μ 0 0 (atO (m_ft (μ 1) t x) 1 (fun _ => 0)))) H := by rw [← hE9]; exact hP
        exact W.iret (v := 0) hx hb hr (fun T9 hT9 _ => ⟨congrArg (fun z9 => Outcome.returned (some (Value.int z9))) (show (0 : Int32) = atO (m_ft (μ 1) t x) 0 (fun k => m_len (μ 1) n x) from (by first | rfl | (simp [atO, b2i, q_1]; done))), by rw [hT9]; exact hP, hS.F hT9⟩) hS.2.2 dX10_trackLength_29
      · exact absurd c_4 (by decide)
    · exact absurd c_3 (by decide)
  · have hj_2 := m_ft_lt q_1
    refine W.eq (g2 := F0 m 6 ls [.int (nI j_2), .ref (am (0))]) (by rw [q_1]; rfl) ?_
    refine lv_if_lt (tgt := 13) hx hb dX10_trackLength_6 (by decide) (fun c_5 => ?_) (fun c_5 => ?_)
    · exact absurd c_5 (nI_pos (by omega))
    · skip
      have c_5d := Int32.not_lt.mp c_5
      refine lv_iconst (v := 1) hx hb dX10_trackLength_9 (by decide) ?_
      refine lv_goto (tgt := 14) hx hb dX10_trackLength_10 (by decide) ?_
      refine sp_callm (va_runV (As := [.int (1)]) (rest := []) ⟨hx, hb, hml, hown, hts⟩ (c_X10_isFine_1 l D am cy μ _ hi ) (cwV 1 hts gX10_trackLength_X10_isFine rfl rfl rfl (by decide +kernel) ⟨Nat.le_of_ble_eq_true rfl, Nat.le_of_ble_eq_true rfl⟩) (sp_preVm hK hP (κ := 0) (by decide) mE_0 rfl) rfl rfl hl.1 rfl (lv_room (Nat.le_of_ble_eq_true rfl)) dX10_trackLength_14 ⟨Nat.le_of_ble_eq_true rfl, Nat.le_of_ble_eq_true rfl⟩) hS (fun q h1 h2 => sp_Alt h1 h2) (sp_Ale hS.1) (fun H locs hP hle hfr hS => ?_)
      refine W.eq (g2 := F0 m 17 ls [.int (1)]) rfl ?_
      refine lv_if_eq (tgt := 28) hx hb dX10_trackLength_17 (by decide) (fun c_6 => ?_) (fun c_6 => ?_)
      · exact absurd c_6 (by decide)
      · skip
        refine lv_aload_n hx hb dX10_trackLength_20 rfl (lv_at hl 0 rfl) ?_
        refine lv_iload_n hx hb dX10_trackLength_21 rfl (lv_at hl 1 rfl) ?_
        refine sp_call (W.runV (As := [.int (x)]) (rest := []) ⟨hx, hb, hml, hown, hts⟩ (c_X10_lengthOf l D am cy (sp_st μ 0 0 0) n t (by first | exact hM | exact hi_0 | (repeat first | exact hM | exact hi_0 | refine MS.st0 ?_ | refine MS.st ?_ (by omega))) x) (cwV 1 hts gX10_trackLength_X10_lengthOf rfl rfl rfl (by decide +kernel) ⟨Nat.le_of_ble_eq_true rfl, Nat.le_of_ble_eq_true rfl⟩) (sp_preV hK hP (κ := 0) (by decide) mE_0 rfl) rfl rfl hl.1 rfl (lv_room (Nat.le_of_ble_eq_true rfl)) dX10_trackLength_22 ⟨Nat.le_of_ble_eq_true rfl, Nat.le_of_ble_eq_true rfl⟩) ?_
        refine W.eq (g2 := F0 m 25 ls [.int (m_len ((sp_st μ 0 0 0) 1) n x)]) rfl ?_
        refine W.eq (g2 := F0 m 25 ls [.int (m_len (μ 1) n x)]) (by rw [st0_1 μ 0 0]) ?_
        refine lv_goto (tgt := 29) hx hb dX10_trackLength_25 (by decide) ?_
        have hE9 : mW am cy (sp_st μ 0 0 0) = mW am cy (sp_st μ 0 0 (atO (m_ft (μ 1) t x) 1 (fun _ => 0))) := by exact mW_eq (by simp [atO, b2i, atO, q_1, c_5, c_5d])
        have hP : va_P D vwCl (mW am cy (sp_st μ 0 0 (atO (m_ft (μ 1) t x) 1 (fun _ => 0)))) H := by rw [← hE9]; exact hP
        exact W.iret (v := m_len (μ 1) n x) hx hb hr (fun T9 hT9 _ => ⟨congrArg (fun z9 => Outcome.returned (some (Value.int z9))) (show (m_len (μ 1) n x : Int32) = atO (m_ft (μ 1) t x) 0 (fun k => m_len (μ 1) n x) from (by first | rfl | (simp [atO, b2i, q_1, c_5, c_5d]; done))), by rw [hT9]; exact hP, hS.F hT9⟩) hS.2.2 dX10_trackLength_29

set_option maxHeartbeats 4000000 in
set_option maxRecDepth 100000 in
theorem c_X10_trackLengthAgain (l : Launch) (D : va_G) (am : Nat → Nat) (cy : Nat → ClassId) (μ : Nat → Nat → Int32) (sz : Nat) (hi : sp_inj am 5) (n : Nat) (t : Nat) (hM : MS (μ 1) n t) (x : Int32) : Met l yX10_trackLengthAgain wsX10_trackLengthAgain ({ frames := 5, cells := 0, slots := 0, locals := 114 } : Room) (sp_Pm D (tyG cy) sz [.ref (am (0)), .int (x)] (mW am cy μ)) (sp_Q D (some (.int (atO (m_ft (μ 1) t x) 0 (fun k => m_len (μ 1) n x)))) (mW am cy (sp_st μ 0 0 (atO (m_ft (μ 1) t x) 1 (fun _ => 0)))) (sp_A am 5 sz)) 0 0 (sp_A am 5 sz) := by
  refine Met.ofW (cc := cX10_trackLengthAgain) (maxL := 2) (ret := (some .int)) (by decide) rfl ?_
  intro p e s m args below meth c s₁ B hml hv
  obtain ⟨rfl, hsz, hP, hK⟩ := hv
  have hx := B.exec
  have hb := B.bytes
  have hr := B.returns
  have hts := atoms_spec (ws := wsX10_trackLengthAgain) B.pre
  have hown : s.vm.findClass RX10 = some m.cls := findClass_of_methodNamed B.named
  have hlocks := B.notSynchronized
  subst hsz
  have hS : va_S (sp_A am 5 s.heap.size) s.heap s.heap [] := va_S.rf
  have hAk : ∀ k, k < 5 → (sp_A am 5 s.heap.size) (am k) := fun k hk => Or.inl ⟨k, hk, rfl⟩
  skip
  have hn30 := hM.2.1
  have ht6 := hM.2.2.2
  have hl := lv_entry ([.ref (am (0)), .int (x)]) (n := 2) (Nat.le_of_ble_eq_true rfl)
  refine W.eq (lg_entry_eq _ ([.ref (am (0)), .int (x)]) _) ?_
  generalize (lg_sl ([.ref (am (0)), .int (x)]) ++ List.replicate (2 - (lg_sl ([.ref (am (0)), .int (x)])).length) Slot.unset).toArray = ls at hl ⊢
  have hl : lv_has ls 2 [(0, .ref (am (0))), (1, .int (x))] := hl
  refine lv_aload_n hx hb dX10_trackLengthAgain_0 rfl (lv_at hl 0 rfl) ?_
  refine lv_iload_n hx hb dX10_trackLengthAgain_1 rfl (lv_at hl 1 rfl) ?_
  refine sp_callm (va_runV (As := [.int (x)]) (rest := []) ⟨hx, hb, hml, hown, hts⟩ (c_X10_trackLength l D am cy μ _ hi n t (by first | exact hM | exact hi_0 | (repeat first | exact hM | exact hi_0 | refine MS.st0 ?_ | refine MS.st ?_ (by omega))) x) (cwV 1 hts gX10_trackLengthAgain_X10_trackLength rfl rfl rfl (by decide +kernel) ⟨Nat.le_of_ble_eq_true rfl, Nat.le_of_ble_eq_true rfl⟩) (sp_preVm hK hP (κ := 0) (by decide) mE_0 rfl) rfl rfl hl.1 rfl (lv_room (Nat.le_of_ble_eq_true rfl)) dX10_trackLengthAgain_2 ⟨Nat.le_of_ble_eq_true rfl, Nat.le_of_ble_eq_true rfl⟩) hS (fun q h1 h2 => sp_Alt h1 h2) (sp_Ale hS.1) (fun H locs hP hle hfr hS => ?_)
  refine W.eq (g2 := F0 m 5 ls [.int (atO (m_ft (μ 1) t x) 0 (fun k => m_len (μ 1) n x))]) rfl ?_
  exact W.iret (v := atO (m_ft (μ 1) t x) 0 (fun k => m_len (μ 1) n x)) hx hb hr (fun T9 hT9 _ => ⟨congrArg (fun z9 => Outcome.returned (some (Value.int z9))) (show (atO (m_ft (μ 1) t x) 0 (fun k => m_len (μ 1) n x) : Int32) = atO (m_ft (μ 1) t x) 0 (fun k => m_len (μ 1) n x) from (by first | rfl | (simp [atO, b2i]; done))), by rw [hT9]; exact hP, hS.F hT9⟩) hS.2.2 dX10_trackLengthAgain_5

set_option maxHeartbeats 4000000 in
set_option maxRecDepth 100000 in
theorem c_X10_errorCount (l : Launch) (D : va_G) (am : Nat → Nat) (cy : Nat → ClassId) (μ : Nat → Nat → Int32) (sz : Nat) (hi : sp_inj am 5) (n : Nat) (t : Nat) (hM : MS (μ 1) n t) (x : Int32) : Met l yX10_errorCount wsX10_errorCount ({ frames := 6, cells := 0, slots := 0, locals := 137 } : Room) (sp_Pm D (tyG cy) sz [.ref (am (0)), .int (x)] (mW am cy μ)) (sp_Q D (some (.int (atO (m_ft (μ 1) t x) 0 (fun k => m_errs (μ 1) n t x)))) (mW am cy (sp_st μ 0 0 (atO (m_ft (μ 1) t x) 1 (fun _ => 0)))) (sp_A am 5 sz)) 0 0 (sp_A am 5 sz) := by
  refine Met.ofW (cc := cX10_errorCount) (maxL := 2) (ret := (some .int)) (by decide) rfl ?_
  intro p e s m args below meth c s₁ B hml hv
  obtain ⟨rfl, hsz, hP, hK⟩ := hv
  have hx := B.exec
  have hb := B.bytes
  have hr := B.returns
  have hts := atoms_spec (ws := wsX10_errorCount) B.pre
  have hown : s.vm.findClass RX10 = some m.cls := findClass_of_methodNamed B.named
  have hlocks := B.notSynchronized
  subst hsz
  have hS : va_S (sp_A am 5 s.heap.size) s.heap s.heap [] := va_S.rf
  have hAk : ∀ k, k < 5 → (sp_A am 5 s.heap.size) (am k) := fun k hk => Or.inl ⟨k, hk, rfl⟩
  skip
  have hn30 := hM.2.1
  have ht6 := hM.2.2.2
  have hl := lv_entry ([.ref (am (0)), .int (x)]) (n := 2) (Nat.le_of_ble_eq_true rfl)
  refine W.eq (lg_entry_eq _ ([.ref (am (0)), .int (x)]) _) ?_
  generalize (lg_sl ([.ref (am (0)), .int (x)]) ++ List.replicate (2 - (lg_sl ([.ref (am (0)), .int (x)])).length) Slot.unset).toArray = ls at hl ⊢
  have hl : lv_has ls 2 [(0, .ref (am (0))), (1, .int (x))] := hl
  refine lv_aload_n hx hb dX10_errorCount_0 rfl (lv_at hl 0 rfl) ?_
  refine lv_aload_n hx hb dX10_errorCount_1 rfl (lv_at hl 0 rfl) ?_
  refine lv_iload_n hx hb dX10_errorCount_2 rfl (lv_at hl 1 rfl) ?_
  refine sp_call (W.runV (As := [.int (x)]) (rest := [.ref (am (0))]) ⟨hx, hb, hml, hown, hts⟩ (c_X10_findTrack l D am cy μ n t (by first | exact hM | exact hi_0 | (repeat first | exact hM | exact hi_0 | refine MS.st0 ?_ | refine MS.st ?_ (by omega))) x) (cwV 1 hts gX10_errorCount_X10_findTrack rfl rfl rfl (by decide +kernel) ⟨Nat.le_of_ble_eq_true rfl, Nat.le_of_ble_eq_true rfl⟩) (sp_preV hK hP (κ := 0) (by decide) mE_0 rfl) rfl rfl hl.1 rfl (lv_room (Nat.le_of_ble_eq_true rfl)) dX10_errorCount_3 ⟨Nat.le_of_ble_eq_true rfl, Nat.le_of_ble_eq_true rfl⟩) ?_
  rcases opt_em (m_ft (μ 1) t x) with q_1 | ⟨j_2, q_1⟩
  · refine W.eq (g2 := F0 m 6 ls [.int ((-1)), .ref (am (0))]) (by rw [q_1]; rfl) ?_
    refine lv_if_lt (tgt := 13) hx hb dX10_errorCount_6 (by decide) (fun c_3 => ?_) (fun c_3 => ?_)
    · skip
      refine lv_iconst (v := 0) hx hb dX10_errorCount_13 (by decide) ?_
      refine sp_callm (va_runV (As := [.int (0)]) (rest := []) ⟨hx, hb, hml, hown, hts⟩ (c_X10_isFine_0 l D am cy μ _ hi ) (cwV 1 hts gX10_errorCount_X10_isFine rfl rfl rfl (by decide +kernel) ⟨Nat.le_of_ble_eq_true rfl, Nat.le_of_ble_eq_true rfl⟩) (sp_preVm hK hP (κ := 0) (by decide) mE_0 rfl) rfl rfl hl.1 rfl (lv_room (Nat.le_of_ble_eq_true rfl)) dX10_errorCount_14 ⟨Nat.le_of_ble_eq_true rfl, Nat.le_of_ble_eq_true rfl⟩) hS (fun q h1 h2 => sp_Alt h1 h2) (sp_Ale hS.1) (fun H locs hP hle hfr hS => ?_)
      refine W.eq (g2 := F0 m 17 ls [.int (0)]) rfl ?_
      refine lv_if_eq (tgt := 28) hx hb dX10_errorCount_17 (by decide) (fun c_4 => ?_) (fun c_4 => ?_)
      · skip
        refine lv_iconst (v := 0) hx hb dX10_errorCount_28 (by decide) ?_
        have hE9 : mW am cy (sp_st μ 0 0 1) = mW am cy (sp_st μ 0 0 (atO (m_ft (μ 1) t x) 1 (fun _ => 0))) := by exact mW_eq (by simp [atO, b2i, atO, q_1])
        have hP : va_P D vwCl (mW am cy (sp_st μ 0 0 (atO (m_ft (μ 1) t x) 1 (fun _ => 0)))) H := by rw [← hE9]; exact hP
        exact W.iret (v := 0) hx hb hr (fun T9 hT9 _ => ⟨congrArg (fun z9 => Outcome.returned (some (Value.int z9))) (show (0 : Int32) = atO (m_ft (μ 1) t x) 0 (fun k => m_errs (μ 1) n t x) from (by first | rfl | (simp [atO, b2i, q_1]; done))), by rw [hT9]; exact hP, hS.F hT9⟩) hS.2.2 dX10_errorCount_29
      · exact absurd c_4 (by decide)
    · exact absurd c_3 (by decide)
  · have hj_2 := m_ft_lt q_1
    refine W.eq (g2 := F0 m 6 ls [.int (nI j_2), .ref (am (0))]) (by rw [q_1]; rfl) ?_
    refine lv_if_lt (tgt := 13) hx hb dX10_errorCount_6 (by decide) (fun c_5 => ?_) (fun c_5 => ?_)
    · exact absurd c_5 (nI_pos (by omega))
    · skip
      have c_5d := Int32.not_lt.mp c_5
      refine lv_iconst (v := 1) hx hb dX10_errorCount_9 (by decide) ?_
      refine lv_goto (tgt := 14) hx hb dX10_errorCount_10 (by decide) ?_
      refine sp_callm (va_runV (As := [.int (1)]) (rest := []) ⟨hx, hb, hml, hown, hts⟩ (c_X10_isFine_1 l D am cy μ _ hi ) (cwV 1 hts gX10_errorCount_X10_isFine rfl rfl rfl (by decide +kernel) ⟨Nat.le_of_ble_eq_true rfl, Nat.le_of_ble_eq_true rfl⟩) (sp_preVm hK hP (κ := 0) (by decide) mE_0 rfl) rfl rfl hl.1 rfl (lv_room (Nat.le_of_ble_eq_true rfl)) dX10_errorCount_14 ⟨Nat.le_of_ble_eq_true rfl, Nat.le_of_ble_eq_true rfl⟩) hS (fun q h1 h2 => sp_Alt h1 h2) (sp_Ale hS.1) (fun H locs hP hle hfr hS => ?_)
      refine W.eq (g2 := F0 m 17 ls [.int (1)]) rfl ?_
      refine lv_if_eq (tgt := 28) hx hb dX10_errorCount_17 (by decide) (fun c_6 => ?_) (fun c_6 => ?_)
      · exact absurd c_6 (by decide)
      · skip
        refine lv_aload_n hx hb dX10_errorCount_20 rfl (lv_at hl 0 rfl) ?_
        refine lv_iload_n hx hb dX10_errorCount_21 rfl (lv_at hl 1 rfl) ?_
        refine sp_call (W.runV (As := [.int (x)]) (rest := []) ⟨hx, hb, hml, hown, hts⟩ (c_X10_errorsOf l D am cy (sp_st μ 0 0 0) n t (by first | exact hM | exact hi_0 | (repeat first | exact hM | exact hi_0 | refine MS.st0 ?_ | refine MS.st ?_ (by omega))) x) (cwV 1 hts gX10_errorCount_X10_errorsOf rfl rfl rfl (by decide +kernel) ⟨Nat.le_of_ble_eq_true rfl, Nat.le_of_ble_eq_true rfl⟩) (sp_preV hK hP (κ := 0) (by decide) mE_0 rfl) rfl rfl hl.1 rfl (lv_room (Nat.le_of_ble_eq_true rfl)) dX10_errorCount_22 ⟨Nat.le_of_ble_eq_true rfl, Nat.le_of_ble_eq_true rfl⟩) ?_
        refine W.eq (g2 := F0 m 25 ls [.int (m_errs ((sp_st μ 0 0 0) 1) n t x)]) rfl ?_
        refine W.eq (g2 := F0 m 25 ls [.int (m_errs (μ 1) n t x)]) (by rw [st0_1 μ 0 0]) ?_
        refine lv_goto (tgt := 29) hx hb dX10_errorCount_25 (by decide) ?_
        have hE9 : mW am cy (sp_st μ 0 0 0) = mW am cy (sp_st μ 0 0 (atO (m_ft (μ 1) t x) 1 (fun _ => 0))) := by exact mW_eq (by simp [atO, b2i, atO, q_1, c_5, c_5d])
        have hP : va_P D vwCl (mW am cy (sp_st μ 0 0 (atO (m_ft (μ 1) t x) 1 (fun _ => 0)))) H := by rw [← hE9]; exact hP
        exact W.iret (v := m_errs (μ 1) n t x) hx hb hr (fun T9 hT9 _ => ⟨congrArg (fun z9 => Outcome.returned (some (Value.int z9))) (show (m_errs (μ 1) n t x : Int32) = atO (m_ft (μ 1) t x) 0 (fun k => m_errs (μ 1) n t x) from (by first | rfl | (simp [atO, b2i, q_1, c_5, c_5d]; done))), by rw [hT9]; exact hP, hS.F hT9⟩) hS.2.2 dX10_errorCount_29

set_option maxHeartbeats 4000000 in
set_option maxRecDepth 100000 in
theorem c_X10_errorCountAgain (l : Launch) (D : va_G) (am : Nat → Nat) (cy : Nat → ClassId) (μ : Nat → Nat → Int32) (sz : Nat) (hi : sp_inj am 5) (n : Nat) (t : Nat) (hM : MS (μ 1) n t) (x : Int32) : Met l yX10_errorCountAgain wsX10_errorCountAgain ({ frames := 7, cells := 0, slots := 0, locals := 158 } : Room) (sp_Pm D (tyG cy) sz [.ref (am (0)), .int (x)] (mW am cy μ)) (sp_Q D (some (.int (atO (m_ft (μ 1) t x) 0 (fun k => m_errs (μ 1) n t x)))) (mW am cy (sp_st μ 0 0 (atO (m_ft (μ 1) t x) 1 (fun _ => 0)))) (sp_A am 5 sz)) 0 0 (sp_A am 5 sz) := by
  refine Met.ofW (cc := cX10_errorCountAgain) (maxL := 2) (ret := (some .int)) (by decide) rfl ?_
  intro p e s m args below meth c s₁ B hml hv
  obtain ⟨rfl, hsz, hP, hK⟩ := hv
  have hx := B.exec
  have hb := B.bytes
  have hr := B.returns
  have hts := atoms_spec (ws := wsX10_errorCountAgain) B.pre
  have hown : s.vm.findClass RX10 = some m.cls := findClass_of_methodNamed B.named
  have hlocks := B.notSynchronized
  subst hsz
  have hS : va_S (sp_A am 5 s.heap.size) s.heap s.heap [] := va_S.rf
  have hAk : ∀ k, k < 5 → (sp_A am 5 s.heap.size) (am k) := fun k hk => Or.inl ⟨k, hk, rfl⟩
  skip
  have hn30 := hM.2.1
  have ht6 := hM.2.2.2
  have hl := lv_entry ([.ref (am (0)), .int (x)]) (n := 2) (Nat.le_of_ble_eq_true rfl)
  refine W.eq (lg_entry_eq _ ([.ref (am (0)), .int (x)]) _) ?_
  generalize (lg_sl ([.ref (am (0)), .int (x)]) ++ List.replicate (2 - (lg_sl ([.ref (am (0)), .int (x)])).length) Slot.unset).toArray = ls at hl ⊢
  have hl : lv_has ls 2 [(0, .ref (am (0))), (1, .int (x))] := hl
  refine lv_aload_n hx hb dX10_errorCountAgain_0 rfl (lv_at hl 0 rfl) ?_
  refine lv_iload_n hx hb dX10_errorCountAgain_1 rfl (lv_at hl 1 rfl) ?_
  refine sp_callm (va_runV (As := [.int (x)]) (rest := []) ⟨hx, hb, hml, hown, hts⟩ (c_X10_errorCount l D am cy μ _ hi n t (by first | exact hM | exact hi_0 | (repeat first | exact hM | exact hi_0 | refine MS.st0 ?_ | refine MS.st ?_ (by omega))) x) (cwV 1 hts gX10_errorCountAgain_X10_errorCount rfl rfl rfl (by decide +kernel) ⟨Nat.le_of_ble_eq_true rfl, Nat.le_of_ble_eq_true rfl⟩) (sp_preVm hK hP (κ := 0) (by decide) mE_0 rfl) rfl rfl hl.1 rfl (lv_room (Nat.le_of_ble_eq_true rfl)) dX10_errorCountAgain_2 ⟨Nat.le_of_ble_eq_true rfl, Nat.le_of_ble_eq_true rfl⟩) hS (fun q h1 h2 => sp_Alt h1 h2) (sp_Ale hS.1) (fun H locs hP hle hfr hS => ?_)
  refine W.eq (g2 := F0 m 5 ls [.int (atO (m_ft (μ 1) t x) 0 (fun k => m_errs (μ 1) n t x))]) rfl ?_
  exact W.iret (v := atO (m_ft (μ 1) t x) 0 (fun k => m_errs (μ 1) n t x)) hx hb hr (fun T9 hT9 _ => ⟨congrArg (fun z9 => Outcome.returned (some (Value.int z9))) (show (atO (m_ft (μ 1) t x) 0 (fun k => m_errs (μ 1) n t x) : Int32) = atO (m_ft (μ 1) t x) 0 (fun k => m_errs (μ 1) n t x) from (by first | rfl | (simp [atO, b2i]; done))), by rw [hT9]; exact hP, hS.F hT9⟩) hS.2.2 dX10_errorCountAgain_5

theorem wi_X10_printAt_X10 : ∀ w ∈ wsX100, w ∈ wsX10_printAt := by decide +kernel
set_option maxHeartbeats 4000000 in
set_option maxRecDepth 100000 in
theorem c_X10_printAt (l : Launch) (D : va_G) (am : Nat → Nat) (cy : Nat → ClassId) (μ : Nat → Nat → Int32) (sz : Nat) (hi : sp_inj am 5) (n : Nat) (t : Nat) (hM : MS (μ 1) n t) (x : Int32) (q : Int32) : Met l yX10_printAt wsX10_printAt ({ frames := 2, cells := 0, slots := 0, locals := 47 } : Room) (sp_Pm D (tyG cy) sz [.ref (am (0)), .int (x), .int (q)] (mW am cy μ)) (sp_Q D (some (.int (atO (m_ft (μ 1) t x) 0 (fun k => if m_in q 0 (m_count (μ 1) n x - 1) = true then m_pv (μ 1) (m_po (μ 1) n x q) 0 else 0)))) (mW am cy (sp_st μ 0 0 (atO (m_ft (μ 1) t x) 1 (fun _ => if m_in q 0 (m_count (μ 1) n x - 1) = true then 0 else 2)))) (sp_A am 5 sz)) 0 0 (sp_A am 5 sz) := by
  refine Met.ofW (cc := cX10_printAt) (maxL := 3) (ret := (some .int)) (by decide) rfl ?_
  intro p e s m args below meth c s₁ B hml hv
  obtain ⟨rfl, hsz, hP, hK⟩ := hv
  have hx := B.exec
  have hb := B.bytes
  have hr := B.returns
  have hts := atoms_spec (ws := wsX10_printAt) B.pre
  have hown : s.vm.findClass RX10 = some m.cls := findClass_of_methodNamed B.named
  have hlocks := B.notSynchronized
  subst hsz
  have hS : va_S (sp_A am 5 s.heap.size) s.heap s.heap [] := va_S.rf
  have hAk : ∀ k, k < 5 → (sp_A am 5 s.heap.size) (am k) := fun k hk => Or.inl ⟨k, hk, rfl⟩
  skip
  have hn30 := hM.2.1
  have ht6 := hM.2.2.2
  have hl := lv_entry ([.ref (am (0)), .int (x), .int (q)]) (n := 3) (Nat.le_of_ble_eq_true rfl)
  refine W.eq (lg_entry_eq _ ([.ref (am (0)), .int (x), .int (q)]) _) ?_
  generalize (lg_sl ([.ref (am (0)), .int (x), .int (q)]) ++ List.replicate (3 - (lg_sl ([.ref (am (0)), .int (x), .int (q)])).length) Slot.unset).toArray = ls at hl ⊢
  have hl : lv_has ls 3 [(0, .ref (am (0))), (1, .int (x)), (2, .int (q))] := hl
  refine lv_aload_n hx hb dX10_printAt_0 rfl (lv_at hl 0 rfl) ?_
  refine lv_aload_n hx hb dX10_printAt_1 rfl (lv_at hl 0 rfl) ?_
  refine lv_iload_n hx hb dX10_printAt_2 rfl (lv_at hl 1 rfl) ?_
  refine sp_call (W.runV (As := [.int (x)]) (rest := [.ref (am (0))]) ⟨hx, hb, hml, hown, hts⟩ (c_X10_findTrack l D am cy μ n t (by first | exact hM | exact hi_0 | (repeat first | exact hM | exact hi_0 | refine MS.st0 ?_ | refine MS.st ?_ (by omega))) x) (cwV 1 hts gX10_printAt_X10_findTrack rfl rfl rfl (by decide +kernel) ⟨Nat.le_of_ble_eq_true rfl, Nat.le_of_ble_eq_true rfl⟩) (sp_preV hK hP (κ := 0) (by decide) mE_0 rfl) rfl rfl hl.1 rfl (lv_room (Nat.le_of_ble_eq_true rfl)) dX10_printAt_3 ⟨Nat.le_of_ble_eq_true rfl, Nat.le_of_ble_eq_true rfl⟩) ?_
  rcases opt_em (m_ft (μ 1) t x) with q_1 | ⟨j_2, q_1⟩
  · refine W.eq (g2 := F0 m 6 ls [.int ((-1)), .ref (am (0))]) (by rw [q_1]; rfl) ?_
    refine lv_if_ge (tgt := 13) hx hb dX10_printAt_6 (by decide) (fun c_3 => ?_) (fun c_3 => ?_)
    · exact absurd c_3 (by decide)
    · skip
      refine lv_iconst (v := 1) hx hb dX10_printAt_9 (by decide) ?_
      refine lv_goto (tgt := 33) hx hb dX10_printAt_10 (by decide) ?_
      refine sp_put hx hb hts wi_X10_printAt_X10 tyX10 tyX10_ok nmX10 hown hK hP hi hAk hS (κ := 0) (by decide) mE_0 rfl 0 (by decide) (hts _ (List.mem_of_getElem? (i := 1) rfl)) (fun _ h => h) rfl (ty := tyX10 0) (by decide +kernel) ⟨rfl, rfl⟩ (Nat.le_of_ble_eq_true rfl) (r1 := upd (μ 0) 0 1) (cE_of mE_0 (by simp [upd])) dX10_printAt_33 (fun H locs hP hS => ?_)
      have hP : va_P D vwCl (mW am cy (sp_st μ 0 0 1)) H := hP
      refine lv_aload_n hx hb dX10_printAt_36 rfl (lv_at hl 0 rfl) ?_
      refine sp_get hx hb hts wi_X10_printAt_X10 hown hK hP (κ := 0) (by decide) mE_0 rfl 0 (by decide) (hts _ (List.mem_of_getElem? (i := 1) rfl)) (fun _ h => h) rfl dX10_printAt_37 ?_
      refine W.eq (g2 := F0 m 40 ls [.int (1)]) (by rw [sp_st_s]) ?_
      refine lv_if_ne (tgt := 57) hx hb dX10_printAt_40 (by decide) (fun c_4 => ?_) (fun c_4 => ?_)
      · skip
        refine lv_iconst (v := 0) hx hb dX10_printAt_57 (by decide) ?_
        have hE9 : mW am cy (sp_st μ 0 0 1) = mW am cy (sp_st μ 0 0 (atO (m_ft (μ 1) t x) 1 (fun _ => if m_in q 0 (m_count (μ 1) n x - 1) = true then 0 else 2))) := by exact mW_eq (by simp [atO, b2i, atO, m_pv, st0_1, q_1])
        have hP : va_P D vwCl (mW am cy (sp_st μ 0 0 (atO (m_ft (μ 1) t x) 1 (fun _ => if m_in q 0 (m_count (μ 1) n x - 1) = true then 0 else 2)))) H := by rw [← hE9]; exact hP
        exact W.iret (v := 0) hx hb hr (fun T9 hT9 _ => ⟨congrArg (fun z9 => Outcome.returned (some (Value.int z9))) (show (0 : Int32) = atO (m_ft (μ 1) t x) 0 (fun k => if m_in q 0 (m_count (μ 1) n x - 1) = true then m_pv (μ 1) (m_po (μ 1) n x q) 0 else 0) from (by first | rfl | (simp [atO, m_pv, st0_1, b2i, q_1]; done))), by rw [hT9]; exact hP, hS.F hT9⟩) hS.2.2 dX10_printAt_58
      · exact absurd c_4 (by decide)
  · have hj_2 := m_ft_lt q_1
    refine W.eq (g2 := F0 m 6 ls [.int (nI j_2), .ref (am (0))]) (by rw [q_1]; rfl) ?_
    refine lv_if_ge (tgt := 13) hx hb dX10_printAt_6 (by decide) (fun c_5 => ?_) (fun c_5 => ?_)
    · skip
      have c_5d := Int32.not_lt.mpr c_5
      refine lv_iload_n hx hb dX10_printAt_13 rfl (lv_at hl 2 rfl) ?_
      refine lv_iconst (v := 0) hx hb dX10_printAt_14 (by decide) ?_
      refine lv_aload_n hx hb dX10_printAt_15 rfl (lv_at hl 0 rfl) ?_
      refine lv_iload_n hx hb dX10_printAt_16 rfl (lv_at hl 1 rfl) ?_
      refine sp_call (W.runV (As := [.int (x)]) (rest := [.int (0), .int (q), .ref (am (0))]) ⟨hx, hb, hml, hown, hts⟩ (c_X10_countOf l D am cy μ n t (by first | exact hM | exact hi_0 | (repeat first | exact hM | exact hi_0 | refine MS.st0 ?_ | refine MS.st ?_ (by omega))) x) (cwV 1 hts gX10_printAt_X10_countOf rfl rfl rfl (by decide +kernel) ⟨Nat.le_of_ble_eq_true rfl, Nat.le_of_ble_eq_true rfl⟩) (sp_preV hK hP (κ := 0) (by decide) mE_0 rfl) rfl rfl hl.1 rfl (lv_room (Nat.le_of_ble_eq_true rfl)) dX10_printAt_17 ⟨Nat.le_of_ble_eq_true rfl, Nat.le_of_ble_eq_true rfl⟩) ?_
      refine W.eq (g2 := F0 m 20 ls [.int (m_count (μ 1) n x), .int (0), .int (q), .ref (am (0))]) rfl ?_
      refine lv_iconst (v := 1) hx hb dX10_printAt_20 (by decide) ?_
      refine lv_isub hx hb dX10_printAt_21 ?_
      refine sp_call (W.runS (As := [.int (q), .int (0), .int ((m_count (μ 1) n x) - 1)]) (rest := [.ref (am (0))]) ⟨hx, hb, hml, hown, hts⟩ (c_X10_in l D am cy μ q 0 ((m_count (μ 1) n x) - 1)) (va_cwS 3 hts gX10_printAt_X10_in rfl rfl rfl (by decide +kernel) ⟨Nat.le_of_ble_eq_true rfl, Nat.le_of_ble_eq_true rfl⟩) (sp_preS hK hP) rfl rfl hl.1 rfl (lv_room (Nat.le_of_ble_eq_true rfl)) dX10_printAt_22 ⟨Nat.le_of_ble_eq_true rfl, Nat.le_of_ble_eq_true rfl⟩) ?_
      refine W.eq (g2 := F0 m 25 ls [.int (b2i (m_in q 0 ((m_count (μ 1) n x) - 1))), .ref (am (0))]) rfl ?_
      refine lv_if_eq (tgt := 32) hx hb dX10_printAt_25 (by decide) (fun c_6 => ?_) (fun c_6 => ?_)
      · rw [b2i_eq0] at c_6
        refine lv_iconst (v := 2) hx hb dX10_printAt_32 (by decide) ?_
        refine sp_put hx hb hts wi_X10_printAt_X10 tyX10 tyX10_ok nmX10 hown hK hP hi hAk hS (κ := 0) (by decide) mE_0 rfl 0 (by decide) (hts _ (List.mem_of_getElem? (i := 1) rfl)) (fun _ h => h) rfl (ty := tyX10 0) (by decide +kernel) ⟨rfl, rfl⟩ (Nat.le_of_ble_eq_true rfl) (r1 := upd (μ 0) 0 2) (cE_of mE_0 (by simp [upd])) dX10_printAt_33 (fun H locs hP hS => ?_)
        have hP : va_P D vwCl (mW am cy (sp_st μ 0 0 2)) H := hP
        refine lv_aload_n hx hb dX10_printAt_36 rfl (lv_at hl 0 rfl) ?_
        refine sp_get hx hb hts wi_X10_printAt_X10 hown hK hP (κ := 0) (by decide) mE_0 rfl 0 (by decide) (hts _ (List.mem_of_getElem? (i := 1) rfl)) (fun _ h => h) rfl dX10_printAt_37 ?_
        refine W.eq (g2 := F0 m 40 ls [.int (2)]) (by rw [sp_st_s]) ?_
        refine lv_if_ne (tgt := 57) hx hb dX10_printAt_40 (by decide) (fun c_7 => ?_) (fun c_7 => ?_)
        · skip
          refine lv_iconst (v := 0) hx hb dX10_printAt_57 (by decide) ?_
          have hE9 : mW am cy (sp_st μ 0 0 2) = mW am cy (sp_st μ 0 0 (atO (m_ft (μ 1) t x) 1 (fun _ => if m_in q 0 (m_count (μ 1) n x - 1) = true then 0 else 2))) := by exact mW_eq (by simp [atO, b2i, atO, m_pv, st0_1, q_1, c_5, c_5d, c_6])
          have hP : va_P D vwCl (mW am cy (sp_st μ 0 0 (atO (m_ft (μ 1) t x) 1 (fun _ => if m_in q 0 (m_count (μ 1) n x - 1) = true then 0 else 2)))) H := by rw [← hE9]; exact hP
          exact W.iret (v := 0) hx hb hr (fun T9 hT9 _ => ⟨congrArg (fun z9 => Outcome.returned (some (Value.int z9))) (show (0 : Int32) = atO (m_ft (μ 1) t x) 0 (fun k => if m_in q 0 (m_count (μ 1) n x - 1) = true then m_pv (μ 1) (m_po (μ 1) n x q) 0 else 0) from (by first | rfl | (simp [atO, m_pv, st0_1, b2i, q_1, c_5, c_5d, c_6]; done))), by rw [hT9]; exact hP, hS.F hT9⟩) hS.2.2 dX10_printAt_58
        · exact absurd c_7 (by decide)
      · rw [b2i_eq0] at c_6
        refine lv_iconst (v := 0) hx hb dX10_printAt_28 (by decide) ?_
        refine lv_goto (tgt := 33) hx hb dX10_printAt_29 (by decide) ?_
        refine sp_put hx hb hts wi_X10_printAt_X10 tyX10 tyX10_ok nmX10 hown hK hP hi hAk hS (κ := 0) (by decide) mE_0 rfl 0 (by decide) (hts _ (List.mem_of_getElem? (i := 1) rfl)) (fun _ h => h) rfl (ty := tyX10 0) (by decide +kernel) ⟨rfl, rfl⟩ (Nat.le_of_ble_eq_true rfl) (r1 := upd (μ 0) 0 0) (cE_of mE_0 (by simp [upd])) dX10_printAt_33 (fun H locs hP hS => ?_)
        have hP : va_P D vwCl (mW am cy (sp_st μ 0 0 0)) H := hP
        refine lv_aload_n hx hb dX10_printAt_36 rfl (lv_at hl 0 rfl) ?_
        refine sp_get hx hb hts wi_X10_printAt_X10 hown hK hP (κ := 0) (by decide) mE_0 rfl 0 (by decide) (hts _ (List.mem_of_getElem? (i := 1) rfl)) (fun _ h => h) rfl dX10_printAt_37 ?_
        refine W.eq (g2 := F0 m 40 ls [.int (0)]) (by rw [sp_st_s]) ?_
        refine lv_if_ne (tgt := 57) hx hb dX10_printAt_40 (by decide) (fun c_8 => ?_) (fun c_8 => ?_)
        · exact absurd c_8 (by decide)
        · skip
          refine lv_aload_n hx hb dX10_printAt_43 rfl (lv_at hl 0 rfl) ?_
          refine lv_aload_n hx hb dX10_printAt_44 rfl (lv_at hl 0 rfl) ?_
          refine lv_iload_n hx hb dX10_printAt_45 rfl (lv_at hl 1 rfl) ?_
          refine lv_iload_n hx hb dX10_printAt_46 rfl (lv_at hl 2 rfl) ?_
          refine sp_call (W.runV (As := [.int (x), .int (q)]) (rest := [.ref (am (0))]) ⟨hx, hb, hml, hown, hts⟩ (c_X10_printOf l D am cy (sp_st μ 0 0 0) n t (by first | exact hM | exact hi_0 | (repeat first | exact hM | exact hi_0 | refine MS.st0 ?_ | refine MS.st ?_ (by omega))) x q) (cwV 2 hts gX10_printAt_X10_printOf rfl rfl rfl (by decide +kernel) ⟨Nat.le_of_ble_eq_true rfl, Nat.le_of_ble_eq_true rfl⟩) (sp_preV hK hP (κ := 0) (by decide) mE_0 rfl) rfl rfl hl.1 rfl (lv_room (Nat.le_of_ble_eq_true rfl)) dX10_printAt_47 ⟨Nat.le_of_ble_eq_true rfl, Nat.le_of_ble_eq_true rfl⟩) ?_
          rcases opt_em (m_po (μ 1) n x q) with q_9 | ⟨j_10, q_9⟩
          · refine W.eq (g2 := F0 m 50 ls [.int ((-1)), .ref (am (0))]) (by rw [st0_1 μ 0 0, q_9]; rfl) ?_
            refine lv_iconst (v := 0) hx hb dX10_printAt_50 (by decide) ?_
            refine sp_call (W.runV (As := [.int ((-1)), .int (0)]) (rest := []) ⟨hx, hb, hml, hown, hts⟩ (c_X10_p_n l D am cy (sp_st μ 0 0 0) 0 (by omega)) (cwV 2 hts gX10_printAt_X10_p rfl rfl rfl (by decide +kernel) ⟨Nat.le_of_ble_eq_true rfl, Nat.le_of_ble_eq_true rfl⟩) (sp_preV hK hP (κ := 0) (by decide) mE_0 rfl) rfl rfl hl.1 rfl (lv_room (Nat.le_of_ble_eq_true rfl)) dX10_printAt_51 ⟨Nat.le_of_ble_eq_true rfl, Nat.le_of_ble_eq_true rfl⟩) ?_
            refine W.eq (g2 := F0 m 54 ls [.int ((sp_st μ 0 0 0) 1 (10 + 0))]) rfl ?_
            refine lv_goto (tgt := 58) hx hb dX10_printAt_54 (by decide) ?_
            have hE9 : mW am cy (sp_st μ 0 0 0) = mW am cy (sp_st μ 0 0 (atO (m_ft (μ 1) t x) 1 (fun _ => if m_in q 0 (m_count (μ 1) n x - 1) = true then 0 else 2))) := by exact mW_eq (by simp [atO, b2i, atO, m_pv, st0_1, q_1, c_5, c_5d, c_6, q_9])
            have hP : va_P D vwCl (mW am cy (sp_st μ 0 0 (atO (m_ft (μ 1) t x) 1 (fun _ => if m_in q 0 (m_count (μ 1) n x - 1) = true then 0 else 2)))) H := by rw [← hE9]; exact hP
            exact W.iret (v := (sp_st μ 0 0 0) 1 (10 + 0)) hx hb hr (fun T9 hT9 _ => ⟨congrArg (fun z9 => Outcome.returned (some (Value.int z9))) (show ((sp_st μ 0 0 0) 1 (10 + 0) : Int32) = atO (m_ft (μ 1) t x) 0 (fun k => if m_in q 0 (m_count (μ 1) n x - 1) = true then m_pv (μ 1) (m_po (μ 1) n x q) 0 else 0) from (by first | rfl | (simp [atO, m_pv, st0_1, b2i, q_1, c_5, c_5d, c_6, q_9]; done))), by rw [hT9]; exact hP, hS.F hT9⟩) hS.2.2 dX10_printAt_58
          · have hj_10 := m_po_lt q_9
            refine W.eq (g2 := F0 m 50 ls [.int (nI j_10), .ref (am (0))]) (by rw [st0_1 μ 0 0, q_9]; rfl) ?_
            refine lv_iconst (v := 0) hx hb dX10_printAt_50 (by decide) ?_
            refine sp_call (W.runV (As := [.int (nI j_10), .int (0)]) (rest := []) ⟨hx, hb, hml, hown, hts⟩ (c_X10_p l D am cy (sp_st μ 0 0 0) j_10 (by omega) 0 (by omega)) (cwV 2 hts gX10_printAt_X10_p rfl rfl rfl (by decide +kernel) ⟨Nat.le_of_ble_eq_true rfl, Nat.le_of_ble_eq_true rfl⟩) (sp_preV hK hP (κ := 0) (by decide) mE_0 rfl) rfl rfl hl.1 rfl (lv_room (Nat.le_of_ble_eq_true rfl)) dX10_printAt_51 ⟨Nat.le_of_ble_eq_true rfl, Nat.le_of_ble_eq_true rfl⟩) ?_
            refine W.eq (g2 := F0 m 54 ls [.int (gP ((sp_st μ 0 0 0) 1) j_10 0)]) rfl ?_
            refine W.eq (g2 := F0 m 54 ls [.int (gP (μ 1) j_10 0)]) (by rw [st0_1 μ 0 0]) ?_
            refine lv_goto (tgt := 58) hx hb dX10_printAt_54 (by decide) ?_
            have hE9 : mW am cy (sp_st μ 0 0 0) = mW am cy (sp_st μ 0 0 (atO (m_ft (μ 1) t x) 1 (fun _ => if m_in q 0 (m_count (μ 1) n x - 1) = true then 0 else 2))) := by exact mW_eq (by simp [atO, b2i, atO, m_pv, st0_1, q_1, c_5, c_5d, c_6, q_9])
            have hP : va_P D vwCl (mW am cy (sp_st μ 0 0 (atO (m_ft (μ 1) t x) 1 (fun _ => if m_in q 0 (m_count (μ 1) n x - 1) = true then 0 else 2)))) H := by rw [← hE9]; exact hP
            exact W.iret (v := gP (μ 1) j_10 0) hx hb hr (fun T9 hT9 _ => ⟨congrArg (fun z9 => Outcome.returned (some (Value.int z9))) (show (gP (μ 1) j_10 0 : Int32) = atO (m_ft (μ 1) t x) 0 (fun k => if m_in q 0 (m_count (μ 1) n x - 1) = true then m_pv (μ 1) (m_po (μ 1) n x q) 0 else 0) from (by first | rfl | (simp [atO, m_pv, st0_1, b2i, q_1, c_5, c_5d, c_6, q_9]; done))), by rw [hT9]; exact hP, hS.F hT9⟩) hS.2.2 dX10_printAt_58
    · exact absurd (Int32.not_lt.mp (nI_pos (by omega))) c_5

theorem wi_X10_duration_X10 : ∀ w ∈ wsX100, w ∈ wsX10_duration := by decide +kernel
set_option maxHeartbeats 4000000 in
set_option maxRecDepth 100000 in
theorem c_X10_duration (l : Launch) (D : va_G) (am : Nat → Nat) (cy : Nat → ClassId) (μ : Nat → Nat → Int32) (sz : Nat) (hi : sp_inj am 5) (n : Nat) (t : Nat) (hM : MS (μ 1) n t) (x : Int32) : Met l yX10_duration wsX10_duration ({ frames := 2, cells := 0, slots := 0, locals := 47 } : Room) (sp_Pm D (tyG cy) sz [.ref (am (0)), .int (x)] (mW am cy μ)) (sp_Q D (some (.int (atO (m_ft (μ 1) t x) 0 (fun k => if m_count (μ 1) n x = 0 then 0 else m_pv (μ 1) (m_po (μ 1) n x (m_count (μ 1) n x - 1)) 2 - m_pv (μ 1) (m_po (μ 1) n x 0) 2)))) (mW am cy (sp_st μ 0 0 (atO (m_ft (μ 1) t x) 1 (fun _ => if m_count (μ 1) n x = 0 then 2 else 0)))) (sp_A am 5 sz)) 0 0 (sp_A am 5 sz) := by
  refine Met.ofW (cc := cX10_duration) (maxL := 3) (ret := (some .int)) (by decide) rfl ?_
  intro p e s m args below meth c s₁ B hml hv
  obtain ⟨rfl, hsz, hP, hK⟩ := hv
  have hx := B.exec
  have hb := B.bytes
  have hr := B.returns
  have hts := atoms_spec (ws := wsX10_duration) B.pre
  have hown : s.vm.findClass RX10 = some m.cls := findClass_of_methodNamed B.named
  have hlocks := B.notSynchronized
  subst hsz
  have hS : va_S (sp_A am 5 s.heap.size) s.heap s.heap [] := va_S.rf
  have hAk : ∀ k, k < 5 → (sp_A am 5 s.heap.size) (am k) := fun k hk => Or.inl ⟨k, hk, rfl⟩
  skip
  have hn30 := hM.2.1
  have ht6 := hM.2.2.2
  have hl := lv_entry ([.ref (am (0)), .int (x)]) (n := 3) (Nat.le_of_ble_eq_true rfl)
  refine W.eq (lg_entry_eq _ ([.ref (am (0)), .int (x)]) _) ?_
  generalize (lg_sl ([.ref (am (0)), .int (x)]) ++ List.replicate (3 - (lg_sl ([.ref (am (0)), .int (x)])).length) Slot.unset).toArray = ls at hl ⊢
  have hl : lv_has ls 3 [(0, .ref (am (0))), (1, .int (x))] := hl
  refine lv_aload_n hx hb dX10_duration_0 rfl (lv_at hl 0 rfl) ?_
  refine lv_iload_n hx hb dX10_duration_1 rfl (lv_at hl 1 rfl) ?_
  refine sp_call (W.runV (As := [.int (x)]) (rest := []) ⟨hx, hb, hml, hown, hts⟩ (c_X10_countOf l D am cy μ n t (by first | exact hM | exact hi_0 | (repeat first | exact hM | exact hi_0 | refine MS.st0 ?_ | refine MS.st ?_ (by omega))) x) (cwV 1 hts gX10_duration_X10_countOf rfl rfl rfl (by decide +kernel) ⟨Nat.le_of_ble_eq_true rfl, Nat.le_of_ble_eq_true rfl⟩) (sp_preV hK hP (κ := 0) (by decide) mE_0 rfl) rfl rfl hl.1 rfl (lv_room (Nat.le_of_ble_eq_true rfl)) dX10_duration_2 ⟨Nat.le_of_ble_eq_true rfl, Nat.le_of_ble_eq_true rfl⟩) ?_
  refine W.eq (g2 := F0 m 5 ls [.int (m_count (μ 1) n x)]) rfl ?_
  refine lv_istore_n (lv' := [(2, .int (m_count (μ 1) n x)), (0, .ref (am (0))), (1, .int (x))]) hx hb dX10_duration_5 rfl hl (by decide) rfl (fun ls hl => ?_)
  refine lv_aload_n hx hb dX10_duration_6 rfl (lv_at hl 1 rfl) ?_
  refine lv_aload_n hx hb dX10_duration_7 rfl (lv_at hl 1 rfl) ?_
  refine lv_iload_n hx hb dX10_duration_8 rfl (lv_at hl 2 rfl) ?_
  refine sp_call (W.runV (As := [.int (x)]) (rest := [.ref (am (0))]) ⟨hx, hb, hml, hown, hts⟩ (c_X10_findTrack l D am cy μ n t (by first | exact hM | exact hi_0 | (repeat first | exact hM | exact hi_0 | refine MS.st0 ?_ | refine MS.st ?_ (by omega))) x) (cwV 1 hts gX10_duration_X10_findTrack rfl rfl rfl (by decide +kernel) ⟨Nat.le_of_ble_eq_true rfl, Nat.le_of_ble_eq_true rfl⟩) (sp_preV hK hP (κ := 0) (by decide) mE_0 rfl) rfl rfl hl.1 rfl (lv_room (Nat.le_of_ble_eq_true rfl)) dX10_duration_9 ⟨Nat.le_of_ble_eq_true rfl, Nat.le_of_ble_eq_true rfl⟩) ?_
  rcases opt_em (m_ft (μ 1) t x) with q_1 | ⟨j_2, q_1⟩
  · refine W.eq (g2 := F0 m 12 ls [.int ((-1)), .ref (am (0))]) (by rw [q_1]; rfl) ?_
    refine lv_if_ge (tgt := 19) hx hb dX10_duration_12 (by decide) (fun c_3 => ?_) (fun c_3 => ?_)
    · exact absurd c_3 (by decide)
    · skip
      refine lv_iconst (v := 1) hx hb dX10_duration_15 (by decide) ?_
      refine lv_goto (tgt := 28) hx hb dX10_duration_16 (by decide) ?_
      refine sp_put hx hb hts wi_X10_duration_X10 tyX10 tyX10_ok nmX10 hown hK hP hi hAk hS (κ := 0) (by decide) mE_0 rfl 0 (by decide) (hts _ (List.mem_of_getElem? (i := 1) rfl)) (fun _ h => h) rfl (ty := tyX10 0) (by decide +kernel) ⟨rfl, rfl⟩ (Nat.le_of_ble_eq_true rfl) (r1 := upd (μ 0) 0 1) (cE_of mE_0 (by simp [upd])) dX10_duration_28 (fun H locs hP hS => ?_)
      have hP : va_P D vwCl (mW am cy (sp_st μ 0 0 1)) H := hP
      refine lv_aload_n hx hb dX10_duration_31 rfl (lv_at hl 1 rfl) ?_
      refine sp_get hx hb hts wi_X10_duration_X10 hown hK hP (κ := 0) (by decide) mE_0 rfl 0 (by decide) (hts _ (List.mem_of_getElem? (i := 1) rfl)) (fun _ h => h) rfl dX10_duration_32 ?_
      refine W.eq (g2 := F0 m 35 ls [.int (1)]) (by rw [sp_st_s]) ?_
      refine lv_if_ne (tgt := 66) hx hb dX10_duration_35 (by decide) (fun c_4 => ?_) (fun c_4 => ?_)
      · skip
        refine lv_iconst (v := 0) hx hb dX10_duration_66 (by decide) ?_
        have hE9 : mW am cy (sp_st μ 0 0 1) = mW am cy (sp_st μ 0 0 (atO (m_ft (μ 1) t x) 1 (fun _ => if m_count (μ 1) n x = 0 then 2 else 0))) := by exact mW_eq (by simp [atO, b2i, atO, m_pv, st0_1, q_1])
        have hP : va_P D vwCl (mW am cy (sp_st μ 0 0 (atO (m_ft (μ 1) t x) 1 (fun _ => if m_count (μ 1) n x = 0 then 2 else 0)))) H := by rw [← hE9]; exact hP
        exact W.iret (v := 0) hx hb hr (fun T9 hT9 _ => ⟨congrArg (fun z9 => Outcome.returned (some (Value.int z9))) (show (0 : Int32) = atO (m_ft (μ 1) t x) 0 (fun k => if m_count (μ 1) n x = 0 then 0 else m_pv (μ 1) (m_po (μ 1) n x (m_count (μ 1) n x - 1)) 2 - m_pv (μ 1) (m_po (μ 1) n x 0) 2) from (by first | rfl | (simp [atO, m_pv, st0_1, b2i, q_1]; done))), by rw [hT9]; exact hP, hS.F hT9⟩) hS.2.2 dX10_duration_67
      · exact absurd c_4 (by decide)
  · have hj_2 := m_ft_lt q_1
    refine W.eq (g2 := F0 m 12 ls [.int (nI j_2), .ref (am (0))]) (by rw [q_1]; rfl) ?_
    refine lv_if_ge (tgt := 19) hx hb dX10_duration_12 (by decide) (fun c_5 => ?_) (fun c_5 => ?_)
    · skip
      have c_5d := Int32.not_lt.mpr c_5
      refine lv_iload_n hx hb dX10_duration_19 rfl (lv_at hl 0 rfl) ?_
      refine lv_if_ne (tgt := 27) hx hb dX10_duration_20 (by decide) (fun c_6 => ?_) (fun c_6 => ?_)
      · skip
        refine lv_iconst (v := 0) hx hb dX10_duration_27 (by decide) ?_
        refine sp_put hx hb hts wi_X10_duration_X10 tyX10 tyX10_ok nmX10 hown hK hP hi hAk hS (κ := 0) (by decide) mE_0 rfl 0 (by decide) (hts _ (List.mem_of_getElem? (i := 1) rfl)) (fun _ h => h) rfl (ty := tyX10 0) (by decide +kernel) ⟨rfl, rfl⟩ (Nat.le_of_ble_eq_true rfl) (r1 := upd (μ 0) 0 0) (cE_of mE_0 (by simp [upd])) dX10_duration_28 (fun H locs hP hS => ?_)
        have hP : va_P D vwCl (mW am cy (sp_st μ 0 0 0)) H := hP
        refine lv_aload_n hx hb dX10_duration_31 rfl (lv_at hl 1 rfl) ?_
        refine sp_get hx hb hts wi_X10_duration_X10 hown hK hP (κ := 0) (by decide) mE_0 rfl 0 (by decide) (hts _ (List.mem_of_getElem? (i := 1) rfl)) (fun _ h => h) rfl dX10_duration_32 ?_
        refine W.eq (g2 := F0 m 35 ls [.int (0)]) (by rw [sp_st_s]) ?_
        refine lv_if_ne (tgt := 66) hx hb dX10_duration_35 (by decide) (fun c_7 => ?_) (fun c_7 => ?_)
        · exact absurd c_7 (by decide)
        · skip
          refine lv_aload_n hx hb dX10_duration_38 rfl (lv_at hl 1 rfl) ?_
          refine lv_aload_n hx hb dX10_duration_39 rfl (lv_at hl 1 rfl) ?_
          refine lv_iload_n hx hb dX10_duration_40 rfl (lv_at hl 2 rfl) ?_
          refine lv_iload_n hx hb dX10_duration_41 rfl (lv_at hl 0 rfl) ?_
          refine lv_iconst (v := 1) hx hb dX10_duration_42 (by decide) ?_
          refine lv_isub hx hb dX10_duration_43 ?_
          refine sp_call (W.runV (As := [.int (x), .int ((m_count (μ 1) n x) - 1)]) (rest := [.ref (am (0))]) ⟨hx, hb, hml, hown, hts⟩ (c_X10_printOf l D am cy (sp_st μ 0 0 0) n t (by first | exact hM | exact hi_0 | (repeat first | exact hM | exact hi_0 | refine MS.st0 ?_ | refine MS.st ?_ (by omega))) x ((m_count (μ 1) n x) - 1)) (cwV 2 hts gX10_duration_X10_printOf rfl rfl rfl (by decide +kernel) ⟨Nat.le_of_ble_eq_true rfl, Nat.le_of_ble_eq_true rfl⟩) (sp_preV hK hP (κ := 0) (by decide) mE_0 rfl) rfl rfl hl.1 rfl (lv_room (Nat.le_of_ble_eq_true rfl)) dX10_duration_44 ⟨Nat.le_of_ble_eq_true rfl, Nat.le_of_ble_eq_true rfl⟩) ?_
          rcases opt_em (m_po (μ 1) n x ((m_count (μ 1) n x) - 1)) with q_8 | ⟨j_9, q_8⟩
          · refine W.eq (g2 := F0 m 47 ls [.int ((-1)), .ref (am (0))]) (by rw [st0_1 μ 0 0, q_8]; rfl) ?_
            refine lv_iconst (v := 2) hx hb dX10_duration_47 (by decide) ?_
            refine sp_call (W.runV (As := [.int ((-1)), .int (2)]) (rest := []) ⟨hx, hb, hml, hown, hts⟩ (c_X10_p_n l D am cy (sp_st μ 0 0 0) 2 (by omega)) (cwV 2 hts gX10_duration_X10_p rfl rfl rfl (by decide +kernel) ⟨Nat.le_of_ble_eq_true rfl, Nat.le_of_ble_eq_true rfl⟩) (sp_preV hK hP (κ := 0) (by decide) mE_0 rfl) rfl rfl hl.1 rfl (lv_room (Nat.le_of_ble_eq_true rfl)) dX10_duration_48 ⟨Nat.le_of_ble_eq_true rfl, Nat.le_of_ble_eq_true rfl⟩) ?_
            refine W.eq (g2 := F0 m 51 ls [.int ((sp_st μ 0 0 0) 1 (10 + 2))]) rfl ?_
            refine lv_aload_n hx hb dX10_duration_51 rfl (lv_at hl 1 rfl) ?_
            refine lv_aload_n hx hb dX10_duration_52 rfl (lv_at hl 1 rfl) ?_
            refine lv_iload_n hx hb dX10_duration_53 rfl (lv_at hl 2 rfl) ?_
            refine lv_iconst (v := 0) hx hb dX10_duration_54 (by decide) ?_
            refine sp_call (W.runV (As := [.int (x), .int (0)]) (rest := [.ref (am (0)), .int ((sp_st μ 0 0 0) 1 (10 + 2))]) ⟨hx, hb, hml, hown, hts⟩ (c_X10_printOf l D am cy (sp_st μ 0 0 0) n t (by first | exact hM | exact hi_0 | (repeat first | exact hM | exact hi_0 | refine MS.st0 ?_ | refine MS.st ?_ (by omega))) x 0) (cwV 2 hts gX10_duration_X10_printOf rfl rfl rfl (by decide +kernel) ⟨Nat.le_of_ble_eq_true rfl, Nat.le_of_ble_eq_true rfl⟩) (sp_preV hK hP (κ := 0) (by decide) mE_0 rfl) rfl rfl hl.1 rfl (lv_room (Nat.le_of_ble_eq_true rfl)) dX10_duration_55 ⟨Nat.le_of_ble_eq_true rfl, Nat.le_of_ble_eq_true rfl⟩) ?_
            rcases opt_em (m_po (μ 1) n x 0) with q_10 | ⟨j_11, q_10⟩
            · refine W.eq (g2 := F0 m 58 ls [.int ((-1)), .ref (am (0)), .int ((sp_st μ 0 0 0) 1 (10 + 2))]) (by rw [st0_1 μ 0 0, q_10]; rfl) ?_
              refine lv_iconst (v := 2) hx hb dX10_duration_58 (by decide) ?_
              refine sp_call (W.runV (As := [.int ((-1)), .int (2)]) (rest := [.int ((sp_st μ 0 0 0) 1 (10 + 2))]) ⟨hx, hb, hml, hown, hts⟩ (c_X10_p_n l D am cy (sp_st μ 0 0 0) 2 (by omega)) (cwV 2 hts gX10_duration_X10_p rfl rfl rfl (by decide +kernel) ⟨Nat.le_of_ble_eq_true rfl, Nat.le_of_ble_eq_true rfl⟩) (sp_preV hK hP (κ := 0) (by decide) mE_0 rfl) rfl rfl hl.1 rfl (lv_room (Nat.le_of_ble_eq_true rfl)) dX10_duration_59 ⟨Nat.le_of_ble_eq_true rfl, Nat.le_of_ble_eq_true rfl⟩) ?_
              refine W.eq (g2 := F0 m 62 ls [.int ((sp_st μ 0 0 0) 1 (10 + 2)), .int ((sp_st μ 0 0 0) 1 (10 + 2))]) rfl ?_
              refine lv_isub hx hb dX10_duration_62 ?_
              refine lv_goto (tgt := 67) hx hb dX10_duration_63 (by decide) ?_
              have hE9 : mW am cy (sp_st μ 0 0 0) = mW am cy (sp_st μ 0 0 (atO (m_ft (μ 1) t x) 1 (fun _ => if m_count (μ 1) n x = 0 then 2 else 0))) := by exact mW_eq (by simp [atO, b2i, atO, m_pv, st0_1, q_1, c_5, c_5d, c_6, q_8, q_10])
              have hP : va_P D vwCl (mW am cy (sp_st μ 0 0 (atO (m_ft (μ 1) t x) 1 (fun _ => if m_count (μ 1) n x = 0 then 2 else 0)))) H := by rw [← hE9]; exact hP
              exact W.iret (v := ((sp_st μ 0 0 0) 1 (10 + 2)) - ((sp_st μ 0 0 0) 1 (10 + 2))) hx hb hr (fun T9 hT9 _ => ⟨congrArg (fun z9 => Outcome.returned (some (Value.int z9))) (show (((sp_st μ 0 0 0) 1 (10 + 2)) - ((sp_st μ 0 0 0) 1 (10 + 2)) : Int32) = atO (m_ft (μ 1) t x) 0 (fun k => if m_count (μ 1) n x = 0 then 0 else m_pv (μ 1) (m_po (μ 1) n x (m_count (μ 1) n x - 1)) 2 - m_pv (μ 1) (m_po (μ 1) n x 0) 2) from (by first | rfl | (simp [atO, m_pv, st0_1, b2i, q_1, c_5, c_5d, c_6, q_8, q_10]; done))), by rw [hT9]; exact hP, hS.F hT9⟩) hS.2.2 dX10_duration_67
            · have hj_11 := m_po_lt q_10
              refine W.eq (g2 := F0 m 58 ls [.int (nI j_11), .ref (am (0)), .int ((sp_st μ 0 0 0) 1 (10 + 2))]) (by rw [st0_1 μ 0 0, q_10]; rfl) ?_
              refine lv_iconst (v := 2) hx hb dX10_duration_58 (by decide) ?_
              refine sp_call (W.runV (As := [.int (nI j_11), .int (2)]) (rest := [.int ((sp_st μ 0 0 0) 1 (10 + 2))]) ⟨hx, hb, hml, hown, hts⟩ (c_X10_p l D am cy (sp_st μ 0 0 0) j_11 (by omega) 2 (by omega)) (cwV 2 hts gX10_duration_X10_p rfl rfl rfl (by decide +kernel) ⟨Nat.le_of_ble_eq_true rfl, Nat.le_of_ble_eq_true rfl⟩) (sp_preV hK hP (κ := 0) (by decide) mE_0 rfl) rfl rfl hl.1 rfl (lv_room (Nat.le_of_ble_eq_true rfl)) dX10_duration_59 ⟨Nat.le_of_ble_eq_true rfl, Nat.le_of_ble_eq_true rfl⟩) ?_
              refine W.eq (g2 := F0 m 62 ls [.int (gP ((sp_st μ 0 0 0) 1) j_11 2), .int ((sp_st μ 0 0 0) 1 (10 + 2))]) rfl ?_
              refine W.eq (g2 := F0 m 62 ls [.int (gP (μ 1) j_11 2), .int ((sp_st μ 0 0 0) 1 (10 + 2))]) (by rw [st0_1 μ 0 0]) ?_
              refine lv_isub hx hb dX10_duration_62 ?_
              refine lv_goto (tgt := 67) hx hb dX10_duration_63 (by decide) ?_
              have hE9 : mW am cy (sp_st μ 0 0 0) = mW am cy (sp_st μ 0 0 (atO (m_ft (μ 1) t x) 1 (fun _ => if m_count (μ 1) n x = 0 then 2 else 0))) := by exact mW_eq (by simp [atO, b2i, atO, m_pv, st0_1, q_1, c_5, c_5d, c_6, q_8, q_10])
              have hP : va_P D vwCl (mW am cy (sp_st μ 0 0 (atO (m_ft (μ 1) t x) 1 (fun _ => if m_count (μ 1) n x = 0 then 2 else 0)))) H := by rw [← hE9]; exact hP
              exact W.iret (v := ((sp_st μ 0 0 0) 1 (10 + 2)) - (gP (μ 1) j_11 2)) hx hb hr (fun T9 hT9 _ => ⟨congrArg (fun z9 => Outcome.returned (some (Value.int z9))) (show (((sp_st μ 0 0 0) 1 (10 + 2)) - (gP (μ 1) j_11 2) : Int32) = atO (m_ft (μ 1) t x) 0 (fun k => if m_count (μ 1) n x = 0 then 0 else m_pv (μ 1) (m_po (μ 1) n x (m_count (μ 1) n x - 1)) 2 - m_pv (μ 1) (m_po (μ 1) n x 0) 2) from (by first | rfl | (simp [atO, m_pv, st0_1, b2i, q_1, c_5, c_5d, c_6, q_8, q_10]; done))), by rw [hT9]; exact hP, hS.F hT9⟩) hS.2.2 dX10_duration_67
          · have hj_9 := m_po_lt q_8
            refine W.eq (g2 := F0 m 47 ls [.int (nI j_9), .ref (am (0))]) (by rw [st0_1 μ 0 0, q_8]; rfl) ?_
            refine lv_iconst (v := 2) hx hb dX10_duration_47 (by decide) ?_
            refine sp_call (W.runV (As := [.int (nI j_9), .int (2)]) (rest := []) ⟨hx, hb, hml, hown, hts⟩ (c_X10_p l D am cy (sp_st μ 0 0 0) j_9 (by omega) 2 (by omega)) (cwV 2 hts gX10_duration_X10_p rfl rfl rfl (by decide +kernel) ⟨Nat.le_of_ble_eq_true rfl, Nat.le_of_ble_eq_true rfl⟩) (sp_preV hK hP (κ := 0) (by decide) mE_0 rfl) rfl rfl hl.1 rfl (lv_room (Nat.le_of_ble_eq_true rfl)) dX10_duration_48 ⟨Nat.le_of_ble_eq_true rfl, Nat.le_of_ble_eq_true rfl⟩) ?_
            refine W.eq (g2 := F0 m 51 ls [.int (gP ((sp_st μ 0 0 0) 1) j_9 2)]) rfl ?_
            refine W.eq (g2 := F0 m 51 ls [.int (gP (μ 1) j_9 2)]) (by rw [st0_1 μ 0 0]) ?_
            refine lv_aload_n hx hb dX10_duration_51 rfl (lv_at hl 1 rfl) ?_
            refine lv_aload_n hx hb dX10_duration_52 rfl (lv_at hl 1 rfl) ?_
            refine lv_iload_n hx hb dX10_duration_53 rfl (lv_at hl 2 rfl) ?_
            refine lv_iconst (v := 0) hx hb dX10_duration_54 (by decide) ?_
            refine sp_call (W.runV (As := [.int (x), .int (0)]) (rest := [.ref (am (0)), .int (gP (μ 1) j_9 2)]) ⟨hx, hb, hml, hown, hts⟩ (c_X10_printOf l D am cy (sp_st μ 0 0 0) n t (by first | exact hM | exact hi_0 | (repeat first | exact hM | exact hi_0 | refine MS.st0 ?_ | refine MS.st ?_ (by omega))) x 0) (cwV 2 hts gX10_duration_X10_printOf rfl rfl rfl (by decide +kernel) ⟨Nat.le_of_ble_eq_true rfl, Nat.le_of_ble_eq_true rfl⟩) (sp_preV hK hP (κ := 0) (by decide) mE_0 rfl) rfl rfl hl.1 rfl (lv_room (Nat.le_of_ble_eq_true rfl)) dX10_duration_55 ⟨Nat.le_of_ble_eq_true rfl, Nat.le_of_ble_eq_true rfl⟩) ?_
            rcases opt_em (m_po (μ 1) n x 0) with q_12 | ⟨j_13, q_12⟩
            · refine W.eq (g2 := F0 m 58 ls [.int ((-1)), .ref (am (0)), .int (gP (μ 1) j_9 2)]) (by rw [st0_1 μ 0 0, q_12]; rfl) ?_
              refine lv_iconst (v := 2) hx hb dX10_duration_58 (by decide) ?_
              refine sp_call (W.runV (As := [.int ((-1)), .int (2)]) (rest := [.int (gP (μ 1) j_9 2)]) ⟨hx, hb, hml, hown, hts⟩ (c_X10_p_n l D am cy (sp_st μ 0 0 0) 2 (by omega)) (cwV 2 hts gX10_duration_X10_p rfl rfl rfl (by decide +kernel) ⟨Nat.le_of_ble_eq_true rfl, Nat.le_of_ble_eq_true rfl⟩) (sp_preV hK hP (κ := 0) (by decide) mE_0 rfl) rfl rfl hl.1 rfl (lv_room (Nat.le_of_ble_eq_true rfl)) dX10_duration_59 ⟨Nat.le_of_ble_eq_true rfl, Nat.le_of_ble_eq_true rfl⟩) ?_
              refine W.eq (g2 := F0 m 62 ls [.int ((sp_st μ 0 0 0) 1 (10 + 2)), .int (gP (μ 1) j_9 2)]) rfl ?_
              refine lv_isub hx hb dX10_duration_62 ?_
              refine lv_goto (tgt := 67) hx hb dX10_duration_63 (by decide) ?_
              have hE9 : mW am cy (sp_st μ 0 0 0) = mW am cy (sp_st μ 0 0 (atO (m_ft (μ 1) t x) 1 (fun _ => if m_count (μ 1) n x = 0 then 2 else 0))) := by exact mW_eq (by simp [atO, b2i, atO, m_pv, st0_1, q_1, c_5, c_5d, c_6, q_8, q_12])
              have hP : va_P D vwCl (mW am cy (sp_st μ 0 0 (atO (m_ft (μ 1) t x) 1 (fun _ => if m_count (μ 1) n x = 0 then 2 else 0)))) H := by rw [← hE9]; exact hP
              exact W.iret (v := (gP (μ 1) j_9 2) - ((sp_st μ 0 0 0) 1 (10 + 2))) hx hb hr (fun T9 hT9 _ => ⟨congrArg (fun z9 => Outcome.returned (some (Value.int z9))) (show ((gP (μ 1) j_9 2) - ((sp_st μ 0 0 0) 1 (10 + 2)) : Int32) = atO (m_ft (μ 1) t x) 0 (fun k => if m_count (μ 1) n x = 0 then 0 else m_pv (μ 1) (m_po (μ 1) n x (m_count (μ 1) n x - 1)) 2 - m_pv (μ 1) (m_po (μ 1) n x 0) 2) from (by first | rfl | (simp [atO, m_pv, st0_1, b2i, q_1, c_5, c_5d, c_6, q_8, q_12]; done))), by rw [hT9]; exact hP, hS.F hT9⟩) hS.2.2 dX10_duration_67
            · have hj_13 := m_po_lt q_12
              refine W.eq (g2 := F0 m 58 ls [.int (nI j_13), .ref (am (0)), .int (gP (μ 1) j_9 2)]) (by rw [st0_1 μ 0 0, q_12]; rfl) ?_
              refine lv_iconst (v := 2) hx hb dX10_duration_58 (by decide) ?_
              refine sp_call (W.runV (As := [.int (nI j_13), .int (2)]) (rest := [.int (gP (μ 1) j_9 2)]) ⟨hx, hb, hml, hown, hts⟩ (c_X10_p l D am cy (sp_st μ 0 0 0) j_13 (by omega) 2 (by omega)) (cwV 2 hts gX10_duration_X10_p rfl rfl rfl (by decide +kernel) ⟨Nat.le_of_ble_eq_true rfl, Nat.le_of_ble_eq_true rfl⟩) (sp_preV hK hP (κ := 0) (by decide) mE_0 rfl) rfl rfl hl.1 rfl (lv_room (Nat.le_of_ble_eq_true rfl)) dX10_duration_59 ⟨Nat.le_of_ble_eq_true rfl, Nat.le_of_ble_eq_true rfl⟩) ?_
              refine W.eq (g2 := F0 m 62 ls [.int (gP ((sp_st μ 0 0 0) 1) j_13 2), .int (gP (μ 1) j_9 2)]) rfl ?_
              refine W.eq (g2 := F0 m 62 ls [.int (gP (μ 1) j_13 2), .int (gP (μ 1) j_9 2)]) (by rw [st0_1 μ 0 0]) ?_
              refine lv_isub hx hb dX10_duration_62 ?_
              refine lv_goto (tgt := 67) hx hb dX10_duration_63 (by decide) ?_
              have hE9 : mW am cy (sp_st μ 0 0 0) = mW am cy (sp_st μ 0 0 (atO (m_ft (μ 1) t x) 1 (fun _ => if m_count (μ 1) n x = 0 then 2 else 0))) := by exact mW_eq (by simp [atO, b2i, atO, m_pv, st0_1, q_1, c_5, c_5d, c_6, q_8, q_12])
              have hP : va_P D vwCl (mW am cy (sp_st μ 0 0 (atO (m_ft (μ 1) t x) 1 (fun _ => if m_count (μ 1) n x = 0 then 2 else 0)))) H := by rw [← hE9]; exact hP
              exact W.iret (v := (gP (μ 1) j_9 2) - (gP (μ 1) j_13 2)) hx hb hr (fun T9 hT9 _ => ⟨congrArg (fun z9 => Outcome.returned (some (Value.int z9))) (show ((gP (μ 1) j_9 2) - (gP (μ 1) j_13 2) : Int32) = atO (m_ft (μ 1) t x) 0 (fun k => if m_count (μ 1) n x = 0 then 0 else m_pv (μ 1) (m_po (μ 1) n x (m_count (μ 1) n x - 1)) 2 - m_pv (μ 1) (m_po (μ 1) n x 0) 2) from (by first | rfl | (simp [atO, m_pv, st0_1, b2i, q_1, c_5, c_5d, c_6, q_8, q_12]; done))), by rw [hT9]; exact hP, hS.F hT9⟩) hS.2.2 dX10_duration_67
      · skip
        refine lv_iconst (v := 2) hx hb dX10_duration_23 (by decide) ?_
        refine lv_goto (tgt := 28) hx hb dX10_duration_24 (by decide) ?_
        refine sp_put hx hb hts wi_X10_duration_X10 tyX10 tyX10_ok nmX10 hown hK hP hi hAk hS (κ := 0) (by decide) mE_0 rfl 0 (by decide) (hts _ (List.mem_of_getElem? (i := 1) rfl)) (fun _ h => h) rfl (ty := tyX10 0) (by decide +kernel) ⟨rfl, rfl⟩ (Nat.le_of_ble_eq_true rfl) (r1 := upd (μ 0) 0 2) (cE_of mE_0 (by simp [upd])) dX10_duration_28 (fun H locs hP hS => ?_)
        have hP : va_P D vwCl (mW am cy (sp_st μ 0 0 2)) H := hP
        refine lv_aload_n hx hb dX10_duration_31 rfl (lv_at hl 1 rfl) ?_
        refine sp_get hx hb hts wi_X10_duration_X10 hown hK hP (κ := 0) (by decide) mE_0 rfl 0 (by decide) (hts _ (List.mem_of_getElem? (i := 1) rfl)) (fun _ h => h) rfl dX10_duration_32 ?_
        refine W.eq (g2 := F0 m 35 ls [.int (2)]) (by rw [sp_st_s]) ?_
        refine lv_if_ne (tgt := 66) hx hb dX10_duration_35 (by decide) (fun c_14 => ?_) (fun c_14 => ?_)
        · skip
          refine lv_iconst (v := 0) hx hb dX10_duration_66 (by decide) ?_
          have hE9 : mW am cy (sp_st μ 0 0 2) = mW am cy (sp_st μ 0 0 (atO (m_ft (μ 1) t x) 1 (fun _ => if m_count (μ 1) n x = 0 then 2 else 0))) := by exact mW_eq (by simp [atO, b2i, atO, m_pv, st0_1, q_1, c_5, c_5d, c_6])
          have hP : va_P D vwCl (mW am cy (sp_st μ 0 0 (atO (m_ft (μ 1) t x) 1 (fun _ => if m_count (μ 1) n x = 0 then 2 else 0)))) H := by rw [← hE9]; exact hP
          exact W.iret (v := 0) hx hb hr (fun T9 hT9 _ => ⟨congrArg (fun z9 => Outcome.returned (some (Value.int z9))) (show (0 : Int32) = atO (m_ft (μ 1) t x) 0 (fun k => if m_count (μ 1) n x = 0 then 0 else m_pv (μ 1) (m_po (μ 1) n x (m_count (μ 1) n x - 1)) 2 - m_pv (μ 1) (m_po (μ 1) n x 0) 2) from (by first | rfl | (simp [atO, m_pv, st0_1, b2i, q_1, c_5, c_5d, c_6]; done))), by rw [hT9]; exact hP, hS.F hT9⟩) hS.2.2 dX10_duration_67
        · exact absurd c_14 (by decide)
    · exact absurd (Int32.not_lt.mp (nI_pos (by omega))) c_5

set_option maxHeartbeats 4000000 in
set_option maxRecDepth 100000 in
theorem c_X10_errorsThere (l : Launch) (D : va_G) (am : Nat → Nat) (cy : Nat → ClassId) (μ : Nat → Nat → Int32) (sz : Nat) (hi : sp_inj am 5) (n : Nat) (t : Nat) (hM : MS (μ 1) n t) (a : Nat) (ha : a < n) (r : Int32) (c1 : Int32) : Met l yX10_errorsThere wsX10_errorsThere ({ frames := 6, cells := 0, slots := 0, locals := 137 } : Room) (sp_Pm D (tyG cy) sz [.ref (am (0)), .int (nI a), .int (r), .int (c1)] (mW am cy μ)) (sp_Q D (some (.int (m_there (μ 1) n t a r c1))) (mW am cy (μ)) (sp_A am 5 sz)) 0 0 (sp_A am 5 sz) := by
  refine Met.ofW (cc := cX10_errorsThere) (maxL := 7) (ret := (some .int)) (by decide) rfl ?_
  intro p e s m args below meth c s₁ B hml hv
  obtain ⟨rfl, hsz, hP, hK⟩ := hv
  have hx := B.exec
  have hb := B.bytes
  have hr := B.returns
  have hts := atoms_spec (ws := wsX10_errorsThere) B.pre
  have hown : s.vm.findClass RX10 = some m.cls := findClass_of_methodNamed B.named
  have hlocks := B.notSynchronized
  subst hsz
  have hS : va_S (sp_A am 5 s.heap.size) s.heap s.heap [] := va_S.rf
  have hAk : ∀ k, k < 5 → (sp_A am 5 s.heap.size) (am k) := fun k hk => Or.inl ⟨k, hk, rfl⟩
  skip
  have hn30 := hM.2.1
  have ht6 := hM.2.2.2
  have hl := lv_entry ([.ref (am (0)), .int (nI a), .int (r), .int (c1)]) (n := 7) (Nat.le_of_ble_eq_true rfl)
  refine W.eq (lg_entry_eq _ ([.ref (am (0)), .int (nI a), .int (r), .int (c1)]) _) ?_
  generalize (lg_sl ([.ref (am (0)), .int (nI a), .int (r), .int (c1)]) ++ List.replicate (7 - (lg_sl ([.ref (am (0)), .int (nI a), .int (r), .int (c1)])).length) Slot.unset).toArray = ls at hl ⊢
  have hl : lv_has ls 7 [(0, .ref (am (0))), (1, .int (nI a)), (2, .int (r)), (3, .int (c1))] := hl
  refine lv_aload_n hx hb dX10_errorsThere_0 rfl (lv_at hl 0 rfl) ?_
  refine lv_iload_n hx hb dX10_errorsThere_1 rfl (lv_at hl 1 rfl) ?_
  refine lv_iconst (v := 3) hx hb dX10_errorsThere_2 (by decide) ?_
  refine sp_call (W.runV (As := [.int (nI a), .int (3)]) (rest := []) ⟨hx, hb, hml, hown, hts⟩ (c_X10_p l D am cy μ a (by omega) 3 (by omega)) (cwV 2 hts gX10_errorsThere_X10_p rfl rfl rfl (by decide +kernel) ⟨Nat.le_of_ble_eq_true rfl, Nat.le_of_ble_eq_true rfl⟩) (sp_preV hK hP (κ := 0) (by decide) mE_0 rfl) rfl rfl hl.1 rfl (lv_room (Nat.le_of_ble_eq_true rfl)) dX10_errorsThere_3 ⟨Nat.le_of_ble_eq_true rfl, Nat.le_of_ble_eq_true rfl⟩) ?_
  refine W.eq (g2 := F0 m 6 ls [.int (gP (μ 1) a 3)]) rfl ?_
  refine lv_istore (lv' := [(4, .int (gP (μ 1) a 3)), (0, .ref (am (0))), (1, .int (nI a)), (2, .int (r)), (3, .int (c1))]) hx hb dX10_errorsThere_6 hl (by decide) rfl (fun ls hl => ?_)
  refine lv_aload_n hx hb dX10_errorsThere_8 rfl (lv_at hl 1 rfl) ?_
  refine lv_iload_n hx hb dX10_errorsThere_9 rfl (lv_at hl 2 rfl) ?_
  refine lv_iconst (v := 4) hx hb dX10_errorsThere_10 (by decide) ?_
  refine sp_call (W.runV (As := [.int (nI a), .int (4)]) (rest := []) ⟨hx, hb, hml, hown, hts⟩ (c_X10_p l D am cy μ a (by omega) 4 (by omega)) (cwV 2 hts gX10_errorsThere_X10_p rfl rfl rfl (by decide +kernel) ⟨Nat.le_of_ble_eq_true rfl, Nat.le_of_ble_eq_true rfl⟩) (sp_preV hK hP (κ := 0) (by decide) mE_0 rfl) rfl rfl hl.1 rfl (lv_room (Nat.le_of_ble_eq_true rfl)) dX10_errorsThere_11 ⟨Nat.le_of_ble_eq_true rfl, Nat.le_of_ble_eq_true rfl⟩) ?_
  refine W.eq (g2 := F0 m 14 ls [.int (gP (μ 1) a 4)]) rfl ?_
  refine lv_istore (lv' := [(5, .int (gP (μ 1) a 4)), (4, .int (gP (μ 1) a 3)), (0, .ref (am (0))), (1, .int (nI a)), (2, .int (r)), (3, .int (c1))]) hx hb dX10_errorsThere_14 hl (by decide) rfl (fun ls hl => ?_)
  refine lv_aload_n hx hb dX10_errorsThere_16 rfl (lv_at hl 2 rfl) ?_
  refine lv_iload_n hx hb dX10_errorsThere_17 rfl (lv_at hl 3 rfl) ?_
  refine lv_iconst (v := 3) hx hb dX10_errorsThere_18 (by decide) ?_
  refine lv_iload_n hx hb dX10_errorsThere_19 rfl (lv_at hl 4 rfl) ?_
  refine sp_callm (va_runV (As := [.int (nI a), .int (3), .int (r)]) (rest := []) ⟨hx, hb, hml, hown, hts⟩ (c_X10_set l D am cy μ _ hi a (by omega) 3 (by omega) r) (cwV 3 hts gX10_errorsThere_X10_set rfl rfl rfl (by decide +kernel) ⟨Nat.le_of_ble_eq_true rfl, Nat.le_of_ble_eq_true rfl⟩) (sp_preVm hK hP (κ := 0) (by decide) mE_0 rfl) rfl rfl hl.1 rfl (lv_room (Nat.le_of_ble_eq_true rfl)) dX10_errorsThere_20 ⟨Nat.le_of_ble_eq_true rfl, Nat.le_of_ble_eq_true rfl⟩) hS (fun q h1 h2 => sp_Alt h1 h2) (sp_Ale hS.1) (fun H locs hP hle hfr hS => ?_)
  refine W.eq (g2 := F0 m 23 ls []) rfl ?_
  refine lv_aload_n hx hb dX10_errorsThere_23 rfl (lv_at hl 2 rfl) ?_
  refine lv_iload_n hx hb dX10_errorsThere_24 rfl (lv_at hl 3 rfl) ?_
  refine lv_iconst (v := 4) hx hb dX10_errorsThere_25 (by decide) ?_
  refine lv_iload_n hx hb dX10_errorsThere_26 rfl (lv_at hl 5 rfl) ?_
  refine sp_callm (va_runV (As := [.int (nI a), .int (4), .int (c1)]) (rest := []) ⟨hx, hb, hml, hown, hts⟩ (c_X10_set l D am cy (sp_st μ 1 (19 + 9 * a + 3) r) _ hi a (by omega) 4 (by omega) c1) (cwV 3 hts gX10_errorsThere_X10_set rfl rfl rfl (by decide +kernel) ⟨Nat.le_of_ble_eq_true rfl, Nat.le_of_ble_eq_true rfl⟩) (sp_preVm hK hP (κ := 0) (by decide) mE_0 rfl) rfl rfl hl.1 rfl (lv_room (Nat.le_of_ble_eq_true rfl)) dX10_errorsThere_27 ⟨Nat.le_of_ble_eq_true rfl, Nat.le_of_ble_eq_true rfl⟩) hS (fun q h1 h2 => sp_Alt h1 h2) (sp_Ale hS.1) (fun H locs hP hle hfr hS => ?_)
  refine W.eq (g2 := F0 m 30 ls []) rfl ?_
  refine lv_aload_n hx hb dX10_errorsThere_30 rfl (lv_at hl 2 rfl) ?_
  refine lv_aload_n hx hb dX10_errorsThere_31 rfl (lv_at hl 2 rfl) ?_
  refine lv_iload_n hx hb dX10_errorsThere_32 rfl (lv_at hl 3 rfl) ?_
  refine lv_iconst (v := 1) hx hb dX10_errorsThere_33 (by decide) ?_
  refine sp_call (W.runV (As := [.int (nI a), .int (1)]) (rest := [.ref (am (0))]) ⟨hx, hb, hml, hown, hts⟩ (c_X10_p l D am cy (sp_st (sp_st μ 1 (19 + 9 * a + 3) r) 1 (19 + 9 * a + 4) c1) a (by omega) 1 (by omega)) (cwV 2 hts gX10_errorsThere_X10_p rfl rfl rfl (by decide +kernel) ⟨Nat.le_of_ble_eq_true rfl, Nat.le_of_ble_eq_true rfl⟩) (sp_preV hK hP (κ := 0) (by decide) mE_0 rfl) rfl rfl hl.1 rfl (lv_room (Nat.le_of_ble_eq_true rfl)) dX10_errorsThere_34 ⟨Nat.le_of_ble_eq_true rfl, Nat.le_of_ble_eq_true rfl⟩) ?_
  refine W.eq (g2 := F0 m 37 ls [.int (gP ((sp_st (sp_st μ 1 (19 + 9 * a + 3) r) 1 (19 + 9 * a + 4) c1) 1) a 1), .ref (am (0))]) rfl ?_
  refine W.eq (g2 := F0 m 37 ls [.int (gP (upd2 (μ 1) (19 + 9 * a + 3) r (19 + 9 * a + 4) c1) a 1), .ref (am (0))]) (by rw [st2_1 _ _ _ _ _]) ?_
  refine sp_call (W.runV (As := [.int (gP (upd2 (μ 1) (19 + 9 * a + 3) r (19 + 9 * a + 4) c1) a 1)]) (rest := []) ⟨hx, hb, hml, hown, hts⟩ (c_X10_errorsOf l D am cy (sp_st (sp_st μ 1 (19 + 9 * a + 3) r) 1 (19 + 9 * a + 4) c1) n t (by first | exact hM | exact hi_0 | (repeat first | exact hM | exact hi_0 | refine MS.st0 ?_ | refine MS.st ?_ (by omega))) (gP (upd2 (μ 1) (19 + 9 * a + 3) r (19 + 9 * a + 4) c1) a 1)) (cwV 1 hts gX10_errorsThere_X10_errorsOf rfl rfl rfl (by decide +kernel) ⟨Nat.le_of_ble_eq_true rfl, Nat.le_of_ble_eq_true rfl⟩) (sp_preV hK hP (κ := 0) (by decide) mE_0 rfl) rfl rfl hl.1 rfl (lv_room (Nat.le_of_ble_eq_true rfl)) dX10_errorsThere_37 ⟨Nat.le_of_ble_eq_true rfl, Nat.le_of_ble_eq_true rfl⟩) ?_
  refine W.eq (g2 := F0 m 40 ls [.int (m_errs ((sp_st (sp_st μ 1 (19 + 9 * a + 3) r) 1 (19 + 9 * a + 4) c1) 1) n t (gP (upd2 (μ 1) (19 + 9 * a + 3) r (19 + 9 * a + 4) c1) a 1))]) rfl ?_
  refine W.eq (g2 := F0 m 40 ls [.int (m_errs (upd2 (μ 1) (19 + 9 * a + 3) r (19 + 9 * a + 4) c1) n t (gP (upd2 (μ 1) (19 + 9 * a + 3) r (19 + 9 * a + 4) c1) a 1))]) (by rw [st2_1 _ _ _ _ _]) ?_
  refine lv_istore (lv' := [(6, .int (m_errs (upd2 (μ 1) (19 + 9 * a + 3) r (19 + 9 * a + 4) c1) n t (gP (upd2 (μ 1) (19 + 9 * a + 3) r (19 + 9 * a + 4) c1) a 1))), (5, .int (gP (μ 1) a 4)), (4, .int (gP (μ 1) a 3)), (0, .ref (am (0))), (1, .int (nI a)), (2, .int (r)), (3, .int (c1))]) hx hb dX10_errorsThere_40 hl (by decide) rfl (fun ls hl => ?_)
  refine lv_aload_n hx hb dX10_errorsThere_42 rfl (lv_at hl 3 rfl) ?_
  refine lv_iload_n hx hb dX10_errorsThere_43 rfl (lv_at hl 4 rfl) ?_
  refine lv_iconst (v := 3) hx hb dX10_errorsThere_44 (by decide) ?_
  refine lv_iload hx hb dX10_errorsThere_45 (lv_at hl 2 rfl) ?_
  refine sp_callm (va_runV (As := [.int (nI a), .int (3), .int (gP (μ 1) a 3)]) (rest := []) ⟨hx, hb, hml, hown, hts⟩ (c_X10_set l D am cy (sp_st (sp_st μ 1 (19 + 9 * a + 3) r) 1 (19 + 9 * a + 4) c1) _ hi a (by omega) 3 (by omega) (gP (μ 1) a 3)) (cwV 3 hts gX10_errorsThere_X10_set rfl rfl rfl (by decide +kernel) ⟨Nat.le_of_ble_eq_true rfl, Nat.le_of_ble_eq_true rfl⟩) (sp_preVm hK hP (κ := 0) (by decide) mE_0 rfl) rfl rfl hl.1 rfl (lv_room (Nat.le_of_ble_eq_true rfl)) dX10_errorsThere_47 ⟨Nat.le_of_ble_eq_true rfl, Nat.le_of_ble_eq_true rfl⟩) hS (fun q h1 h2 => sp_Alt h1 h2) (sp_Ale hS.1) (fun H locs hP hle hfr hS => ?_)
  refine W.eq (g2 := F0 m 50 ls []) rfl ?_
  refine lv_aload_n hx hb dX10_errorsThere_50 rfl (lv_at hl 3 rfl) ?_
  refine lv_iload_n hx hb dX10_errorsThere_51 rfl (lv_at hl 4 rfl) ?_
  refine lv_iconst (v := 4) hx hb dX10_errorsThere_52 (by decide) ?_
  refine lv_iload hx hb dX10_errorsThere_53 (lv_at hl 1 rfl) ?_
  refine sp_callm (va_runV (As := [.int (nI a), .int (4), .int (gP (μ 1) a 4)]) (rest := []) ⟨hx, hb, hml, hown, hts⟩ (c_X10_set l D am cy (sp_st (sp_st (sp_st μ 1 (19 + 9 * a + 3) r) 1 (19 + 9 * a + 4) c1) 1 (19 + 9 * a + 3) (gP (μ 1) a 3)) _ hi a (by omega) 4 (by omega) (gP (μ 1) a 4)) (cwV 3 hts gX10_errorsThere_X10_set rfl rfl rfl (by decide +kernel) ⟨Nat.le_of_ble_eq_true rfl, Nat.le_of_ble_eq_true rfl⟩) (sp_preVm hK hP (κ := 0) (by decide) mE_0 rfl) rfl rfl hl.1 rfl (lv_room (Nat.le_of_ble_eq_true rfl)) dX10_errorsThere_55 ⟨Nat.le_of_ble_eq_true rfl, Nat.le_of_ble_eq_true rfl⟩) hS (fun q h1 h2 => sp_Alt h1 h2) (sp_Ale hS.1) (fun H locs hP hle hfr hS => ?_)
  refine W.eq (g2 := F0 m 58 ls []) rfl ?_
  refine lv_iload hx hb dX10_errorsThere_58 (lv_at hl 0 rfl) ?_
  have hE9 : mW am cy (sp_st (sp_st (sp_st (sp_st μ 1 (19 + 9 * a + 3) r) 1 (19 + 9 * a + 4) c1) 1 (19 + 9 * a + 3) (gP (μ 1) a 3)) 1 (19 + 9 * a + 4) (gP (μ 1) a 4)) = mW am cy (μ) := by exact mW_eq (m_back _ _ _ _)
  have hP : va_P D vwCl (mW am cy (μ)) H := by rw [← hE9]; exact hP
  exact W.iret (v := m_errs (upd2 (μ 1) (19 + 9 * a + 3) r (19 + 9 * a + 4) c1) n t (gP (upd2 (μ 1) (19 + 9 * a + 3) r (19 + 9 * a + 4) c1) a 1)) hx hb hr (fun T9 hT9 _ => ⟨congrArg (fun z9 => Outcome.returned (some (Value.int z9))) (show (m_errs (upd2 (μ 1) (19 + 9 * a + 3) r (19 + 9 * a + 4) c1) n t (gP (upd2 (μ 1) (19 + 9 * a + 3) r (19 + 9 * a + 4) c1) a 1) : Int32) = m_there (μ 1) n t a r c1 from (by rfl)), by rw [hT9]; exact hP, hS.F hT9⟩) hS.2.2 dX10_errorsThere_60

set_option maxHeartbeats 4000000 in
set_option maxRecDepth 100000 in
theorem c_X10_errorsIfMoved (l : Launch) (D : va_G) (am : Nat → Nat) (cy : Nat → ClassId) (μ : Nat → Nat → Int32) (sz : Nat) (hi : sp_inj am 5) (n : Nat) (t : Nat) (hM : MS (μ 1) n t) (x : Int32) (r : Int32) (c1 : Int32) : Met l yX10_errorsIfMoved wsX10_errorsIfMoved ({ frames := 7, cells := 0, slots := 0, locals := 163 } : Room) (sp_Pm D (tyG cy) sz [.ref (am (0)), .int (x), .int (r), .int (c1)] (mW am cy μ)) (sp_Q D (some (.int (atO (m_find (μ 1) n x) 0 (fun k => if m_isCell r c1 = true then m_there (μ 1) n t k r c1 else 0)))) (mW am cy (sp_st μ 0 0 (atO (m_find (μ 1) n x) 1 (fun _ => if m_isCell r c1 = true then 0 else 1)))) (sp_A am 5 sz)) 0 0 (sp_A am 5 sz) := by
  refine Met.ofW (cc := cX10_errorsIfMoved) (maxL := 5) (ret := (some .int)) (by decide) rfl ?_
  intro p e s m args below meth c s₁ B hml hv
  obtain ⟨rfl, hsz, hP, hK⟩ := hv
  have hx := B.exec
  have hb := B.bytes
  have hr := B.returns
  have hts := atoms_spec (ws := wsX10_errorsIfMoved) B.pre
  have hown : s.vm.findClass RX10 = some m.cls := findClass_of_methodNamed B.named
  have hlocks := B.notSynchronized
  subst hsz
  have hS : va_S (sp_A am 5 s.heap.size) s.heap s.heap [] := va_S.rf
  have hAk : ∀ k, k < 5 → (sp_A am 5 s.heap.size) (am k) := fun k hk => Or.inl ⟨k, hk, rfl⟩
  skip
  have hn30 := hM.2.1
  have ht6 := hM.2.2.2
  have hl := lv_entry ([.ref (am (0)), .int (x), .int (r), .int (c1)]) (n := 5) (Nat.le_of_ble_eq_true rfl)
  refine W.eq (lg_entry_eq _ ([.ref (am (0)), .int (x), .int (r), .int (c1)]) _) ?_
  generalize (lg_sl ([.ref (am (0)), .int (x), .int (r), .int (c1)]) ++ List.replicate (5 - (lg_sl ([.ref (am (0)), .int (x), .int (r), .int (c1)])).length) Slot.unset).toArray = ls at hl ⊢
  have hl : lv_has ls 5 [(0, .ref (am (0))), (1, .int (x)), (2, .int (r)), (3, .int (c1))] := hl
  refine lv_aload_n hx hb dX10_errorsIfMoved_0 rfl (lv_at hl 0 rfl) ?_
  refine lv_iload_n hx hb dX10_errorsIfMoved_1 rfl (lv_at hl 1 rfl) ?_
  refine sp_call (W.runV (As := [.int (x)]) (rest := []) ⟨hx, hb, hml, hown, hts⟩ (c_X10_find l D am cy μ n t (by first | exact hM | exact hi_0 | (repeat first | exact hM | exact hi_0 | refine MS.st0 ?_ | refine MS.st ?_ (by omega))) x) (cwV 1 hts gX10_errorsIfMoved_X10_find rfl rfl rfl (by decide +kernel) ⟨Nat.le_of_ble_eq_true rfl, Nat.le_of_ble_eq_true rfl⟩) (sp_preV hK hP (κ := 0) (by decide) mE_0 rfl) rfl rfl hl.1 rfl (lv_room (Nat.le_of_ble_eq_true rfl)) dX10_errorsIfMoved_2 ⟨Nat.le_of_ble_eq_true rfl, Nat.le_of_ble_eq_true rfl⟩) ?_
  rcases opt_em (m_find (μ 1) n x) with q_1 | ⟨j_2, q_1⟩
  · refine W.eq (g2 := F0 m 5 ls [.int ((-1))]) (by rw [q_1]; rfl) ?_
    refine lv_istore (lv' := [(4, .int ((-1))), (0, .ref (am (0))), (1, .int (x)), (2, .int (r)), (3, .int (c1))]) hx hb dX10_errorsIfMoved_5 hl (by decide) rfl (fun ls hl => ?_)
    refine lv_aload_n hx hb dX10_errorsIfMoved_7 rfl (lv_at hl 1 rfl) ?_
    refine lv_iload hx hb dX10_errorsIfMoved_8 (lv_at hl 0 rfl) ?_
    refine lv_if_lt (tgt := 25) hx hb dX10_errorsIfMoved_10 (by decide) (fun c_3 => ?_) (fun c_3 => ?_)
    · skip
      refine lv_iconst (v := 0) hx hb dX10_errorsIfMoved_25 (by decide) ?_
      refine sp_callm (va_runV (As := [.int (0)]) (rest := []) ⟨hx, hb, hml, hown, hts⟩ (c_X10_isFine_0 l D am cy μ _ hi ) (cwV 1 hts gX10_errorsIfMoved_X10_isFine rfl rfl rfl (by decide +kernel) ⟨Nat.le_of_ble_eq_true rfl, Nat.le_of_ble_eq_true rfl⟩) (sp_preVm hK hP (κ := 0) (by decide) mE_0 rfl) rfl rfl hl.1 rfl (lv_room (Nat.le_of_ble_eq_true rfl)) dX10_errorsIfMoved_26 ⟨Nat.le_of_ble_eq_true rfl, Nat.le_of_ble_eq_true rfl⟩) hS (fun q h1 h2 => sp_Alt h1 h2) (sp_Ale hS.1) (fun H locs hP hle hfr hS => ?_)
      refine W.eq (g2 := F0 m 29 ls [.int (0)]) rfl ?_
      refine lv_if_eq (tgt := 43) hx hb dX10_errorsIfMoved_29 (by decide) (fun c_4 => ?_) (fun c_4 => ?_)
      · skip
        refine lv_iconst (v := 0) hx hb dX10_errorsIfMoved_43 (by decide) ?_
        have hE9 : mW am cy (sp_st μ 0 0 1) = mW am cy (sp_st μ 0 0 (atO (m_find (μ 1) n x) 1 (fun _ => if m_isCell r c1 = true then 0 else 1))) := by exact mW_eq (by simp [atO, b2i, atO, q_1])
        have hP : va_P D vwCl (mW am cy (sp_st μ 0 0 (atO (m_find (μ 1) n x) 1 (fun _ => if m_isCell r c1 = true then 0 else 1)))) H := by rw [← hE9]; exact hP
        exact W.iret (v := 0) hx hb hr (fun T9 hT9 _ => ⟨congrArg (fun z9 => Outcome.returned (some (Value.int z9))) (show (0 : Int32) = atO (m_find (μ 1) n x) 0 (fun k => if m_isCell r c1 = true then m_there (μ 1) n t k r c1 else 0) from (by first | rfl | (simp [atO, b2i, q_1]; done))), by rw [hT9]; exact hP, hS.F hT9⟩) hS.2.2 dX10_errorsIfMoved_44
      · exact absurd c_4 (by decide)
    · exact absurd c_3 (by decide)
  · have hj_2 := m_find_lt q_1
    refine W.eq (g2 := F0 m 5 ls [.int (nI j_2)]) (by rw [q_1]; rfl) ?_
    refine lv_istore (lv' := [(4, .int (nI j_2)), (0, .ref (am (0))), (1, .int (x)), (2, .int (r)), (3, .int (c1))]) hx hb dX10_errorsIfMoved_5 hl (by decide) rfl (fun ls hl => ?_)
    refine lv_aload_n hx hb dX10_errorsIfMoved_7 rfl (lv_at hl 1 rfl) ?_
    refine lv_iload hx hb dX10_errorsIfMoved_8 (lv_at hl 0 rfl) ?_
    refine lv_if_lt (tgt := 25) hx hb dX10_errorsIfMoved_10 (by decide) (fun c_5 => ?_) (fun c_5 => ?_)
    · exact absurd c_5 (nI_pos (by omega))
    · skip
      have c_5d := Int32.not_lt.mp c_5
      refine lv_iload_n hx hb dX10_errorsIfMoved_13 rfl (lv_at hl 3 rfl) ?_
      refine lv_iload_n hx hb dX10_errorsIfMoved_14 rfl (lv_at hl 4 rfl) ?_
      refine sp_call (W.runS (As := [.int (r), .int (c1)]) (rest := [.ref (am (0))]) ⟨hx, hb, hml, hown, hts⟩ (c_X10_isCell l D am cy μ r c1) (va_cwS 2 hts gX10_errorsIfMoved_X10_isCell rfl rfl rfl (by decide +kernel) ⟨Nat.le_of_ble_eq_true rfl, Nat.le_of_ble_eq_true rfl⟩) (sp_preS hK hP) rfl rfl hl.1 rfl (lv_room (Nat.le_of_ble_eq_true rfl)) dX10_errorsIfMoved_15 ⟨Nat.le_of_ble_eq_true rfl, Nat.le_of_ble_eq_true rfl⟩) ?_
      refine W.eq (g2 := F0 m 18 ls [.int (b2i (m_isCell r c1)), .ref (am (0))]) rfl ?_
      refine lv_if_eq (tgt := 25) hx hb dX10_errorsIfMoved_18 (by decide) (fun c_6 => ?_) (fun c_6 => ?_)
      · rw [b2i_eq0] at c_6
        refine lv_iconst (v := 0) hx hb dX10_errorsIfMoved_25 (by decide) ?_
        refine sp_callm (va_runV (As := [.int (0)]) (rest := []) ⟨hx, hb, hml, hown, hts⟩ (c_X10_isFine_0 l D am cy μ _ hi ) (cwV 1 hts gX10_errorsIfMoved_X10_isFine rfl rfl rfl (by decide +kernel) ⟨Nat.le_of_ble_eq_true rfl, Nat.le_of_ble_eq_true rfl⟩) (sp_preVm hK hP (κ := 0) (by decide) mE_0 rfl) rfl rfl hl.1 rfl (lv_room (Nat.le_of_ble_eq_true rfl)) dX10_errorsIfMoved_26 ⟨Nat.le_of_ble_eq_true rfl, Nat.le_of_ble_eq_true rfl⟩) hS (fun q h1 h2 => sp_Alt h1 h2) (sp_Ale hS.1) (fun H locs hP hle hfr hS => ?_)
        refine W.eq (g2 := F0 m 29 ls [.int (0)]) rfl ?_
        refine lv_if_eq (tgt := 43) hx hb dX10_errorsIfMoved_29 (by decide) (fun c_7 => ?_) (fun c_7 => ?_)
        · skip
          refine lv_iconst (v := 0) hx hb dX10_errorsIfMoved_43 (by decide) ?_
          have hE9 : mW am cy (sp_st μ 0 0 1) = mW am cy (sp_st μ 0 0 (atO (m_find (μ 1) n x) 1 (fun _ => if m_isCell r c1 = true then 0 else 1))) := by exact mW_eq (by simp [atO, b2i, atO, q_1, c_5, c_5d, c_6])
          have hP : va_P D vwCl (mW am cy (sp_st μ 0 0 (atO (m_find (μ 1) n x) 1 (fun _ => if m_isCell r c1 = true then 0 else 1)))) H := by rw [← hE9]; exact hP
          exact W.iret (v := 0) hx hb hr (fun T9 hT9 _ => ⟨congrArg (fun z9 => Outcome.returned (some (Value.int z9))) (show (0 : Int32) = atO (m_find (μ 1) n x) 0 (fun k => if m_isCell r c1 = true then m_there (μ 1) n t k r c1 else 0) from (by first | rfl | (simp [atO, b2i, q_1, c_5, c_5d, c_6]; done))), by rw [hT9]; exact hP, hS.F hT9⟩) hS.2.2 dX10_errorsIfMoved_44
        · exact absurd c_7 (by decide)
      · rw [b2i_eq0] at c_6
        refine lv_iconst (v := 1) hx hb dX10_errorsIfMoved_21 (by decide) ?_
        refine lv_goto (tgt := 26) hx hb dX10_errorsIfMoved_22 (by decide) ?_
        refine sp_callm (va_runV (As := [.int (1)]) (rest := []) ⟨hx, hb, hml, hown, hts⟩ (c_X10_isFine_1 l D am cy μ _ hi ) (cwV 1 hts gX10_errorsIfMoved_X10_isFine rfl rfl rfl (by decide +kernel) ⟨Nat.le_of_ble_eq_true rfl, Nat.le_of_ble_eq_true rfl⟩) (sp_preVm hK hP (κ := 0) (by decide) mE_0 rfl) rfl rfl hl.1 rfl (lv_room (Nat.le_of_ble_eq_true rfl)) dX10_errorsIfMoved_26 ⟨Nat.le_of_ble_eq_true rfl, Nat.le_of_ble_eq_true rfl⟩) hS (fun q h1 h2 => sp_Alt h1 h2) (sp_Ale hS.1) (fun H locs hP hle hfr hS => ?_)
        refine W.eq (g2 := F0 m 29 ls [.int (1)]) rfl ?_
        refine lv_if_eq (tgt := 43) hx hb dX10_errorsIfMoved_29 (by decide) (fun c_8 => ?_) (fun c_8 => ?_)
        · exact absurd c_8 (by decide)
        · skip
          refine lv_aload_n hx hb dX10_errorsIfMoved_32 rfl (lv_at hl 1 rfl) ?_
          refine lv_iload hx hb dX10_errorsIfMoved_33 (lv_at hl 0 rfl) ?_
          refine lv_iload_n hx hb dX10_errorsIfMoved_35 rfl (lv_at hl 3 rfl) ?_
          refine lv_iload_n hx hb dX10_errorsIfMoved_36 rfl (lv_at hl 4 rfl) ?_
          refine sp_callm (va_runV (As := [.int (nI j_2), .int (r), .int (c1)]) (rest := []) ⟨hx, hb, hml, hown, hts⟩ (c_X10_errorsThere l D am cy (sp_st μ 0 0 0) _ hi n t (by first | exact hM | exact hi_0 | (repeat first | exact hM | exact hi_0 | refine MS.st0 ?_ | refine MS.st ?_ (by omega))) j_2 (by omega) r c1) (cwV 3 hts gX10_errorsIfMoved_X10_errorsThere rfl rfl rfl (by decide +kernel) ⟨Nat.le_of_ble_eq_true rfl, Nat.le_of_ble_eq_true rfl⟩) (sp_preVm hK hP (κ := 0) (by decide) mE_0 rfl) rfl rfl hl.1 rfl (lv_room (Nat.le_of_ble_eq_true rfl)) dX10_errorsIfMoved_37 ⟨Nat.le_of_ble_eq_true rfl, Nat.le_of_ble_eq_true rfl⟩) hS (fun q h1 h2 => sp_Alt h1 h2) (sp_Ale hS.1) (fun H locs hP hle hfr hS => ?_)
          refine W.eq (g2 := F0 m 40 ls [.int (m_there ((sp_st μ 0 0 0) 1) n t j_2 r c1)]) rfl ?_
          refine W.eq (g2 := F0 m 40 ls [.int (m_there (μ 1) n t j_2 r c1)]) (by rw [st0_1 μ 0 0]) ?_
          refine lv_goto (tgt := 44) hx hb dX10_errorsIfMoved_40 (by decide) ?_
          have hE9 : mW am cy ((sp_st μ 0 0 0)) = mW am cy (sp_st μ 0 0 (atO (m_find (μ 1) n x) 1 (fun _ => if m_isCell r c1 = true then 0 else 1))) := by exact mW_eq (by simp [atO, b2i, atO, q_1, c_5, c_5d, c_6])
          have hP : va_P D vwCl (mW am cy (sp_st μ 0 0 (atO (m_find (μ 1) n x) 1 (fun _ => if m_isCell r c1 = true then 0 else 1)))) H := by rw [← hE9]; exact hP
          exact W.iret (v := m_there (μ 1) n t j_2 r c1) hx hb hr (fun T9 hT9 _ => ⟨congrArg (fun z9 => Outcome.returned (some (Value.int z9))) (show (m_there (μ 1) n t j_2 r c1 : Int32) = atO (m_find (μ 1) n x) 0 (fun k => if m_isCell r c1 = true then m_there (μ 1) n t k r c1 else 0) from (by first | rfl | (simp [atO, b2i, q_1, c_5, c_5d, c_6]; done))), by rw [hT9]; exact hP, hS.F hT9⟩) hS.2.2 dX10_errorsIfMoved_44

theorem wi_X10_mayMove_X10 : ∀ w ∈ wsX100, w ∈ wsX10_mayMove := by decide +kernel
set_option maxHeartbeats 4000000 in
set_option maxRecDepth 100000 in
theorem c_X10_mayMove (l : Launch) (D : va_G) (am : Nat → Nat) (cy : Nat → ClassId) (μ : Nat → Nat → Int32) (n : Nat) (t : Nat) (hM : MS (μ 1) n t) (a : Nat) (ha : a < n) (r : Int32) (c1 : Int32) : Met l yX10_mayMove wsX10_mayMove ({ frames := 2, cells := 0, slots := 0, locals := 45 } : Room) (sp_Pc D (tyG cy) [.ref (am (0)), .int (nI a), .int (r), .int (c1)] (mW am cy μ)) (sp_S (some (.int (b2i (m_may (μ 1) n a r c1))))) 0 0 (fun _ => False) := by
  refine Met.ofW (cc := cX10_mayMove) (maxL := 4) (ret := (some .boolean)) (by decide) rfl ?_
  intro p e s m args below meth c s₁ B hml hv
  obtain ⟨rfl, hP, hK⟩ := hv
  have hx := B.exec
  have hb := B.bytes
  have hr := B.returns
  have hts := atoms_spec (ws := wsX10_mayMove) B.pre
  have hown : s.vm.findClass RX10 = some m.cls := findClass_of_methodNamed B.named
  have hlocks := B.notSynchronized
  have hn30 := hM.2.1
  have ht6 := hM.2.2.2
  have hl := lv_entry ([.ref (am (0)), .int (nI a), .int (r), .int (c1)]) (n := 4) (Nat.le_of_ble_eq_true rfl)
  refine W.eq (lg_entry_eq _ ([.ref (am (0)), .int (nI a), .int (r), .int (c1)]) _) ?_
  generalize (lg_sl ([.ref (am (0)), .int (nI a), .int (r), .int (c1)]) ++ List.replicate (4 - (lg_sl ([.ref (am (0)), .int (nI a), .int (r), .int (c1)])).length) Slot.unset).toArray = ls at hl ⊢
  have hl : lv_has ls 4 [(0, .ref (am (0))), (1, .int (nI a)), (2, .int (r)), (3, .int (c1))] := hl
  refine lv_aload_n hx hb dX10_mayMove_0 rfl (lv_at hl 0 rfl) ?_
  refine lv_iload_n hx hb dX10_mayMove_1 rfl (lv_at hl 1 rfl) ?_
  refine lv_iload_n hx hb dX10_mayMove_2 rfl (lv_at hl 2 rfl) ?_
  refine lv_iload_n hx hb dX10_mayMove_3 rfl (lv_at hl 3 rfl) ?_
  refine sp_call (W.runV (As := [.int (nI a), .int (r), .int (c1)]) (rest := []) ⟨hx, hb, hml, hown, hts⟩ (c_X10_distance l D am cy μ n t (by first | exact hM | exact hi_0 | (repeat first | exact hM | exact hi_0 | refine MS.st0 ?_ | refine MS.st ?_ (by omega))) a (by omega) r c1) (cwV 3 hts gX10_mayMove_X10_distance rfl rfl rfl (by decide +kernel) ⟨Nat.le_of_ble_eq_true rfl, Nat.le_of_ble_eq_true rfl⟩) (sp_preV hK hP (κ := 0) (by decide) mE_0 rfl) rfl rfl hl.1 rfl (lv_room (Nat.le_of_ble_eq_true rfl)) dX10_mayMove_4 ⟨Nat.le_of_ble_eq_true rfl, Nat.le_of_ble_eq_true rfl⟩) ?_
  refine W.eq (g2 := F0 m 7 ls [.int (m_dist (μ 1) a r c1)]) rfl ?_
  refine lv_iconst (v := 1) hx hb dX10_mayMove_7 (by decide) ?_
  refine lv_iconst (v := 2) hx hb dX10_mayMove_8 (by decide) ?_
  refine sp_call (W.runS (As := [.int (m_dist (μ 1) a r c1), .int (1), .int (2)]) (rest := []) ⟨hx, hb, hml, hown, hts⟩ (c_X10_in l D am cy μ (m_dist (μ 1) a r c1) 1 2) (va_cwS 3 hts gX10_mayMove_X10_in rfl rfl rfl (by decide +kernel) ⟨Nat.le_of_ble_eq_true rfl, Nat.le_of_ble_eq_true rfl⟩) (sp_preS hK hP) rfl rfl hl.1 rfl (lv_room (Nat.le_of_ble_eq_true rfl)) dX10_mayMove_9 ⟨Nat.le_of_ble_eq_true rfl, Nat.le_of_ble_eq_true rfl⟩) ?_
  refine W.eq (g2 := F0 m 12 ls [.int (b2i (m_in (m_dist (μ 1) a r c1) 1 2))]) rfl ?_
  refine lv_if_eq (tgt := 38) hx hb dX10_mayMove_12 (by decide) (fun c_1 => ?_) (fun c_1 => ?_)
  · rw [b2i_eq0] at c_1
    refine lv_iconst (v := 0) hx hb dX10_mayMove_38 (by decide) ?_
    exact W.zret (v := 0) hx hb hr (by decide) (fun T9 hT9 _ => ⟨congrArg (fun z9 => Outcome.returned (some (Value.int z9))) (show (0 : Int32) = b2i (m_may (μ 1) n a r c1) from (by first | rfl | (simp [m_may, b2i, c_1]; done))), hT9⟩) (fun _ h => by cases h) dX10_mayMove_39
  · rw [b2i_eq0] at c_1
    refine lv_iload_n hx hb dX10_mayMove_15 rfl (lv_at hl 2 rfl) ?_
    refine lv_aload_n hx hb dX10_mayMove_16 rfl (lv_at hl 0 rfl) ?_
    refine sp_get hx hb hts wi_X10_mayMove_X10 hown hK hP (κ := 0) (by decide) mE_0 rfl 1 (by decide) (hts _ (List.mem_of_getElem? (i := 1) rfl)) (fun _ h => h) rfl dX10_mayMove_17 ?_
    refine lv_iconst (v := 4) hx hb dX10_mayMove_20 (by decide) ?_
    refine sp_iald hx hb hK hP (κ := 1) (by decide) 1 mE_1 rfl 4 rfl (by omega) (by decide) dX10_mayMove_21 ?_
    refine lv_icmp_lt (tgt := 38) hx hb dX10_mayMove_22 (by decide) (fun c_2 => ?_) (fun c_2 => ?_)
    · skip
      have c_2d := Int32.not_le.mpr c_2
      refine lv_iconst (v := 0) hx hb dX10_mayMove_38 (by decide) ?_
      exact W.zret (v := 0) hx hb hr (by decide) (fun T9 hT9 _ => ⟨congrArg (fun z9 => Outcome.returned (some (Value.int z9))) (show (0 : Int32) = b2i (m_may (μ 1) n a r c1) from (by first | rfl | (simp [m_may, b2i, c_1, c_2, c_2d]; done))), hT9⟩) (fun _ h => by cases h) dX10_mayMove_39
    · skip
      have c_2d := Int32.not_lt.mp c_2
      refine lv_aload_n hx hb dX10_mayMove_25 rfl (lv_at hl 0 rfl) ?_
      refine lv_iload_n hx hb dX10_mayMove_26 rfl (lv_at hl 2 rfl) ?_
      refine lv_iload_n hx hb dX10_mayMove_27 rfl (lv_at hl 3 rfl) ?_
      refine sp_call (W.runV (As := [.int (r), .int (c1)]) (rest := []) ⟨hx, hb, hml, hown, hts⟩ (c_X10_inCell l D am cy μ n t (by first | exact hM | exact hi_0 | (repeat first | exact hM | exact hi_0 | refine MS.st0 ?_ | refine MS.st ?_ (by omega))) r c1) (cwV 2 hts gX10_mayMove_X10_inCell rfl rfl rfl (by decide +kernel) ⟨Nat.le_of_ble_eq_true rfl, Nat.le_of_ble_eq_true rfl⟩) (sp_preV hK hP (κ := 0) (by decide) mE_0 rfl) rfl rfl hl.1 rfl (lv_room (Nat.le_of_ble_eq_true rfl)) dX10_mayMove_28 ⟨Nat.le_of_ble_eq_true rfl, Nat.le_of_ble_eq_true rfl⟩) ?_
      rcases opt_em (m_cell (μ 1) n r c1) with q_3 | ⟨j_4, q_3⟩
      · refine W.eq (g2 := F0 m 31 ls [.int ((-1))]) (by rw [q_3]; rfl) ?_
        refine lv_if_ge (tgt := 38) hx hb dX10_mayMove_31 (by decide) (fun c_5 => ?_) (fun c_5 => ?_)
        · exact absurd c_5 (by decide)
        · skip
          refine lv_iconst (v := 1) hx hb dX10_mayMove_34 (by decide) ?_
          refine lv_goto (tgt := 39) hx hb dX10_mayMove_35 (by decide) ?_
          exact W.zret (v := 1) hx hb hr (by decide) (fun T9 hT9 _ => ⟨congrArg (fun z9 => Outcome.returned (some (Value.int z9))) (show (1 : Int32) = b2i (m_may (μ 1) n a r c1) from (by first | rfl | (simp [m_may, b2i, c_1, c_2, c_2d, q_3]; done))), hT9⟩) (fun _ h => by cases h) dX10_mayMove_39
      · have hj_4 := m_cell_lt q_3
        refine W.eq (g2 := F0 m 31 ls [.int (nI j_4)]) (by rw [q_3]; rfl) ?_
        refine lv_if_ge (tgt := 38) hx hb dX10_mayMove_31 (by decide) (fun c_6 => ?_) (fun c_6 => ?_)
        · skip
          have c_6d := Int32.not_lt.mpr c_6
          refine lv_iconst (v := 0) hx hb dX10_mayMove_38 (by decide) ?_
          exact W.zret (v := 0) hx hb hr (by decide) (fun T9 hT9 _ => ⟨congrArg (fun z9 => Outcome.returned (some (Value.int z9))) (show (0 : Int32) = b2i (m_may (μ 1) n a r c1) from (by first | rfl | (simp [m_may, b2i, c_1, c_2, c_2d, q_3, c_6, c_6d]; done))), hT9⟩) (fun _ h => by cases h) dX10_mayMove_39
        · exact absurd (Int32.not_lt.mp (nI_pos (by omega))) c_6

set_option maxHeartbeats 4000000 in
set_option maxRecDepth 100000 in
theorem c_X10_canMove (l : Launch) (D : va_G) (am : Nat → Nat) (cy : Nat → ClassId) (μ : Nat → Nat → Int32) (sz : Nat) (hi : sp_inj am 5) (n : Nat) (t : Nat) (hM : MS (μ 1) n t) (x : Int32) (r : Int32) (c1 : Int32) : Met l yX10_canMove wsX10_canMove ({ frames := 3, cells := 0, slots := 0, locals := 68 } : Room) (sp_Pm D (tyG cy) sz [.ref (am (0)), .int (x), .int (r), .int (c1)] (mW am cy μ)) (sp_Q D (some (.int (b2i (atO (m_find (μ 1) n x) false (fun k => m_isCell r c1 && m_may (μ 1) n k r c1))))) (mW am cy (sp_st μ 0 0 (atO (m_find (μ 1) n x) 1 (fun _ => if m_isCell r c1 = true then 0 else 1)))) (sp_A am 5 sz)) 0 0 (sp_A am 5 sz) := by
  refine Met.ofW (cc := cX10_canMove) (maxL := 5) (ret := (some .boolean)) (by decide) rfl ?_
  intro p e s m args below meth c s₁ B hml hv
  obtain ⟨rfl, hsz, hP, hK⟩ := hv
  have hx := B.exec
  have hb := B.bytes
  have hr := B.returns
  have hts := atoms_spec (ws := wsX10_canMove) B.pre
  have hown : s.vm.findClass RX10 = some m.cls := findClass_of_methodNamed B.named
  have hlocks := B.notSynchronized
  subst hsz
  have hS : va_S (sp_A am 5 s.heap.size) s.heap s.heap [] := va_S.rf
  have hAk : ∀ k, k < 5 → (sp_A am 5 s.heap.size) (am k) := fun k hk => Or.inl ⟨k, hk, rfl⟩
  skip
  have hn30 := hM.2.1
  have ht6 := hM.2.2.2
  have hl := lv_entry ([.ref (am (0)), .int (x), .int (r), .int (c1)]) (n := 5) (Nat.le_of_ble_eq_true rfl)
  refine W.eq (lg_entry_eq _ ([.ref (am (0)), .int (x), .int (r), .int (c1)]) _) ?_
  generalize (lg_sl ([.ref (am (0)), .int (x), .int (r), .int (c1)]) ++ List.replicate (5 - (lg_sl ([.ref (am (0)), .int (x), .int (r), .int (c1)])).length) Slot.unset).toArray = ls at hl ⊢
  have hl : lv_has ls 5 [(0, .ref (am (0))), (1, .int (x)), (2, .int (r)), (3, .int (c1))] := hl
  refine lv_aload_n hx hb dX10_canMove_0 rfl (lv_at hl 0 rfl) ?_
  refine lv_iload_n hx hb dX10_canMove_1 rfl (lv_at hl 1 rfl) ?_
  refine sp_call (W.runV (As := [.int (x)]) (rest := []) ⟨hx, hb, hml, hown, hts⟩ (c_X10_find l D am cy μ n t (by first | exact hM | exact hi_0 | (repeat first | exact hM | exact hi_0 | refine MS.st0 ?_ | refine MS.st ?_ (by omega))) x) (cwV 1 hts gX10_canMove_X10_find rfl rfl rfl (by decide +kernel) ⟨Nat.le_of_ble_eq_true rfl, Nat.le_of_ble_eq_true rfl⟩) (sp_preV hK hP (κ := 0) (by decide) mE_0 rfl) rfl rfl hl.1 rfl (lv_room (Nat.le_of_ble_eq_true rfl)) dX10_canMove_2 ⟨Nat.le_of_ble_eq_true rfl, Nat.le_of_ble_eq_true rfl⟩) ?_
  rcases opt_em (m_find (μ 1) n x) with q_1 | ⟨j_2, q_1⟩
  · refine W.eq (g2 := F0 m 5 ls [.int ((-1))]) (by rw [q_1]; rfl) ?_
    refine lv_istore (lv' := [(4, .int ((-1))), (0, .ref (am (0))), (1, .int (x)), (2, .int (r)), (3, .int (c1))]) hx hb dX10_canMove_5 hl (by decide) rfl (fun ls hl => ?_)
    refine lv_aload_n hx hb dX10_canMove_7 rfl (lv_at hl 1 rfl) ?_
    refine lv_iload hx hb dX10_canMove_8 (lv_at hl 0 rfl) ?_
    refine lv_if_lt (tgt := 25) hx hb dX10_canMove_10 (by decide) (fun c_3 => ?_) (fun c_3 => ?_)
    · skip
      refine lv_iconst (v := 0) hx hb dX10_canMove_25 (by decide) ?_
      refine sp_callm (va_runV (As := [.int (0)]) (rest := []) ⟨hx, hb, hml, hown, hts⟩ (c_X10_isFine_0 l D am cy μ _ hi ) (cwV 1 hts gX10_canMove_X10_isFine rfl rfl rfl (by decide +kernel) ⟨Nat.le_of_ble_eq_true rfl, Nat.le_of_ble_eq_true rfl⟩) (sp_preVm hK hP (κ := 0) (by decide) mE_0 rfl) rfl rfl hl.1 rfl (lv_room (Nat.le_of_ble_eq_true rfl)) dX10_canMove_26 ⟨Nat.le_of_ble_eq_true rfl, Nat.le_of_ble_eq_true rfl⟩) hS (fun q h1 h2 => sp_Alt h1 h2) (sp_Ale hS.1) (fun H locs hP hle hfr hS => ?_)
      refine W.eq (g2 := F0 m 29 ls [.int (0)]) rfl ?_
      refine lv_if_eq (tgt := 47) hx hb dX10_canMove_29 (by decide) (fun c_4 => ?_) (fun c_4 => ?_)
      · skip
        refine lv_iconst (v := 0) hx hb dX10_canMove_47 (by decide) ?_
        have hE9 : mW am cy (sp_st μ 0 0 1) = mW am cy (sp_st μ 0 0 (atO (m_find (μ 1) n x) 1 (fun _ => if m_isCell r c1 = true then 0 else 1))) := by exact mW_eq (by simp [atO, b2i, atO, q_1])
        have hP : va_P D vwCl (mW am cy (sp_st μ 0 0 (atO (m_find (μ 1) n x) 1 (fun _ => if m_isCell r c1 = true then 0 else 1)))) H := by rw [← hE9]; exact hP
        exact W.zret (v := 0) hx hb hr (by decide) (fun T9 hT9 _ => ⟨congrArg (fun z9 => Outcome.returned (some (Value.int z9))) (show (0 : Int32) = b2i (atO (m_find (μ 1) n x) false (fun k => m_isCell r c1 && m_may (μ 1) n k r c1)) from (by first | rfl | (simp [atO, b2i, q_1]; done))), by rw [hT9]; exact hP, hS.F hT9⟩) hS.2.2 dX10_canMove_48
      · exact absurd c_4 (by decide)
    · exact absurd c_3 (by decide)
  · have hj_2 := m_find_lt q_1
    refine W.eq (g2 := F0 m 5 ls [.int (nI j_2)]) (by rw [q_1]; rfl) ?_
    refine lv_istore (lv' := [(4, .int (nI j_2)), (0, .ref (am (0))), (1, .int (x)), (2, .int (r)), (3, .int (c1))]) hx hb dX10_canMove_5 hl (by decide) rfl (fun ls hl => ?_)
    refine lv_aload_n hx hb dX10_canMove_7 rfl (lv_at hl 1 rfl) ?_
    refine lv_iload hx hb dX10_canMove_8 (lv_at hl 0 rfl) ?_
    refine lv_if_lt (tgt := 25) hx hb dX10_canMove_10 (by decide) (fun c_5 => ?_) (fun c_5 => ?_)
    · exact absurd c_5 (nI_pos (by omega))
    · skip
      have c_5d := Int32.not_lt.mp c_5
      refine lv_iload_n hx hb dX10_canMove_13 rfl (lv_at hl 3 rfl) ?_
      refine lv_iload_n hx hb dX10_canMove_14 rfl (lv_at hl 4 rfl) ?_
      refine sp_call (W.runS (As := [.int (r), .int (c1)]) (rest := [.ref (am (0))]) ⟨hx, hb, hml, hown, hts⟩ (c_X10_isCell l D am cy μ r c1) (va_cwS 2 hts gX10_canMove_X10_isCell rfl rfl rfl (by decide +kernel) ⟨Nat.le_of_ble_eq_true rfl, Nat.le_of_ble_eq_true rfl⟩) (sp_preS hK hP) rfl rfl hl.1 rfl (lv_room (Nat.le_of_ble_eq_true rfl)) dX10_canMove_15 ⟨Nat.le_of_ble_eq_true rfl, Nat.le_of_ble_eq_true rfl⟩) ?_
      refine W.eq (g2 := F0 m 18 ls [.int (b2i (m_isCell r c1)), .ref (am (0))]) rfl ?_
      refine lv_if_eq (tgt := 25) hx hb dX10_canMove_18 (by decide) (fun c_6 => ?_) (fun c_6 => ?_)
      · rw [b2i_eq0] at c_6
        refine lv_iconst (v := 0) hx hb dX10_canMove_25 (by decide) ?_
        refine sp_callm (va_runV (As := [.int (0)]) (rest := []) ⟨hx, hb, hml, hown, hts⟩ (c_X10_isFine_0 l D am cy μ _ hi ) (cwV 1 hts gX10_canMove_X10_isFine rfl rfl rfl (by decide +kernel) ⟨Nat.le_of_ble_eq_true rfl, Nat.le_of_ble_eq_true rfl⟩) (sp_preVm hK hP (κ := 0) (by decide) mE_0 rfl) rfl rfl hl.1 rfl (lv_room (Nat.le_of_ble_eq_true rfl)) dX10_canMove_26 ⟨Nat.le_of_ble_eq_true rfl, Nat.le_of_ble_eq_true rfl⟩) hS (fun q h1 h2 => sp_Alt h1 h2) (sp_Ale hS.1) (fun H locs hP hle hfr hS => ?_)
        refine W.eq (g2 := F0 m 29 ls [.int (0)]) rfl ?_
        refine lv_if_eq (tgt := 47) hx hb dX10_canMove_29 (by decide) (fun c_7 => ?_) (fun c_7 => ?_)
        · skip
          refine lv_iconst (v := 0) hx hb dX10_canMove_47 (by decide) ?_
          have hE9 : mW am cy (sp_st μ 0 0 1) = mW am cy (sp_st μ 0 0 (atO (m_find (μ 1) n x) 1 (fun _ => if m_isCell r c1 = true then 0 else 1))) := by exact mW_eq (by simp [atO, b2i, atO, q_1, c_5, c_5d, c_6])
          have hP : va_P D vwCl (mW am cy (sp_st μ 0 0 (atO (m_find (μ 1) n x) 1 (fun _ => if m_isCell r c1 = true then 0 else 1)))) H := by rw [← hE9]; exact hP
          exact W.zret (v := 0) hx hb hr (by decide) (fun T9 hT9 _ => ⟨congrArg (fun z9 => Outcome.returned (some (Value.int z9))) (show (0 : Int32) = b2i (atO (m_find (μ 1) n x) false (fun k => m_isCell r c1 && m_may (μ 1) n k r c1)) from (by first | rfl | (simp [atO, b2i, q_1, c_5, c_5d, c_6]; done))), by rw [hT9]; exact hP, hS.F hT9⟩) hS.2.2 dX10_canMove_48
        · exact absurd c_7 (by decide)
      · rw [b2i_eq0] at c_6
        refine lv_iconst (v := 1) hx hb dX10_canMove_21 (by decide) ?_
        refine lv_goto (tgt := 26) hx hb dX10_canMove_22 (by decide) ?_
        refine sp_callm (va_runV (As := [.int (1)]) (rest := []) ⟨hx, hb, hml, hown, hts⟩ (c_X10_isFine_1 l D am cy μ _ hi ) (cwV 1 hts gX10_canMove_X10_isFine rfl rfl rfl (by decide +kernel) ⟨Nat.le_of_ble_eq_true rfl, Nat.le_of_ble_eq_true rfl⟩) (sp_preVm hK hP (κ := 0) (by decide) mE_0 rfl) rfl rfl hl.1 rfl (lv_room (Nat.le_of_ble_eq_true rfl)) dX10_canMove_26 ⟨Nat.le_of_ble_eq_true rfl, Nat.le_of_ble_eq_true rfl⟩) hS (fun q h1 h2 => sp_Alt h1 h2) (sp_Ale hS.1) (fun H locs hP hle hfr hS => ?_)
        refine W.eq (g2 := F0 m 29 ls [.int (1)]) rfl ?_
        refine lv_if_eq (tgt := 47) hx hb dX10_canMove_29 (by decide) (fun c_8 => ?_) (fun c_8 => ?_)
        · exact absurd c_8 (by decide)
        · skip
          refine lv_aload_n hx hb dX10_canMove_32 rfl (lv_at hl 1 rfl) ?_
          refine lv_iload hx hb dX10_canMove_33 (lv_at hl 0 rfl) ?_
          refine lv_iload_n hx hb dX10_canMove_35 rfl (lv_at hl 3 rfl) ?_
          refine lv_iload_n hx hb dX10_canMove_36 rfl (lv_at hl 4 rfl) ?_
          refine sp_call (W.runV (As := [.int (nI j_2), .int (r), .int (c1)]) (rest := []) ⟨hx, hb, hml, hown, hts⟩ (c_X10_mayMove l D am cy (sp_st μ 0 0 0) n t (by first | exact hM | exact hi_0 | (repeat first | exact hM | exact hi_0 | refine MS.st0 ?_ | refine MS.st ?_ (by omega))) j_2 (by omega) r c1) (cwV 3 hts gX10_canMove_X10_mayMove rfl rfl rfl (by decide +kernel) ⟨Nat.le_of_ble_eq_true rfl, Nat.le_of_ble_eq_true rfl⟩) (sp_preV hK hP (κ := 0) (by decide) mE_0 rfl) rfl rfl hl.1 rfl (lv_room (Nat.le_of_ble_eq_true rfl)) dX10_canMove_37 ⟨Nat.le_of_ble_eq_true rfl, Nat.le_of_ble_eq_true rfl⟩) ?_
          refine W.eq (g2 := F0 m 40 ls [.int (b2i (m_may ((sp_st μ 0 0 0) 1) n j_2 r c1))]) rfl ?_
          refine W.eq (g2 := F0 m 40 ls [.int (b2i (m_may (μ 1) n j_2 r c1))]) (by rw [st0_1 μ 0 0]) ?_
          refine lv_if_eq (tgt := 47) hx hb dX10_canMove_40 (by decide) (fun c_9 => ?_) (fun c_9 => ?_)
          · rw [b2i_eq0] at c_9
            refine lv_iconst (v := 0) hx hb dX10_canMove_47 (by decide) ?_
            have hE9 : mW am cy (sp_st μ 0 0 0) = mW am cy (sp_st μ 0 0 (atO (m_find (μ 1) n x) 1 (fun _ => if m_isCell r c1 = true then 0 else 1))) := by exact mW_eq (by simp [atO, b2i, atO, q_1, c_5, c_5d, c_6, c_9])
            have hP : va_P D vwCl (mW am cy (sp_st μ 0 0 (atO (m_find (μ 1) n x) 1 (fun _ => if m_isCell r c1 = true then 0 else 1)))) H := by rw [← hE9]; exact hP
            exact W.zret (v := 0) hx hb hr (by decide) (fun T9 hT9 _ => ⟨congrArg (fun z9 => Outcome.returned (some (Value.int z9))) (show (0 : Int32) = b2i (atO (m_find (μ 1) n x) false (fun k => m_isCell r c1 && m_may (μ 1) n k r c1)) from (by first | rfl | (simp [atO, b2i, q_1, c_5, c_5d, c_6, c_9]; done))), by rw [hT9]; exact hP, hS.F hT9⟩) hS.2.2 dX10_canMove_48
          · rw [b2i_eq0] at c_9
            refine lv_iconst (v := 1) hx hb dX10_canMove_43 (by decide) ?_
            refine lv_goto (tgt := 48) hx hb dX10_canMove_44 (by decide) ?_
            have hE9 : mW am cy (sp_st μ 0 0 0) = mW am cy (sp_st μ 0 0 (atO (m_find (μ 1) n x) 1 (fun _ => if m_isCell r c1 = true then 0 else 1))) := by exact mW_eq (by simp [atO, b2i, atO, q_1, c_5, c_5d, c_6, c_9])
            have hP : va_P D vwCl (mW am cy (sp_st μ 0 0 (atO (m_find (μ 1) n x) 1 (fun _ => if m_isCell r c1 = true then 0 else 1)))) H := by rw [← hE9]; exact hP
            exact W.zret (v := 1) hx hb hr (by decide) (fun T9 hT9 _ => ⟨congrArg (fun z9 => Outcome.returned (some (Value.int z9))) (show (1 : Int32) = b2i (atO (m_find (μ 1) n x) false (fun k => m_isCell r c1 && m_may (μ 1) n k r c1)) from (by first | rfl | (simp [atO, b2i, q_1, c_5, c_5d, c_6, c_9]; done))), by rw [hT9]; exact hP, hS.F hT9⟩) hS.2.2 dX10_canMove_48

theorem wi_X10_printIn_X10 : ∀ w ∈ wsX100, w ∈ wsX10_printIn := by decide +kernel
set_option maxHeartbeats 4000000 in
set_option maxRecDepth 100000 in
theorem c_X10_printIn (l : Launch) (D : va_G) (am : Nat → Nat) (cy : Nat → ClassId) (μ : Nat → Nat → Int32) (sz : Nat) (hi : sp_inj am 5) (n : Nat) (t : Nat) (hM : MS (μ 1) n t) (r : Int32) (c1 : Int32) : Met l yX10_printIn wsX10_printIn ({ frames := 2, cells := 0, slots := 0, locals := 45 } : Room) (sp_Pm D (tyG cy) sz [.ref (am (0)), .int (r), .int (c1)] (mW am cy μ)) (sp_Q D (some (.int (if m_isCell r c1 = true then atO (m_cell (μ 1) n r c1) 0 (fun k => gP (μ 1) k 0) else 0))) (mW am cy (sp_st μ 0 0 (if m_isCell r c1 = true then atO (m_cell (μ 1) n r c1) 2 (fun _ => 0) else 1))) (sp_A am 5 sz)) 0 0 (sp_A am 5 sz) := by
  refine Met.ofW (cc := cX10_printIn) (maxL := 4) (ret := (some .int)) (by decide) rfl ?_
  intro p e s m args below meth c s₁ B hml hv
  obtain ⟨rfl, hsz, hP, hK⟩ := hv
  have hx := B.exec
  have hb := B.bytes
  have hr := B.returns
  have hts := atoms_spec (ws := wsX10_printIn) B.pre
  have hown : s.vm.findClass RX10 = some m.cls := findClass_of_methodNamed B.named
  have hlocks := B.notSynchronized
  subst hsz
  have hS : va_S (sp_A am 5 s.heap.size) s.heap s.heap [] := va_S.rf
  have hAk : ∀ k, k < 5 → (sp_A am 5 s.heap.size) (am k) := fun k hk => Or.inl ⟨k, hk, rfl⟩
  skip
  have hn30 := hM.2.1
  have ht6 := hM.2.2.2
  have hl := lv_entry ([.ref (am (0)), .int (r), .int (c1)]) (n := 4) (Nat.le_of_ble_eq_true rfl)
  refine W.eq (lg_entry_eq _ ([.ref (am (0)), .int (r), .int (c1)]) _) ?_
  generalize (lg_sl ([.ref (am (0)), .int (r), .int (c1)]) ++ List.replicate (4 - (lg_sl ([.ref (am (0)), .int (r), .int (c1)])).length) Slot.unset).toArray = ls at hl ⊢
  have hl : lv_has ls 4 [(0, .ref (am (0))), (1, .int (r)), (2, .int (c1))] := hl
  refine lv_aload_n hx hb dX10_printIn_0 rfl (lv_at hl 0 rfl) ?_
  refine lv_iload_n hx hb dX10_printIn_1 rfl (lv_at hl 1 rfl) ?_
  refine lv_iload_n hx hb dX10_printIn_2 rfl (lv_at hl 2 rfl) ?_
  refine sp_call (W.runV (As := [.int (r), .int (c1)]) (rest := []) ⟨hx, hb, hml, hown, hts⟩ (c_X10_inCell l D am cy μ n t (by first | exact hM | exact hi_0 | (repeat first | exact hM | exact hi_0 | refine MS.st0 ?_ | refine MS.st ?_ (by omega))) r c1) (cwV 2 hts gX10_printIn_X10_inCell rfl rfl rfl (by decide +kernel) ⟨Nat.le_of_ble_eq_true rfl, Nat.le_of_ble_eq_true rfl⟩) (sp_preV hK hP (κ := 0) (by decide) mE_0 rfl) rfl rfl hl.1 rfl (lv_room (Nat.le_of_ble_eq_true rfl)) dX10_printIn_3 ⟨Nat.le_of_ble_eq_true rfl, Nat.le_of_ble_eq_true rfl⟩) ?_
  rcases opt_em (m_cell (μ 1) n r c1) with q_1 | ⟨j_2, q_1⟩
  · refine W.eq (g2 := F0 m 6 ls [.int ((-1))]) (by rw [q_1]; rfl) ?_
    refine lv_istore_n (lv' := [(3, .int ((-1))), (0, .ref (am (0))), (1, .int (r)), (2, .int (c1))]) hx hb dX10_printIn_6 rfl hl (by decide) rfl (fun ls hl => ?_)
    refine lv_aload_n hx hb dX10_printIn_7 rfl (lv_at hl 1 rfl) ?_
    refine lv_iload_n hx hb dX10_printIn_8 rfl (lv_at hl 2 rfl) ?_
    refine lv_iload_n hx hb dX10_printIn_9 rfl (lv_at hl 3 rfl) ?_
    refine sp_call (W.runS (As := [.int (r), .int (c1)]) (rest := [.ref (am (0))]) ⟨hx, hb, hml, hown, hts⟩ (c_X10_isCell l D am cy μ r c1) (va_cwS 2 hts gX10_printIn_X10_isCell rfl rfl rfl (by decide +kernel) ⟨Nat.le_of_ble_eq_true rfl, Nat.le_of_ble_eq_true rfl⟩) (sp_preS hK hP) rfl rfl hl.1 rfl (lv_room (Nat.le_of_ble_eq_true rfl)) dX10_printIn_10 ⟨Nat.le_of_ble_eq_true rfl, Nat.le_of_ble_eq_true rfl⟩) ?_
    refine W.eq (g2 := F0 m 13 ls [.int (b2i (m_isCell r c1)), .ref (am (0))]) rfl ?_
    refine lv_if_ne (tgt := 20) hx hb dX10_printIn_13 (by decide) (fun c_3 => ?_) (fun c_3 => ?_)
    · rw [b2i_eq0] at c_3
      refine lv_iload_n hx hb dX10_printIn_20 rfl (lv_at hl 0 rfl) ?_
      refine lv_if_ge (tgt := 28) hx hb dX10_printIn_21 (by decide) (fun c_4 => ?_) (fun c_4 => ?_)
      · exact absurd c_4 (by decide)
      · skip
        refine lv_iconst (v := 2) hx hb dX10_printIn_24 (by decide) ?_
        refine lv_goto (tgt := 29) hx hb dX10_printIn_25 (by decide) ?_
        refine sp_put hx hb hts wi_X10_printIn_X10 tyX10 tyX10_ok nmX10 hown hK hP hi hAk hS (κ := 0) (by decide) mE_0 rfl 0 (by decide) (hts _ (List.mem_of_getElem? (i := 1) rfl)) (fun _ h => h) rfl (ty := tyX10 0) (by decide +kernel) ⟨rfl, rfl⟩ (Nat.le_of_ble_eq_true rfl) (r1 := upd (μ 0) 0 2) (cE_of mE_0 (by simp [upd])) dX10_printIn_29 (fun H locs hP hS => ?_)
        have hP : va_P D vwCl (mW am cy (sp_st μ 0 0 2)) H := hP
        refine lv_aload_n hx hb dX10_printIn_32 rfl (lv_at hl 1 rfl) ?_
        refine sp_get hx hb hts wi_X10_printIn_X10 hown hK hP (κ := 0) (by decide) mE_0 rfl 0 (by decide) (hts _ (List.mem_of_getElem? (i := 1) rfl)) (fun _ h => h) rfl dX10_printIn_33 ?_
        refine W.eq (g2 := F0 m 36 ls [.int (2)]) (by rw [sp_st_s]) ?_
        refine lv_if_ne (tgt := 48) hx hb dX10_printIn_36 (by decide) (fun c_5 => ?_) (fun c_5 => ?_)
        · skip
          refine lv_iconst (v := 0) hx hb dX10_printIn_48 (by decide) ?_
          have hE9 : mW am cy (sp_st μ 0 0 2) = mW am cy (sp_st μ 0 0 (if m_isCell r c1 = true then atO (m_cell (μ 1) n r c1) 2 (fun _ => 0) else 1)) := by exact mW_eq (by simp [atO, b2i, atO, q_1, c_3])
          have hP : va_P D vwCl (mW am cy (sp_st μ 0 0 (if m_isCell r c1 = true then atO (m_cell (μ 1) n r c1) 2 (fun _ => 0) else 1))) H := by rw [← hE9]; exact hP
          exact W.iret (v := 0) hx hb hr (fun T9 hT9 _ => ⟨congrArg (fun z9 => Outcome.returned (some (Value.int z9))) (show (0 : Int32) = if m_isCell r c1 = true then atO (m_cell (μ 1) n r c1) 0 (fun k => gP (μ 1) k 0) else 0 from (by first | rfl | (simp [atO, b2i, q_1, c_3]; done))), by rw [hT9]; exact hP, hS.F hT9⟩) hS.2.2 dX10_printIn_49
        · exact absurd c_5 (by decide)
    · rw [b2i_eq0] at c_3
      refine lv_iconst (v := 1) hx hb dX10_printIn_16 (by decide) ?_
      refine lv_goto (tgt := 29) hx hb dX10_printIn_17 (by decide) ?_
      refine sp_put hx hb hts wi_X10_printIn_X10 tyX10 tyX10_ok nmX10 hown hK hP hi hAk hS (κ := 0) (by decide) mE_0 rfl 0 (by decide) (hts _ (List.mem_of_getElem? (i := 1) rfl)) (fun _ h => h) rfl (ty := tyX10 0) (by decide +kernel) ⟨rfl, rfl⟩ (Nat.le_of_ble_eq_true rfl) (r1 := upd (μ 0) 0 1) (cE_of mE_0 (by simp [upd])) dX10_printIn_29 (fun H locs hP hS => ?_)
      have hP : va_P D vwCl (mW am cy (sp_st μ 0 0 1)) H := hP
      refine lv_aload_n hx hb dX10_printIn_32 rfl (lv_at hl 1 rfl) ?_
      refine sp_get hx hb hts wi_X10_printIn_X10 hown hK hP (κ := 0) (by decide) mE_0 rfl 0 (by decide) (hts _ (List.mem_of_getElem? (i := 1) rfl)) (fun _ h => h) rfl dX10_printIn_33 ?_
      refine W.eq (g2 := F0 m 36 ls [.int (1)]) (by rw [sp_st_s]) ?_
      refine lv_if_ne (tgt := 48) hx hb dX10_printIn_36 (by decide) (fun c_6 => ?_) (fun c_6 => ?_)
      · skip
        refine lv_iconst (v := 0) hx hb dX10_printIn_48 (by decide) ?_
        have hE9 : mW am cy (sp_st μ 0 0 1) = mW am cy (sp_st μ 0 0 (if m_isCell r c1 = true then atO (m_cell (μ 1) n r c1) 2 (fun _ => 0) else 1)) := by exact mW_eq (by simp [atO, b2i, atO, q_1, c_3])
        have hP : va_P D vwCl (mW am cy (sp_st μ 0 0 (if m_isCell r c1 = true then atO (m_cell (μ 1) n r c1) 2 (fun _ => 0) else 1))) H := by rw [← hE9]; exact hP
        exact W.iret (v := 0) hx hb hr (fun T9 hT9 _ => ⟨congrArg (fun z9 => Outcome.returned (some (Value.int z9))) (show (0 : Int32) = if m_isCell r c1 = true then atO (m_cell (μ 1) n r c1) 0 (fun k => gP (μ 1) k 0) else 0 from (by first | rfl | (simp [atO, b2i, q_1, c_3]; done))), by rw [hT9]; exact hP, hS.F hT9⟩) hS.2.2 dX10_printIn_49
      · exact absurd c_6 (by decide)
  · have hj_2 := m_cell_lt q_1
    refine W.eq (g2 := F0 m 6 ls [.int (nI j_2)]) (by rw [q_1]; rfl) ?_
    refine lv_istore_n (lv' := [(3, .int (nI j_2)), (0, .ref (am (0))), (1, .int (r)), (2, .int (c1))]) hx hb dX10_printIn_6 rfl hl (by decide) rfl (fun ls hl => ?_)
    refine lv_aload_n hx hb dX10_printIn_7 rfl (lv_at hl 1 rfl) ?_
    refine lv_iload_n hx hb dX10_printIn_8 rfl (lv_at hl 2 rfl) ?_
    refine lv_iload_n hx hb dX10_printIn_9 rfl (lv_at hl 3 rfl) ?_
    refine sp_call (W.runS (As := [.int (r), .int (c1)]) (rest := [.ref (am (0))]) ⟨hx, hb, hml, hown, hts⟩ (c_X10_isCell l D am cy μ r c1) (va_cwS 2 hts gX10_printIn_X10_isCell rfl rfl rfl (by decide +kernel) ⟨Nat.le_of_ble_eq_true rfl, Nat.le_of_ble_eq_true rfl⟩) (sp_preS hK hP) rfl rfl hl.1 rfl (lv_room (Nat.le_of_ble_eq_true rfl)) dX10_printIn_10 ⟨Nat.le_of_ble_eq_true rfl, Nat.le_of_ble_eq_true rfl⟩) ?_
    refine W.eq (g2 := F0 m 13 ls [.int (b2i (m_isCell r c1)), .ref (am (0))]) rfl ?_
    refine lv_if_ne (tgt := 20) hx hb dX10_printIn_13 (by decide) (fun c_7 => ?_) (fun c_7 => ?_)
    · rw [b2i_eq0] at c_7
      refine lv_iload_n hx hb dX10_printIn_20 rfl (lv_at hl 0 rfl) ?_
      refine lv_if_ge (tgt := 28) hx hb dX10_printIn_21 (by decide) (fun c_8 => ?_) (fun c_8 => ?_)
      · skip
        have c_8d := Int32.not_lt.mpr c_8
        refine lv_iconst (v := 0) hx hb dX10_printIn_28 (by decide) ?_
        refine sp_put hx hb hts wi_X10_printIn_X10 tyX10 tyX10_ok nmX10 hown hK hP hi hAk hS (κ := 0) (by decide) mE_0 rfl 0 (by decide) (hts _ (List.mem_of_getElem? (i := 1) rfl)) (fun _ h => h) rfl (ty := tyX10 0) (by decide +kernel) ⟨rfl, rfl⟩ (Nat.le_of_ble_eq_true rfl) (r1 := upd (μ 0) 0 0) (cE_of mE_0 (by simp [upd])) dX10_printIn_29 (fun H locs hP hS => ?_)
        have hP : va_P D vwCl (mW am cy (sp_st μ 0 0 0)) H := hP
        refine lv_aload_n hx hb dX10_printIn_32 rfl (lv_at hl 1 rfl) ?_
        refine sp_get hx hb hts wi_X10_printIn_X10 hown hK hP (κ := 0) (by decide) mE_0 rfl 0 (by decide) (hts _ (List.mem_of_getElem? (i := 1) rfl)) (fun _ h => h) rfl dX10_printIn_33 ?_
        refine W.eq (g2 := F0 m 36 ls [.int (0)]) (by rw [sp_st_s]) ?_
        refine lv_if_ne (tgt := 48) hx hb dX10_printIn_36 (by decide) (fun c_9 => ?_) (fun c_9 => ?_)
        · exact absurd c_9 (by decide)
        · skip
          refine lv_aload_n hx hb dX10_printIn_39 rfl (lv_at hl 1 rfl) ?_
          refine lv_iload_n hx hb dX10_printIn_40 rfl (lv_at hl 0 rfl) ?_
          refine lv_iconst (v := 0) hx hb dX10_printIn_41 (by decide) ?_
          refine sp_call (W.runV (As := [.int (nI j_2), .int (0)]) (rest := []) ⟨hx, hb, hml, hown, hts⟩ (c_X10_p l D am cy (sp_st μ 0 0 0) j_2 (by omega) 0 (by omega)) (cwV 2 hts gX10_printIn_X10_p rfl rfl rfl (by decide +kernel) ⟨Nat.le_of_ble_eq_true rfl, Nat.le_of_ble_eq_true rfl⟩) (sp_preV hK hP (κ := 0) (by decide) mE_0 rfl) rfl rfl hl.1 rfl (lv_room (Nat.le_of_ble_eq_true rfl)) dX10_printIn_42 ⟨Nat.le_of_ble_eq_true rfl, Nat.le_of_ble_eq_true rfl⟩) ?_
          refine W.eq (g2 := F0 m 45 ls [.int (gP ((sp_st μ 0 0 0) 1) j_2 0)]) rfl ?_
          refine W.eq (g2 := F0 m 45 ls [.int (gP (μ 1) j_2 0)]) (by rw [st0_1 μ 0 0]) ?_
          refine lv_goto (tgt := 49) hx hb dX10_printIn_45 (by decide) ?_
          have hE9 : mW am cy (sp_st μ 0 0 0) = mW am cy (sp_st μ 0 0 (if m_isCell r c1 = true then atO (m_cell (μ 1) n r c1) 2 (fun _ => 0) else 1)) := by exact mW_eq (by simp [atO, b2i, atO, q_1, c_7, c_8, c_8d])
          have hP : va_P D vwCl (mW am cy (sp_st μ 0 0 (if m_isCell r c1 = true then atO (m_cell (μ 1) n r c1) 2 (fun _ => 0) else 1))) H := by rw [← hE9]; exact hP
          exact W.iret (v := gP (μ 1) j_2 0) hx hb hr (fun T9 hT9 _ => ⟨congrArg (fun z9 => Outcome.returned (some (Value.int z9))) (show (gP (μ 1) j_2 0 : Int32) = if m_isCell r c1 = true then atO (m_cell (μ 1) n r c1) 0 (fun k => gP (μ 1) k 0) else 0 from (by first | rfl | (simp [atO, b2i, q_1, c_7, c_8, c_8d]; done))), by rw [hT9]; exact hP, hS.F hT9⟩) hS.2.2 dX10_printIn_49
      · exact absurd (Int32.not_lt.mp (nI_pos (by omega))) c_8
    · rw [b2i_eq0] at c_7
      refine lv_iconst (v := 1) hx hb dX10_printIn_16 (by decide) ?_
      refine lv_goto (tgt := 29) hx hb dX10_printIn_17 (by decide) ?_
      refine sp_put hx hb hts wi_X10_printIn_X10 tyX10 tyX10_ok nmX10 hown hK hP hi hAk hS (κ := 0) (by decide) mE_0 rfl 0 (by decide) (hts _ (List.mem_of_getElem? (i := 1) rfl)) (fun _ h => h) rfl (ty := tyX10 0) (by decide +kernel) ⟨rfl, rfl⟩ (Nat.le_of_ble_eq_true rfl) (r1 := upd (μ 0) 0 1) (cE_of mE_0 (by simp [upd])) dX10_printIn_29 (fun H locs hP hS => ?_)
      have hP : va_P D vwCl (mW am cy (sp_st μ 0 0 1)) H := hP
      refine lv_aload_n hx hb dX10_printIn_32 rfl (lv_at hl 1 rfl) ?_
      refine sp_get hx hb hts wi_X10_printIn_X10 hown hK hP (κ := 0) (by decide) mE_0 rfl 0 (by decide) (hts _ (List.mem_of_getElem? (i := 1) rfl)) (fun _ h => h) rfl dX10_printIn_33 ?_
      refine W.eq (g2 := F0 m 36 ls [.int (1)]) (by rw [sp_st_s]) ?_
      refine lv_if_ne (tgt := 48) hx hb dX10_printIn_36 (by decide) (fun c_10 => ?_) (fun c_10 => ?_)
      · skip
        refine lv_iconst (v := 0) hx hb dX10_printIn_48 (by decide) ?_
        have hE9 : mW am cy (sp_st μ 0 0 1) = mW am cy (sp_st μ 0 0 (if m_isCell r c1 = true then atO (m_cell (μ 1) n r c1) 2 (fun _ => 0) else 1)) := by exact mW_eq (by simp [atO, b2i, atO, q_1, c_7])
        have hP : va_P D vwCl (mW am cy (sp_st μ 0 0 (if m_isCell r c1 = true then atO (m_cell (μ 1) n r c1) 2 (fun _ => 0) else 1))) H := by rw [← hE9]; exact hP
        exact W.iret (v := 0) hx hb hr (fun T9 hT9 _ => ⟨congrArg (fun z9 => Outcome.returned (some (Value.int z9))) (show (0 : Int32) = if m_isCell r c1 = true then atO (m_cell (μ 1) n r c1) 0 (fun k => gP (μ 1) k 0) else 0 from (by first | rfl | (simp [atO, b2i, q_1, c_7]; done))), by rw [hT9]; exact hP, hS.F hT9⟩) hS.2.2 dX10_printIn_49
      · exact absurd c_10 (by decide)

set_option maxHeartbeats 4000000 in
set_option maxRecDepth 100000 in
theorem c_X10_printsInRow (l : Launch) (D : va_G) (am : Nat → Nat) (cy : Nat → ClassId) (μ : Nat → Nat → Int32) (sz : Nat) (hi : sp_inj am 5) (n : Nat) (t : Nat) (hM : MS (μ 1) n t) (r : Int32) : Met l yX10_printsInRow wsX10_printsInRow ({ frames := 2, cells := 0, slots := 0, locals := 45 } : Room) (sp_Pm D (tyG cy) sz [.ref (am (0)), .int (r)] (mW am cy μ)) (sp_Q D (some (.int (if m_in r 0 9 = true then m_below (μ 1) n (r + 1) - m_below (μ 1) n r else 0))) (mW am cy (sp_st μ 0 0 (b2i (!m_in r 0 9)))) (sp_A am 5 sz)) 0 0 (sp_A am 5 sz) := by
  refine Met.ofW (cc := cX10_printsInRow) (maxL := 2) (ret := (some .int)) (by decide) rfl ?_
  intro p e s m args below meth c s₁ B hml hv
  obtain ⟨rfl, hsz, hP, hK⟩ := hv
  have hx := B.exec
  have hb := B.bytes
  have hr := B.returns
  have hts := atoms_spec (ws := wsX10_printsInRow) B.pre
  have hown : s.vm.findClass RX10 = some m.cls := findClass_of_methodNamed B.named
  have hlocks := B.notSynchronized
  subst hsz
  have hS : va_S (sp_A am 5 s.heap.size) s.heap s.heap [] := va_S.rf
  have hAk : ∀ k, k < 5 → (sp_A am 5 s.heap.size) (am k) := fun k hk => Or.inl ⟨k, hk, rfl⟩
  skip
  have hn30 := hM.2.1
  have ht6 := hM.2.2.2
  have hl := lv_entry ([.ref (am (0)), .int (r)]) (n := 2) (Nat.le_of_ble_eq_true rfl)
  refine W.eq (lg_entry_eq _ ([.ref (am (0)), .int (r)]) _) ?_
  generalize (lg_sl ([.ref (am (0)), .int (r)]) ++ List.replicate (2 - (lg_sl ([.ref (am (0)), .int (r)])).length) Slot.unset).toArray = ls at hl ⊢
  have hl : lv_has ls 2 [(0, .ref (am (0))), (1, .int (r))] := hl
  refine lv_aload_n hx hb dX10_printsInRow_0 rfl (lv_at hl 0 rfl) ?_
  refine lv_iload_n hx hb dX10_printsInRow_1 rfl (lv_at hl 1 rfl) ?_
  refine lv_iconst (v := 0) hx hb dX10_printsInRow_2 (by decide) ?_
  refine lv_bipush (v := 9) hx hb dX10_printsInRow_3 (by decide) ?_
  refine sp_call (W.runS (As := [.int (r), .int (0), .int (9)]) (rest := [.ref (am (0))]) ⟨hx, hb, hml, hown, hts⟩ (c_X10_in l D am cy μ r 0 9) (va_cwS 3 hts gX10_printsInRow_X10_in rfl rfl rfl (by decide +kernel) ⟨Nat.le_of_ble_eq_true rfl, Nat.le_of_ble_eq_true rfl⟩) (sp_preS hK hP) rfl rfl hl.1 rfl (lv_room (Nat.le_of_ble_eq_true rfl)) dX10_printsInRow_5 ⟨Nat.le_of_ble_eq_true rfl, Nat.le_of_ble_eq_true rfl⟩) ?_
  refine W.eq (g2 := F0 m 8 ls [.int (b2i (m_in r 0 9)), .ref (am (0))]) rfl ?_
  refine sp_callm (va_runV (As := [.int (b2i (m_in r 0 9))]) (rest := []) ⟨hx, hb, hml, hown, hts⟩ (c_X10_isFine_b l D am cy μ _ hi (m_in r 0 9)) (cwV 1 hts gX10_printsInRow_X10_isFine rfl rfl rfl (by decide +kernel) ⟨Nat.le_of_ble_eq_true rfl, Nat.le_of_ble_eq_true rfl⟩) (sp_preVm hK hP (κ := 0) (by decide) mE_0 rfl) rfl rfl hl.1 rfl (lv_room (Nat.le_of_ble_eq_true rfl)) dX10_printsInRow_8 ⟨Nat.le_of_ble_eq_true rfl, Nat.le_of_ble_eq_true rfl⟩) hS (fun q h1 h2 => sp_Alt h1 h2) (sp_Ale hS.1) (fun H locs hP hle hfr hS => ?_)
  refine W.eq (g2 := F0 m 11 ls [.int (b2i (m_in r 0 9))]) rfl ?_
  refine lv_if_eq (tgt := 30) hx hb dX10_printsInRow_11 (by decide) (fun c_1 => ?_) (fun c_1 => ?_)
  · rw [b2i_eq0] at c_1
    refine lv_iconst (v := 0) hx hb dX10_printsInRow_30 (by decide) ?_
    have hE9 : mW am cy (sp_st μ 0 0 (b2i (!(m_in r 0 9)))) = mW am cy (sp_st μ 0 0 (b2i (!m_in r 0 9))) := by exact mW_eq (by simp [atO, b2i, atO, c_1])
    have hP : va_P D vwCl (mW am cy (sp_st μ 0 0 (b2i (!m_in r 0 9)))) H := by rw [← hE9]; exact hP
    exact W.iret (v := 0) hx hb hr (fun T9 hT9 _ => ⟨congrArg (fun z9 => Outcome.returned (some (Value.int z9))) (show (0 : Int32) = if m_in r 0 9 = true then m_below (μ 1) n (r + 1) - m_below (μ 1) n r else 0 from (by first | rfl | (simp [atO, b2i, c_1]; done))), by rw [hT9]; exact hP, hS.F hT9⟩) hS.2.2 dX10_printsInRow_31
  · rw [b2i_eq0] at c_1
    refine lv_aload_n hx hb dX10_printsInRow_14 rfl (lv_at hl 0 rfl) ?_
    refine lv_iload_n hx hb dX10_printsInRow_15 rfl (lv_at hl 1 rfl) ?_
    refine lv_iconst (v := 1) hx hb dX10_printsInRow_16 (by decide) ?_
    refine lv_iadd hx hb dX10_printsInRow_17 ?_
    refine sp_call (W.runV (As := [.int (r + 1)]) (rest := []) ⟨hx, hb, hml, hown, hts⟩ (c_X10_belowRow l D am cy (sp_st μ 0 0 (b2i (!(m_in r 0 9)))) n t (by first | exact hM | exact hi_0 | (repeat first | exact hM | exact hi_0 | refine MS.st0 ?_ | refine MS.st ?_ (by omega))) (r + 1)) (cwV 1 hts gX10_printsInRow_X10_belowRow rfl rfl rfl (by decide +kernel) ⟨Nat.le_of_ble_eq_true rfl, Nat.le_of_ble_eq_true rfl⟩) (sp_preV hK hP (κ := 0) (by decide) mE_0 rfl) rfl rfl hl.1 rfl (lv_room (Nat.le_of_ble_eq_true rfl)) dX10_printsInRow_18 ⟨Nat.le_of_ble_eq_true rfl, Nat.le_of_ble_eq_true rfl⟩) ?_
    refine W.eq (g2 := F0 m 21 ls [.int (m_below ((sp_st μ 0 0 (b2i (!(m_in r 0 9)))) 1) n (r + 1))]) rfl ?_
    refine W.eq (g2 := F0 m 21 ls [.int (m_below (μ 1) n (r + 1))]) (by rw [st0_1 μ 0 (b2i (!(m_in r 0 9)))]) ?_
    refine lv_aload_n hx hb dX10_printsInRow_21 rfl (lv_at hl 0 rfl) ?_
    refine lv_iload_n hx hb dX10_printsInRow_22 rfl (lv_at hl 1 rfl) ?_
    refine sp_call (W.runV (As := [.int (r)]) (rest := [.int (m_below (μ 1) n (r + 1))]) ⟨hx, hb, hml, hown, hts⟩ (c_X10_belowRow l D am cy (sp_st μ 0 0 (b2i (!(m_in r 0 9)))) n t (by first | exact hM | exact hi_0 | (repeat first | exact hM | exact hi_0 | refine MS.st0 ?_ | refine MS.st ?_ (by omega))) r) (cwV 1 hts gX10_printsInRow_X10_belowRow rfl rfl rfl (by decide +kernel) ⟨Nat.le_of_ble_eq_true rfl, Nat.le_of_ble_eq_true rfl⟩) (sp_preV hK hP (κ := 0) (by decide) mE_0 rfl) rfl rfl hl.1 rfl (lv_room (Nat.le_of_ble_eq_true rfl)) dX10_printsInRow_23 ⟨Nat.le_of_ble_eq_true rfl, Nat.le_of_ble_eq_true rfl⟩) ?_
    refine W.eq (g2 := F0 m 26 ls [.int (m_below ((sp_st μ 0 0 (b2i (!(m_in r 0 9)))) 1) n r), .int (m_below (μ 1) n (r + 1))]) rfl ?_
    refine W.eq (g2 := F0 m 26 ls [.int (m_below (μ 1) n r), .int (m_below (μ 1) n (r + 1))]) (by rw [st0_1 μ 0 (b2i (!(m_in r 0 9)))]) ?_
    refine lv_isub hx hb dX10_printsInRow_26 ?_
    refine lv_goto (tgt := 31) hx hb dX10_printsInRow_27 (by decide) ?_
    have hE9 : mW am cy (sp_st μ 0 0 (b2i (!(m_in r 0 9)))) = mW am cy (sp_st μ 0 0 (b2i (!m_in r 0 9))) := by exact mW_eq (by simp [atO, b2i, atO, c_1])
    have hP : va_P D vwCl (mW am cy (sp_st μ 0 0 (b2i (!m_in r 0 9)))) H := by rw [← hE9]; exact hP
    exact W.iret (v := (m_below (μ 1) n (r + 1)) - (m_below (μ 1) n r)) hx hb hr (fun T9 hT9 _ => ⟨congrArg (fun z9 => Outcome.returned (some (Value.int z9))) (show ((m_below (μ 1) n (r + 1)) - (m_below (μ 1) n r) : Int32) = if m_in r 0 9 = true then m_below (μ 1) n (r + 1) - m_below (μ 1) n r else 0 from (by first | rfl | (simp [atO, b2i, c_1]; done))), by rw [hT9]; exact hP, hS.F hT9⟩) hS.2.2 dX10_printsInRow_31

set_option maxHeartbeats 4000000 in
set_option maxRecDepth 100000 in
theorem c_X10_erasedBy (l : Launch) (D : va_G) (am : Nat → Nat) (cy : Nat → ClassId) (μ : Nat → Nat → Int32) (sz : Nat) (hi : sp_inj am 5) (n : Nat) (t : Nat) (hM : MS (μ 1) n t) (v : Int32) : Met l yX10_erasedBy wsX10_erasedBy ({ frames := 2, cells := 0, slots := 0, locals := 45 } : Room) (sp_Pm D (tyG cy) sz [.ref (am (0)), .int (v)] (mW am cy μ)) (sp_Q D (some (.int (if m_in v 0 8 = true then m_below (μ 1) n v else 0))) (mW am cy (sp_st μ 0 0 (b2i (!m_in v 0 8)))) (sp_A am 5 sz)) 0 0 (sp_A am 5 sz) := by
  refine Met.ofW (cc := cX10_erasedBy) (maxL := 2) (ret := (some .int)) (by decide) rfl ?_
  intro p e s m args below meth c s₁ B hml hv
  obtain ⟨rfl, hsz, hP, hK⟩ := hv
  have hx := B.exec
  have hb := B.bytes
  have hr := B.returns
  have hts := atoms_spec (ws := wsX10_erasedBy) B.pre
  have hown : s.vm.findClass RX10 = some m.cls := findClass_of_methodNamed B.named
  have hlocks := B.notSynchronized
  subst hsz
  have hS : va_S (sp_A am 5 s.heap.size) s.heap s.heap [] := va_S.rf
  have hAk : ∀ k, k < 5 → (sp_A am 5 s.heap.size) (am k) := fun k hk => Or.inl ⟨k, hk, rfl⟩
  skip
  have hn30 := hM.2.1
  have ht6 := hM.2.2.2
  have hl := lv_entry ([.ref (am (0)), .int (v)]) (n := 2) (Nat.le_of_ble_eq_true rfl)
  refine W.eq (lg_entry_eq _ ([.ref (am (0)), .int (v)]) _) ?_
  generalize (lg_sl ([.ref (am (0)), .int (v)]) ++ List.replicate (2 - (lg_sl ([.ref (am (0)), .int (v)])).length) Slot.unset).toArray = ls at hl ⊢
  have hl : lv_has ls 2 [(0, .ref (am (0))), (1, .int (v))] := hl
  refine lv_aload_n hx hb dX10_erasedBy_0 rfl (lv_at hl 0 rfl) ?_
  refine lv_iload_n hx hb dX10_erasedBy_1 rfl (lv_at hl 1 rfl) ?_
  refine lv_iconst (v := 0) hx hb dX10_erasedBy_2 (by decide) ?_
  refine lv_bipush (v := 8) hx hb dX10_erasedBy_3 (by decide) ?_
  refine sp_call (W.runS (As := [.int (v), .int (0), .int (8)]) (rest := [.ref (am (0))]) ⟨hx, hb, hml, hown, hts⟩ (c_X10_in l D am cy μ v 0 8) (va_cwS 3 hts gX10_erasedBy_X10_in rfl rfl rfl (by decide +kernel) ⟨Nat.le_of_ble_eq_true rfl, Nat.le_of_ble_eq_true rfl⟩) (sp_preS hK hP) rfl rfl hl.1 rfl (lv_room (Nat.le_of_ble_eq_true rfl)) dX10_erasedBy_5 ⟨Nat.le_of_ble_eq_true rfl, Nat.le_of_ble_eq_true rfl⟩) ?_
  refine W.eq (g2 := F0 m 8 ls [.int (b2i (m_in v 0 8)), .ref (am (0))]) rfl ?_
  refine sp_callm (va_runV (As := [.int (b2i (m_in v 0 8))]) (rest := []) ⟨hx, hb, hml, hown, hts⟩ (c_X10_isFine_b l D am cy μ _ hi (m_in v 0 8)) (cwV 1 hts gX10_erasedBy_X10_isFine rfl rfl rfl (by decide +kernel) ⟨Nat.le_of_ble_eq_true rfl, Nat.le_of_ble_eq_true rfl⟩) (sp_preVm hK hP (κ := 0) (by decide) mE_0 rfl) rfl rfl hl.1 rfl (lv_room (Nat.le_of_ble_eq_true rfl)) dX10_erasedBy_8 ⟨Nat.le_of_ble_eq_true rfl, Nat.le_of_ble_eq_true rfl⟩) hS (fun q h1 h2 => sp_Alt h1 h2) (sp_Ale hS.1) (fun H locs hP hle hfr hS => ?_)
  refine W.eq (g2 := F0 m 11 ls [.int (b2i (m_in v 0 8))]) rfl ?_
  refine lv_if_eq (tgt := 22) hx hb dX10_erasedBy_11 (by decide) (fun c_1 => ?_) (fun c_1 => ?_)
  · rw [b2i_eq0] at c_1
    refine lv_iconst (v := 0) hx hb dX10_erasedBy_22 (by decide) ?_
    have hE9 : mW am cy (sp_st μ 0 0 (b2i (!(m_in v 0 8)))) = mW am cy (sp_st μ 0 0 (b2i (!m_in v 0 8))) := by exact mW_eq (by simp [atO, b2i, atO, c_1])
    have hP : va_P D vwCl (mW am cy (sp_st μ 0 0 (b2i (!m_in v 0 8)))) H := by rw [← hE9]; exact hP
    exact W.iret (v := 0) hx hb hr (fun T9 hT9 _ => ⟨congrArg (fun z9 => Outcome.returned (some (Value.int z9))) (show (0 : Int32) = if m_in v 0 8 = true then m_below (μ 1) n v else 0 from (by first | rfl | (simp [atO, b2i, c_1]; done))), by rw [hT9]; exact hP, hS.F hT9⟩) hS.2.2 dX10_erasedBy_23
  · rw [b2i_eq0] at c_1
    refine lv_aload_n hx hb dX10_erasedBy_14 rfl (lv_at hl 0 rfl) ?_
    refine lv_iload_n hx hb dX10_erasedBy_15 rfl (lv_at hl 1 rfl) ?_
    refine sp_call (W.runV (As := [.int (v)]) (rest := []) ⟨hx, hb, hml, hown, hts⟩ (c_X10_belowRow l D am cy (sp_st μ 0 0 (b2i (!(m_in v 0 8)))) n t (by first | exact hM | exact hi_0 | (repeat first | exact hM | exact hi_0 | refine MS.st0 ?_ | refine MS.st ?_ (by omega))) v) (cwV 1 hts gX10_erasedBy_X10_belowRow rfl rfl rfl (by decide +kernel) ⟨Nat.le_of_ble_eq_true rfl, Nat.le_of_ble_eq_true rfl⟩) (sp_preV hK hP (κ := 0) (by decide) mE_0 rfl) rfl rfl hl.1 rfl (lv_room (Nat.le_of_ble_eq_true rfl)) dX10_erasedBy_16 ⟨Nat.le_of_ble_eq_true rfl, Nat.le_of_ble_eq_true rfl⟩) ?_
    refine W.eq (g2 := F0 m 19 ls [.int (m_below ((sp_st μ 0 0 (b2i (!(m_in v 0 8)))) 1) n v)]) rfl ?_
    refine W.eq (g2 := F0 m 19 ls [.int (m_below (μ 1) n v)]) (by rw [st0_1 μ 0 (b2i (!(m_in v 0 8)))]) ?_
    refine lv_goto (tgt := 23) hx hb dX10_erasedBy_19 (by decide) ?_
    have hE9 : mW am cy (sp_st μ 0 0 (b2i (!(m_in v 0 8)))) = mW am cy (sp_st μ 0 0 (b2i (!m_in v 0 8))) := by exact mW_eq (by simp [atO, b2i, atO, c_1])
    have hP : va_P D vwCl (mW am cy (sp_st μ 0 0 (b2i (!m_in v 0 8)))) H := by rw [← hE9]; exact hP
    exact W.iret (v := m_below (μ 1) n v) hx hb hr (fun T9 hT9 _ => ⟨congrArg (fun z9 => Outcome.returned (some (Value.int z9))) (show (m_below (μ 1) n v : Int32) = if m_in v 0 8 = true then m_below (μ 1) n v else 0 from (by first | rfl | (simp [atO, b2i, c_1]; done))), by rw [hT9]; exact hP, hS.F hT9⟩) hS.2.2 dX10_erasedBy_23

theorem wi_X10_tideLevel_X10 : ∀ w ∈ wsX100, w ∈ wsX10_tideLevel := by decide +kernel
set_option maxHeartbeats 4000000 in
set_option maxRecDepth 100000 in
theorem c_X10_tideLevel (l : Launch) (D : va_G) (am : Nat → Nat) (cy : Nat → ClassId) (μ : Nat → Nat → Int32) (sz : Nat) (hi : sp_inj am 5) (n : Nat) (t : Nat) (hM : MS (μ 1) n t) : Met l yX10_tideLevel wsX10_tideLevel ({ frames := 0, cells := 0, slots := 0, locals := 0 } : Room) (sp_Pm D (tyG cy) sz [.ref (am (0))] (mW am cy μ)) (sp_Q D (some (.int (μ 1 4))) (mW am cy (sp_st μ 0 0 0)) (sp_A am 5 sz)) 0 0 (sp_A am 5 sz) := by
  refine Met.ofW (cc := cX10_tideLevel) (maxL := 1) (ret := (some .int)) (by decide) rfl ?_
  intro p e s m args below meth c s₁ B hml hv
  obtain ⟨rfl, hsz, hP, hK⟩ := hv
  have hx := B.exec
  have hb := B.bytes
  have hr := B.returns
  have hts := atoms_spec (ws := wsX10_tideLevel) B.pre
  have hown : s.vm.findClass RX10 = some m.cls := findClass_of_methodNamed B.named
  have hlocks := B.notSynchronized
  subst hsz
  have hS : va_S (sp_A am 5 s.heap.size) s.heap s.heap [] := va_S.rf
  have hAk : ∀ k, k < 5 → (sp_A am 5 s.heap.size) (am k) := fun k hk => Or.inl ⟨k, hk, rfl⟩
  skip
  have hn30 := hM.2.1
  have ht6 := hM.2.2.2
  have hl := lv_entry ([.ref (am (0))]) (n := 1) (Nat.le_of_ble_eq_true rfl)
  refine W.eq (lg_entry_eq _ ([.ref (am (0))]) _) ?_
  generalize (lg_sl ([.ref (am (0))]) ++ List.replicate (1 - (lg_sl ([.ref (am (0))])).length) Slot.unset).toArray = ls at hl ⊢
  have hl : lv_has ls 1 [(0, .ref (am (0)))] := hl
  refine lv_aload_n hx hb dX10_tideLevel_0 rfl (lv_at hl 0 rfl) ?_
  refine lv_iconst (v := 0) hx hb dX10_tideLevel_1 (by decide) ?_
  refine sp_put hx hb hts wi_X10_tideLevel_X10 tyX10 tyX10_ok nmX10 hown hK hP hi hAk hS (κ := 0) (by decide) mE_0 rfl 0 (by decide) (hts _ (List.mem_of_getElem? (i := 1) rfl)) (fun _ h => h) rfl (ty := tyX10 0) (by decide +kernel) ⟨rfl, rfl⟩ (Nat.le_of_ble_eq_true rfl) (r1 := upd (μ 0) 0 0) (cE_of mE_0 (by simp [upd])) dX10_tideLevel_2 (fun H locs hP hS => ?_)
  have hP : va_P D vwCl (mW am cy (sp_st μ 0 0 0)) H := hP
  refine lv_aload_n hx hb dX10_tideLevel_5 rfl (lv_at hl 0 rfl) ?_
  refine sp_get hx hb hts wi_X10_tideLevel_X10 hown hK hP (κ := 0) (by decide) mE_0 rfl 1 (by decide) (hts _ (List.mem_of_getElem? (i := 2) rfl)) (fun _ h => h) rfl dX10_tideLevel_6 ?_
  refine lv_iconst (v := 4) hx hb dX10_tideLevel_9 (by decide) ?_
  refine sp_iald hx hb hK hP (κ := 1) (by decide) 1 mE_1 rfl 4 rfl (by omega) (by decide) dX10_tideLevel_10 ?_
  refine W.eq (g2 := F0 m 11 ls [.int (μ 1 4)]) (by rw [sp_st_k _ _ _ _ _ _ (by decide)]) ?_
  exact W.iret (v := μ 1 4) hx hb hr (fun T9 hT9 _ => ⟨congrArg (fun z9 => Outcome.returned (some (Value.int z9))) (show (μ 1 4 : Int32) = μ 1 4 from (by first | rfl | (simp [atO, b2i]; done))), by rw [hT9]; exact hP, hS.F hT9⟩) hS.2.2 dX10_tideLevel_11

theorem wi_X10_trackCount_X10 : ∀ w ∈ wsX100, w ∈ wsX10_trackCount := by decide +kernel
set_option maxHeartbeats 4000000 in
set_option maxRecDepth 100000 in
theorem c_X10_trackCount (l : Launch) (D : va_G) (am : Nat → Nat) (cy : Nat → ClassId) (μ : Nat → Nat → Int32) (sz : Nat) (hi : sp_inj am 5) (n : Nat) (t : Nat) (hM : MS (μ 1) n t) : Met l yX10_trackCount wsX10_trackCount ({ frames := 0, cells := 0, slots := 0, locals := 0 } : Room) (sp_Pm D (tyG cy) sz [.ref (am (0))] (mW am cy μ)) (sp_Q D (some (.int (nI t))) (mW am cy (sp_st μ 0 0 0)) (sp_A am 5 sz)) 0 0 (sp_A am 5 sz) := by
  refine Met.ofW (cc := cX10_trackCount) (maxL := 1) (ret := (some .int)) (by decide) rfl ?_
  intro p e s m args below meth c s₁ B hml hv
  obtain ⟨rfl, hsz, hP, hK⟩ := hv
  have hx := B.exec
  have hb := B.bytes
  have hr := B.returns
  have hts := atoms_spec (ws := wsX10_trackCount) B.pre
  have hown : s.vm.findClass RX10 = some m.cls := findClass_of_methodNamed B.named
  have hlocks := B.notSynchronized
  subst hsz
  have hS : va_S (sp_A am 5 s.heap.size) s.heap s.heap [] := va_S.rf
  have hAk : ∀ k, k < 5 → (sp_A am 5 s.heap.size) (am k) := fun k hk => Or.inl ⟨k, hk, rfl⟩
  skip
  have hn30 := hM.2.1
  have ht6 := hM.2.2.2
  have hl := lv_entry ([.ref (am (0))]) (n := 1) (Nat.le_of_ble_eq_true rfl)
  refine W.eq (lg_entry_eq _ ([.ref (am (0))]) _) ?_
  generalize (lg_sl ([.ref (am (0))]) ++ List.replicate (1 - (lg_sl ([.ref (am (0))])).length) Slot.unset).toArray = ls at hl ⊢
  have hl : lv_has ls 1 [(0, .ref (am (0)))] := hl
  refine lv_aload_n hx hb dX10_trackCount_0 rfl (lv_at hl 0 rfl) ?_
  refine lv_iconst (v := 0) hx hb dX10_trackCount_1 (by decide) ?_
  refine sp_put hx hb hts wi_X10_trackCount_X10 tyX10 tyX10_ok nmX10 hown hK hP hi hAk hS (κ := 0) (by decide) mE_0 rfl 0 (by decide) (hts _ (List.mem_of_getElem? (i := 1) rfl)) (fun _ h => h) rfl (ty := tyX10 0) (by decide +kernel) ⟨rfl, rfl⟩ (Nat.le_of_ble_eq_true rfl) (r1 := upd (μ 0) 0 0) (cE_of mE_0 (by simp [upd])) dX10_trackCount_2 (fun H locs hP hS => ?_)
  have hP : va_P D vwCl (mW am cy (sp_st μ 0 0 0)) H := hP
  refine lv_aload_n hx hb dX10_trackCount_5 rfl (lv_at hl 0 rfl) ?_
  refine sp_get hx hb hts wi_X10_trackCount_X10 hown hK hP (κ := 0) (by decide) mE_0 rfl 1 (by decide) (hts _ (List.mem_of_getElem? (i := 2) rfl)) (fun _ h => h) rfl dX10_trackCount_6 ?_
  refine lv_iconst (v := 0) hx hb dX10_trackCount_9 (by decide) ?_
  refine sp_iald hx hb hK hP (κ := 1) (by decide) 1 mE_1 rfl 0 rfl (by omega) (by decide) dX10_trackCount_10 ?_
  refine W.eq (g2 := F0 m 11 ls [.int (μ 1 0)]) (by rw [sp_st_k _ _ _ _ _ _ (by decide)]) ?_
  refine W.eq (g2 := F0 m 11 ls [.int (nI t)]) (by rw [hM.2.2.1]) ?_
  exact W.iret (v := nI t) hx hb hr (fun T9 hT9 _ => ⟨congrArg (fun z9 => Outcome.returned (some (Value.int z9))) (show (nI t : Int32) = nI t from (by first | rfl | (simp [atO, b2i]; done))), by rw [hT9]; exact hP, hS.F hT9⟩) hS.2.2 dX10_trackCount_11

theorem wi_X10_totalPrints_X10 : ∀ w ∈ wsX100, w ∈ wsX10_totalPrints := by decide +kernel
set_option maxHeartbeats 4000000 in
set_option maxRecDepth 100000 in
theorem c_X10_totalPrints (l : Launch) (D : va_G) (am : Nat → Nat) (cy : Nat → ClassId) (μ : Nat → Nat → Int32) (sz : Nat) (hi : sp_inj am 5) (n : Nat) (t : Nat) (hM : MS (μ 1) n t) : Met l yX10_totalPrints wsX10_totalPrints ({ frames := 0, cells := 0, slots := 0, locals := 0 } : Room) (sp_Pm D (tyG cy) sz [.ref (am (0))] (mW am cy μ)) (sp_Q D (some (.int (nI n))) (mW am cy (sp_st μ 0 0 0)) (sp_A am 5 sz)) 0 0 (sp_A am 5 sz) := by
  refine Met.ofW (cc := cX10_totalPrints) (maxL := 1) (ret := (some .int)) (by decide) rfl ?_
  intro p e s m args below meth c s₁ B hml hv
  obtain ⟨rfl, hsz, hP, hK⟩ := hv
  have hx := B.exec
  have hb := B.bytes
  have hr := B.returns
  have hts := atoms_spec (ws := wsX10_totalPrints) B.pre
  have hown : s.vm.findClass RX10 = some m.cls := findClass_of_methodNamed B.named
  have hlocks := B.notSynchronized
  subst hsz
  have hS : va_S (sp_A am 5 s.heap.size) s.heap s.heap [] := va_S.rf
  have hAk : ∀ k, k < 5 → (sp_A am 5 s.heap.size) (am k) := fun k hk => Or.inl ⟨k, hk, rfl⟩
  skip
  have hn30 := hM.2.1
  have ht6 := hM.2.2.2
  have hl := lv_entry ([.ref (am (0))]) (n := 1) (Nat.le_of_ble_eq_true rfl)
  refine W.eq (lg_entry_eq _ ([.ref (am (0))]) _) ?_
  generalize (lg_sl ([.ref (am (0))]) ++ List.replicate (1 - (lg_sl ([.ref (am (0))])).length) Slot.unset).toArray = ls at hl ⊢
  have hl : lv_has ls 1 [(0, .ref (am (0)))] := hl
  refine lv_aload_n hx hb dX10_totalPrints_0 rfl (lv_at hl 0 rfl) ?_
  refine lv_iconst (v := 0) hx hb dX10_totalPrints_1 (by decide) ?_
  refine sp_put hx hb hts wi_X10_totalPrints_X10 tyX10 tyX10_ok nmX10 hown hK hP hi hAk hS (κ := 0) (by decide) mE_0 rfl 0 (by decide) (hts _ (List.mem_of_getElem? (i := 1) rfl)) (fun _ h => h) rfl (ty := tyX10 0) (by decide +kernel) ⟨rfl, rfl⟩ (Nat.le_of_ble_eq_true rfl) (r1 := upd (μ 0) 0 0) (cE_of mE_0 (by simp [upd])) dX10_totalPrints_2 (fun H locs hP hS => ?_)
  have hP : va_P D vwCl (mW am cy (sp_st μ 0 0 0)) H := hP
  refine lv_aload_n hx hb dX10_totalPrints_5 rfl (lv_at hl 0 rfl) ?_
  refine sp_get hx hb hts wi_X10_totalPrints_X10 hown hK hP (κ := 0) (by decide) mE_0 rfl 1 (by decide) (hts _ (List.mem_of_getElem? (i := 2) rfl)) (fun _ h => h) rfl dX10_totalPrints_6 ?_
  refine lv_iconst (v := 1) hx hb dX10_totalPrints_9 (by decide) ?_
  refine sp_iald hx hb hK hP (κ := 1) (by decide) 1 mE_1 rfl 1 rfl (by omega) (by decide) dX10_totalPrints_10 ?_
  refine W.eq (g2 := F0 m 11 ls [.int (μ 1 1)]) (by rw [sp_st_k _ _ _ _ _ _ (by decide)]) ?_
  refine W.eq (g2 := F0 m 11 ls [.int (nI n)]) (by rw [hM.1]) ?_
  exact W.iret (v := nI n) hx hb hr (fun T9 hT9 _ => ⟨congrArg (fun z9 => Outcome.returned (some (Value.int z9))) (show (nI n : Int32) = nI n from (by first | rfl | (simp [atO, b2i]; done))), by rw [hT9]; exact hP, hS.F hT9⟩) hS.2.2 dX10_totalPrints_11

theorem wi_X10_erasedPrints_X10 : ∀ w ∈ wsX100, w ∈ wsX10_erasedPrints := by decide +kernel
set_option maxHeartbeats 4000000 in
set_option maxRecDepth 100000 in
theorem c_X10_erasedPrints (l : Launch) (D : va_G) (am : Nat → Nat) (cy : Nat → ClassId) (μ : Nat → Nat → Int32) (sz : Nat) (hi : sp_inj am 5) (n : Nat) (t : Nat) (hM : MS (μ 1) n t) : Met l yX10_erasedPrints wsX10_erasedPrints ({ frames := 0, cells := 0, slots := 0, locals := 0 } : Room) (sp_Pm D (tyG cy) sz [.ref (am (0))] (mW am cy μ)) (sp_Q D (some (.int (μ 1 5))) (mW am cy (sp_st μ 0 0 0)) (sp_A am 5 sz)) 0 0 (sp_A am 5 sz) := by
  refine Met.ofW (cc := cX10_erasedPrints) (maxL := 1) (ret := (some .int)) (by decide) rfl ?_
  intro p e s m args below meth c s₁ B hml hv
  obtain ⟨rfl, hsz, hP, hK⟩ := hv
  have hx := B.exec
  have hb := B.bytes
  have hr := B.returns
  have hts := atoms_spec (ws := wsX10_erasedPrints) B.pre
  have hown : s.vm.findClass RX10 = some m.cls := findClass_of_methodNamed B.named
  have hlocks := B.notSynchronized
  subst hsz
  have hS : va_S (sp_A am 5 s.heap.size) s.heap s.heap [] := va_S.rf
  have hAk : ∀ k, k < 5 → (sp_A am 5 s.heap.size) (am k) := fun k hk => Or.inl ⟨k, hk, rfl⟩
  skip
  have hn30 := hM.2.1
  have ht6 := hM.2.2.2
  have hl := lv_entry ([.ref (am (0))]) (n := 1) (Nat.le_of_ble_eq_true rfl)
  refine W.eq (lg_entry_eq _ ([.ref (am (0))]) _) ?_
  generalize (lg_sl ([.ref (am (0))]) ++ List.replicate (1 - (lg_sl ([.ref (am (0))])).length) Slot.unset).toArray = ls at hl ⊢
  have hl : lv_has ls 1 [(0, .ref (am (0)))] := hl
  refine lv_aload_n hx hb dX10_erasedPrints_0 rfl (lv_at hl 0 rfl) ?_
  refine lv_iconst (v := 0) hx hb dX10_erasedPrints_1 (by decide) ?_
  refine sp_put hx hb hts wi_X10_erasedPrints_X10 tyX10 tyX10_ok nmX10 hown hK hP hi hAk hS (κ := 0) (by decide) mE_0 rfl 0 (by decide) (hts _ (List.mem_of_getElem? (i := 1) rfl)) (fun _ h => h) rfl (ty := tyX10 0) (by decide +kernel) ⟨rfl, rfl⟩ (Nat.le_of_ble_eq_true rfl) (r1 := upd (μ 0) 0 0) (cE_of mE_0 (by simp [upd])) dX10_erasedPrints_2 (fun H locs hP hS => ?_)
  have hP : va_P D vwCl (mW am cy (sp_st μ 0 0 0)) H := hP
  refine lv_aload_n hx hb dX10_erasedPrints_5 rfl (lv_at hl 0 rfl) ?_
  refine sp_get hx hb hts wi_X10_erasedPrints_X10 hown hK hP (κ := 0) (by decide) mE_0 rfl 1 (by decide) (hts _ (List.mem_of_getElem? (i := 2) rfl)) (fun _ h => h) rfl dX10_erasedPrints_6 ?_
  refine lv_iconst (v := 5) hx hb dX10_erasedPrints_9 (by decide) ?_
  refine sp_iald hx hb hK hP (κ := 1) (by decide) 1 mE_1 rfl 5 rfl (by omega) (by decide) dX10_erasedPrints_10 ?_
  refine W.eq (g2 := F0 m 11 ls [.int (μ 1 5)]) (by rw [sp_st_k _ _ _ _ _ _ (by decide)]) ?_
  exact W.iret (v := μ 1 5) hx hb hr (fun T9 hT9 _ => ⟨congrArg (fun z9 => Outcome.returned (some (Value.int z9))) (show (μ 1 5 : Int32) = μ 1 5 from (by first | rfl | (simp [atO, b2i]; done))), by rw [hT9]; exact hP, hS.F hT9⟩) hS.2.2 dX10_erasedPrints_11

theorem wi_X10_correctedHeels_X10 : ∀ w ∈ wsX100, w ∈ wsX10_correctedHeels := by decide +kernel
set_option maxHeartbeats 4000000 in
set_option maxRecDepth 100000 in
theorem c_X10_correctedHeels (l : Launch) (D : va_G) (am : Nat → Nat) (cy : Nat → ClassId) (μ : Nat → Nat → Int32) (sz : Nat) (hi : sp_inj am 5) (n : Nat) (t : Nat) (hM : MS (μ 1) n t) : Met l yX10_correctedHeels wsX10_correctedHeels ({ frames := 0, cells := 0, slots := 0, locals := 0 } : Room) (sp_Pm D (tyG cy) sz [.ref (am (0))] (mW am cy μ)) (sp_Q D (some (.int (μ 1 6))) (mW am cy (sp_st μ 0 0 0)) (sp_A am 5 sz)) 0 0 (sp_A am 5 sz) := by
  refine Met.ofW (cc := cX10_correctedHeels) (maxL := 1) (ret := (some .int)) (by decide) rfl ?_
  intro p e s m args below meth c s₁ B hml hv
  obtain ⟨rfl, hsz, hP, hK⟩ := hv
  have hx := B.exec
  have hb := B.bytes
  have hr := B.returns
  have hts := atoms_spec (ws := wsX10_correctedHeels) B.pre
  have hown : s.vm.findClass RX10 = some m.cls := findClass_of_methodNamed B.named
  have hlocks := B.notSynchronized
  subst hsz
  have hS : va_S (sp_A am 5 s.heap.size) s.heap s.heap [] := va_S.rf
  have hAk : ∀ k, k < 5 → (sp_A am 5 s.heap.size) (am k) := fun k hk => Or.inl ⟨k, hk, rfl⟩
  skip
  have hn30 := hM.2.1
  have ht6 := hM.2.2.2
  have hl := lv_entry ([.ref (am (0))]) (n := 1) (Nat.le_of_ble_eq_true rfl)
  refine W.eq (lg_entry_eq _ ([.ref (am (0))]) _) ?_
  generalize (lg_sl ([.ref (am (0))]) ++ List.replicate (1 - (lg_sl ([.ref (am (0))])).length) Slot.unset).toArray = ls at hl ⊢
  have hl : lv_has ls 1 [(0, .ref (am (0)))] := hl
  refine lv_aload_n hx hb dX10_correctedHeels_0 rfl (lv_at hl 0 rfl) ?_
  refine lv_iconst (v := 0) hx hb dX10_correctedHeels_1 (by decide) ?_
  refine sp_put hx hb hts wi_X10_correctedHeels_X10 tyX10 tyX10_ok nmX10 hown hK hP hi hAk hS (κ := 0) (by decide) mE_0 rfl 0 (by decide) (hts _ (List.mem_of_getElem? (i := 1) rfl)) (fun _ h => h) rfl (ty := tyX10 0) (by decide +kernel) ⟨rfl, rfl⟩ (Nat.le_of_ble_eq_true rfl) (r1 := upd (μ 0) 0 0) (cE_of mE_0 (by simp [upd])) dX10_correctedHeels_2 (fun H locs hP hS => ?_)
  have hP : va_P D vwCl (mW am cy (sp_st μ 0 0 0)) H := hP
  refine lv_aload_n hx hb dX10_correctedHeels_5 rfl (lv_at hl 0 rfl) ?_
  refine sp_get hx hb hts wi_X10_correctedHeels_X10 hown hK hP (κ := 0) (by decide) mE_0 rfl 1 (by decide) (hts _ (List.mem_of_getElem? (i := 2) rfl)) (fun _ h => h) rfl dX10_correctedHeels_6 ?_
  refine lv_bipush (v := 6) hx hb dX10_correctedHeels_9 (by decide) ?_
  refine sp_iald hx hb hK hP (κ := 1) (by decide) 1 mE_1 rfl 6 rfl (by omega) (by decide) dX10_correctedHeels_11 ?_
  refine W.eq (g2 := F0 m 12 ls [.int (μ 1 6)]) (by rw [sp_st_k _ _ _ _ _ _ (by decide)]) ?_
  exact W.iret (v := μ 1 6) hx hb hr (fun T9 hT9 _ => ⟨congrArg (fun z9 => Outcome.returned (some (Value.int z9))) (show (μ 1 6 : Int32) = μ 1 6 from (by first | rfl | (simp [atO, b2i]; done))), by rw [hT9]; exact hP, hS.F hT9⟩) hS.2.2 dX10_correctedHeels_12

theorem wi_X10_isConsistent_X10 : ∀ w ∈ wsX100, w ∈ wsX10_isConsistent := by decide +kernel
set_option maxHeartbeats 4000000 in
set_option maxRecDepth 100000 in
theorem c_X10_isConsistent (l : Launch) (D : va_G) (am : Nat → Nat) (cy : Nat → ClassId) (μ : Nat → Nat → Int32) (sz : Nat) (hi : sp_inj am 5) (n : Nat) (t : Nat) (hM : MS (μ 1) n t) : Met l yX10_isConsistent wsX10_isConsistent ({ frames := 0, cells := 0, slots := 0, locals := 0 } : Room) (sp_Pm D (tyG cy) sz [.ref (am (0))] (mW am cy μ)) (sp_Q D (some (.int (b2i (true)))) (mW am cy (sp_st μ 0 0 0)) (sp_A am 5 sz)) 0 0 (sp_A am 5 sz) := by
  refine Met.ofW (cc := cX10_isConsistent) (maxL := 1) (ret := (some .boolean)) (by decide) rfl ?_
  intro p e s m args below meth c s₁ B hml hv
  obtain ⟨rfl, hsz, hP, hK⟩ := hv
  have hx := B.exec
  have hb := B.bytes
  have hr := B.returns
  have hts := atoms_spec (ws := wsX10_isConsistent) B.pre
  have hown : s.vm.findClass RX10 = some m.cls := findClass_of_methodNamed B.named
  have hlocks := B.notSynchronized
  subst hsz
  have hS : va_S (sp_A am 5 s.heap.size) s.heap s.heap [] := va_S.rf
  have hAk : ∀ k, k < 5 → (sp_A am 5 s.heap.size) (am k) := fun k hk => Or.inl ⟨k, hk, rfl⟩
  skip
  have hn30 := hM.2.1
  have ht6 := hM.2.2.2
  have hl := lv_entry ([.ref (am (0))]) (n := 1) (Nat.le_of_ble_eq_true rfl)
  refine W.eq (lg_entry_eq _ ([.ref (am (0))]) _) ?_
  generalize (lg_sl ([.ref (am (0))]) ++ List.replicate (1 - (lg_sl ([.ref (am (0))])).length) Slot.unset).toArray = ls at hl ⊢
  have hl : lv_has ls 1 [(0, .ref (am (0)))] := hl
  refine lv_aload_n hx hb dX10_isConsistent_0 rfl (lv_at hl 0 rfl) ?_
  refine lv_iconst (v := 0) hx hb dX10_isConsistent_1 (by decide) ?_
  refine sp_put hx hb hts wi_X10_isConsistent_X10 tyX10 tyX10_ok nmX10 hown hK hP hi hAk hS (κ := 0) (by decide) mE_0 rfl 0 (by decide) (hts _ (List.mem_of_getElem? (i := 1) rfl)) (fun _ h => h) rfl (ty := tyX10 0) (by decide +kernel) ⟨rfl, rfl⟩ (Nat.le_of_ble_eq_true rfl) (r1 := upd (μ 0) 0 0) (cE_of mE_0 (by simp [upd])) dX10_isConsistent_2 (fun H locs hP hS => ?_)
  have hP : va_P D vwCl (mW am cy (sp_st μ 0 0 0)) H := hP
  refine lv_iconst (v := 1) hx hb dX10_isConsistent_5 (by decide) ?_
  exact W.zret (v := 1) hx hb hr (by decide) (fun T9 hT9 _ => ⟨congrArg (fun z9 => Outcome.returned (some (Value.int z9))) (show (1 : Int32) = b2i (true) from (by first | rfl | (simp [atO, b2i]; done))), by rw [hT9]; exact hP, hS.F hT9⟩) hS.2.2 dX10_isConsistent_6

theorem wi_X10_rejectionReason_X10 : ∀ w ∈ wsX100, w ∈ wsX10_rejectionReason := by decide +kernel
set_option maxHeartbeats 4000000 in
set_option maxRecDepth 100000 in
theorem c_X10_rejectionReason (l : Launch) (D : va_G) (am : Nat → Nat) (cy : Nat → ClassId) (μ : Nat → Nat → Int32) (sz : Nat) (hi : sp_inj am 5) (n : Nat) (t : Nat) (hM : MS (μ 1) n t) : Met l yX10_rejectionReason wsX10_rejectionReason ({ frames := 1, cells := 0, slots := 0, locals := 21 } : Room) (sp_Pm D (tyG cy) sz [.ref (am (0))] (mW am cy μ)) (sp_Q D (some (.int (if μ 0 5 = 0 then 0 else μ 0 5))) (mW am cy (sp_st μ 0 0 (if μ 0 5 = 0 then 1 else 0))) (sp_A am 5 sz)) 0 0 (sp_A am 5 sz) := by
  refine Met.ofW (cc := cX10_rejectionReason) (maxL := 1) (ret := (some .int)) (by decide) rfl ?_
  intro p e s m args below meth c s₁ B hml hv
  obtain ⟨rfl, hsz, hP, hK⟩ := hv
  have hx := B.exec
  have hb := B.bytes
  have hr := B.returns
  have hts := atoms_spec (ws := wsX10_rejectionReason) B.pre
  have hown : s.vm.findClass RX10 = some m.cls := findClass_of_methodNamed B.named
  have hlocks := B.notSynchronized
  subst hsz
  have hS : va_S (sp_A am 5 s.heap.size) s.heap s.heap [] := va_S.rf
  have hAk : ∀ k, k < 5 → (sp_A am 5 s.heap.size) (am k) := fun k hk => Or.inl ⟨k, hk, rfl⟩
  skip
  have hn30 := hM.2.1
  have ht6 := hM.2.2.2
  have hl := lv_entry ([.ref (am (0))]) (n := 1) (Nat.le_of_ble_eq_true rfl)
  refine W.eq (lg_entry_eq _ ([.ref (am (0))]) _) ?_
  generalize (lg_sl ([.ref (am (0))]) ++ List.replicate (1 - (lg_sl ([.ref (am (0))])).length) Slot.unset).toArray = ls at hl ⊢
  have hl : lv_has ls 1 [(0, .ref (am (0)))] := hl
  refine lv_aload_n hx hb dX10_rejectionReason_0 rfl (lv_at hl 0 rfl) ?_
  refine lv_aload_n hx hb dX10_rejectionReason_1 rfl (lv_at hl 0 rfl) ?_
  refine sp_get hx hb hts wi_X10_rejectionReason_X10 hown hK hP (κ := 0) (by decide) mE_0 rfl 5 (by decide) (hts _ (List.mem_of_getElem? (i := 1) rfl)) (fun _ h => h) rfl dX10_rejectionReason_2 ?_
  refine lv_if_eq (tgt := 12) hx hb dX10_rejectionReason_5 (by decide) (fun c_1 => ?_) (fun c_1 => ?_)
  · skip
    refine lv_iconst (v := 0) hx hb dX10_rejectionReason_12 (by decide) ?_
    refine sp_callm (va_runV (As := [.int (0)]) (rest := []) ⟨hx, hb, hml, hown, hts⟩ (c_X10_isFine_0 l D am cy μ _ hi ) (cwV 1 hts gX10_rejectionReason_X10_isFine rfl rfl rfl (by decide +kernel) ⟨Nat.le_of_ble_eq_true rfl, Nat.le_of_ble_eq_true rfl⟩) (sp_preVm hK hP (κ := 0) (by decide) mE_0 rfl) rfl rfl hl.1 rfl (lv_room (Nat.le_of_ble_eq_true rfl)) dX10_rejectionReason_13 ⟨Nat.le_of_ble_eq_true rfl, Nat.le_of_ble_eq_true rfl⟩) hS (fun q h1 h2 => sp_Alt h1 h2) (sp_Ale hS.1) (fun H locs hP hle hfr hS => ?_)
    refine W.eq (g2 := F0 m 16 ls [.int (0)]) rfl ?_
    refine lv_if_eq (tgt := 26) hx hb dX10_rejectionReason_16 (by decide) (fun c_2 => ?_) (fun c_2 => ?_)
    · skip
      refine lv_iconst (v := 0) hx hb dX10_rejectionReason_26 (by decide) ?_
      have hE9 : mW am cy (sp_st μ 0 0 1) = mW am cy (sp_st μ 0 0 (if μ 0 5 = 0 then 1 else 0)) := by exact mW_eq (by simp [atO, b2i, atO, c_1])
      have hP : va_P D vwCl (mW am cy (sp_st μ 0 0 (if μ 0 5 = 0 then 1 else 0))) H := by rw [← hE9]; exact hP
      exact W.iret (v := 0) hx hb hr (fun T9 hT9 _ => ⟨congrArg (fun z9 => Outcome.returned (some (Value.int z9))) (show (0 : Int32) = if μ 0 5 = 0 then 0 else μ 0 5 from (by first | rfl | (simp [atO, b2i, c_1]; done))), by rw [hT9]; exact hP, hS.F hT9⟩) hS.2.2 dX10_rejectionReason_27
    · exact absurd c_2 (by decide)
  · skip
    refine lv_iconst (v := 1) hx hb dX10_rejectionReason_8 (by decide) ?_
    refine lv_goto (tgt := 13) hx hb dX10_rejectionReason_9 (by decide) ?_
    refine sp_callm (va_runV (As := [.int (1)]) (rest := []) ⟨hx, hb, hml, hown, hts⟩ (c_X10_isFine_1 l D am cy μ _ hi ) (cwV 1 hts gX10_rejectionReason_X10_isFine rfl rfl rfl (by decide +kernel) ⟨Nat.le_of_ble_eq_true rfl, Nat.le_of_ble_eq_true rfl⟩) (sp_preVm hK hP (κ := 0) (by decide) mE_0 rfl) rfl rfl hl.1 rfl (lv_room (Nat.le_of_ble_eq_true rfl)) dX10_rejectionReason_13 ⟨Nat.le_of_ble_eq_true rfl, Nat.le_of_ble_eq_true rfl⟩) hS (fun q h1 h2 => sp_Alt h1 h2) (sp_Ale hS.1) (fun H locs hP hle hfr hS => ?_)
    refine W.eq (g2 := F0 m 16 ls [.int (1)]) rfl ?_
    refine lv_if_eq (tgt := 26) hx hb dX10_rejectionReason_16 (by decide) (fun c_3 => ?_) (fun c_3 => ?_)
    · exact absurd c_3 (by decide)
    · skip
      refine lv_aload_n hx hb dX10_rejectionReason_19 rfl (lv_at hl 0 rfl) ?_
      refine sp_get hx hb hts wi_X10_rejectionReason_X10 hown hK hP (κ := 0) (by decide) mE_0 rfl 5 (by decide) (hts _ (List.mem_of_getElem? (i := 1) rfl)) (fun _ h => h) rfl dX10_rejectionReason_20 ?_
      refine W.eq (g2 := F0 m 23 ls [.int (μ 0 5)]) (by rw [sp_st_j _ _ _ _ _ _ (by decide)]) ?_
      refine lv_goto (tgt := 27) hx hb dX10_rejectionReason_23 (by decide) ?_
      have hE9 : mW am cy (sp_st μ 0 0 0) = mW am cy (sp_st μ 0 0 (if μ 0 5 = 0 then 1 else 0)) := by exact mW_eq (by simp [atO, b2i, atO, c_1])
      have hP : va_P D vwCl (mW am cy (sp_st μ 0 0 (if μ 0 5 = 0 then 1 else 0))) H := by rw [← hE9]; exact hP
      exact W.iret (v := μ 0 5) hx hb hr (fun T9 hT9 _ => ⟨congrArg (fun z9 => Outcome.returned (some (Value.int z9))) (show (μ 0 5 : Int32) = if μ 0 5 = 0 then 0 else μ 0 5 from (by first | rfl | (simp [atO, b2i, c_1]; done))), by rw [hT9]; exact hP, hS.F hT9⟩) hS.2.2 dX10_rejectionReason_27

theorem wi_X10_rejectionDetail_X10 : ∀ w ∈ wsX100, w ∈ wsX10_rejectionDetail := by decide +kernel
set_option maxHeartbeats 4000000 in
set_option maxRecDepth 100000 in
theorem c_X10_rejectionDetail (l : Launch) (D : va_G) (am : Nat → Nat) (cy : Nat → ClassId) (μ : Nat → Nat → Int32) (sz : Nat) (hi : sp_inj am 5) (n : Nat) (t : Nat) (hM : MS (μ 1) n t) : Met l yX10_rejectionDetail wsX10_rejectionDetail ({ frames := 1, cells := 0, slots := 0, locals := 21 } : Room) (sp_Pm D (tyG cy) sz [.ref (am (0))] (mW am cy μ)) (sp_Q D (some (.int (if μ 0 5 = 0 then 0 else μ 0 6))) (mW am cy (sp_st μ 0 0 (if μ 0 5 = 0 then 1 else 0))) (sp_A am 5 sz)) 0 0 (sp_A am 5 sz) := by
  refine Met.ofW (cc := cX10_rejectionDetail) (maxL := 1) (ret := (some .int)) (by decide) rfl ?_
  intro p e s m args below meth c s₁ B hml hv
  obtain ⟨rfl, hsz, hP, hK⟩ := hv
  have hx := B.exec
  have hb := B.bytes
  have hr := B.returns
  have hts := atoms_spec (ws := wsX10_rejectionDetail) B.pre
  have hown : s.vm.findClass RX10 = some m.cls := findClass_of_methodNamed B.named
  have hlocks := B.notSynchronized
  subst hsz
  have hS : va_S (sp_A am 5 s.heap.size) s.heap s.heap [] := va_S.rf
  have hAk : ∀ k, k < 5 → (sp_A am 5 s.heap.size) (am k) := fun k hk => Or.inl ⟨k, hk, rfl⟩
  skip
  have hn30 := hM.2.1
  have ht6 := hM.2.2.2
  have hl := lv_entry ([.ref (am (0))]) (n := 1) (Nat.le_of_ble_eq_true rfl)
  refine W.eq (lg_entry_eq _ ([.ref (am (0))]) _) ?_
  generalize (lg_sl ([.ref (am (0))]) ++ List.replicate (1 - (lg_sl ([.ref (am (0))])).length) Slot.unset).toArray = ls at hl ⊢
  have hl : lv_has ls 1 [(0, .ref (am (0)))] := hl
  refine lv_aload_n hx hb dX10_rejectionDetail_0 rfl (lv_at hl 0 rfl) ?_
  refine lv_aload_n hx hb dX10_rejectionDetail_1 rfl (lv_at hl 0 rfl) ?_
  refine sp_get hx hb hts wi_X10_rejectionDetail_X10 hown hK hP (κ := 0) (by decide) mE_0 rfl 5 (by decide) (hts _ (List.mem_of_getElem? (i := 1) rfl)) (fun _ h => h) rfl dX10_rejectionDetail_2 ?_
  refine lv_if_eq (tgt := 12) hx hb dX10_rejectionDetail_5 (by decide) (fun c_1 => ?_) (fun c_1 => ?_)
  · skip
    refine lv_iconst (v := 0) hx hb dX10_rejectionDetail_12 (by decide) ?_
    refine sp_callm (va_runV (As := [.int (0)]) (rest := []) ⟨hx, hb, hml, hown, hts⟩ (c_X10_isFine_0 l D am cy μ _ hi ) (cwV 1 hts gX10_rejectionDetail_X10_isFine rfl rfl rfl (by decide +kernel) ⟨Nat.le_of_ble_eq_true rfl, Nat.le_of_ble_eq_true rfl⟩) (sp_preVm hK hP (κ := 0) (by decide) mE_0 rfl) rfl rfl hl.1 rfl (lv_room (Nat.le_of_ble_eq_true rfl)) dX10_rejectionDetail_13 ⟨Nat.le_of_ble_eq_true rfl, Nat.le_of_ble_eq_true rfl⟩) hS (fun q h1 h2 => sp_Alt h1 h2) (sp_Ale hS.1) (fun H locs hP hle hfr hS => ?_)
    refine W.eq (g2 := F0 m 16 ls [.int (0)]) rfl ?_
    refine lv_if_eq (tgt := 26) hx hb dX10_rejectionDetail_16 (by decide) (fun c_2 => ?_) (fun c_2 => ?_)
    · skip
      refine lv_iconst (v := 0) hx hb dX10_rejectionDetail_26 (by decide) ?_
      have hE9 : mW am cy (sp_st μ 0 0 1) = mW am cy (sp_st μ 0 0 (if μ 0 5 = 0 then 1 else 0)) := by exact mW_eq (by simp [atO, b2i, atO, c_1])
      have hP : va_P D vwCl (mW am cy (sp_st μ 0 0 (if μ 0 5 = 0 then 1 else 0))) H := by rw [← hE9]; exact hP
      exact W.iret (v := 0) hx hb hr (fun T9 hT9 _ => ⟨congrArg (fun z9 => Outcome.returned (some (Value.int z9))) (show (0 : Int32) = if μ 0 5 = 0 then 0 else μ 0 6 from (by first | rfl | (simp [atO, b2i, c_1]; done))), by rw [hT9]; exact hP, hS.F hT9⟩) hS.2.2 dX10_rejectionDetail_27
    · exact absurd c_2 (by decide)
  · skip
    refine lv_iconst (v := 1) hx hb dX10_rejectionDetail_8 (by decide) ?_
    refine lv_goto (tgt := 13) hx hb dX10_rejectionDetail_9 (by decide) ?_
    refine sp_callm (va_runV (As := [.int (1)]) (rest := []) ⟨hx, hb, hml, hown, hts⟩ (c_X10_isFine_1 l D am cy μ _ hi ) (cwV 1 hts gX10_rejectionDetail_X10_isFine rfl rfl rfl (by decide +kernel) ⟨Nat.le_of_ble_eq_true rfl, Nat.le_of_ble_eq_true rfl⟩) (sp_preVm hK hP (κ := 0) (by decide) mE_0 rfl) rfl rfl hl.1 rfl (lv_room (Nat.le_of_ble_eq_true rfl)) dX10_rejectionDetail_13 ⟨Nat.le_of_ble_eq_true rfl, Nat.le_of_ble_eq_true rfl⟩) hS (fun q h1 h2 => sp_Alt h1 h2) (sp_Ale hS.1) (fun H locs hP hle hfr hS => ?_)
    refine W.eq (g2 := F0 m 16 ls [.int (1)]) rfl ?_
    refine lv_if_eq (tgt := 26) hx hb dX10_rejectionDetail_16 (by decide) (fun c_3 => ?_) (fun c_3 => ?_)
    · exact absurd c_3 (by decide)
    · skip
      refine lv_aload_n hx hb dX10_rejectionDetail_19 rfl (lv_at hl 0 rfl) ?_
      refine sp_get hx hb hts wi_X10_rejectionDetail_X10 hown hK hP (κ := 0) (by decide) mE_0 rfl 6 (by decide) (hts _ (List.mem_of_getElem? (i := 2) rfl)) (fun _ h => h) rfl dX10_rejectionDetail_20 ?_
      refine W.eq (g2 := F0 m 23 ls [.int (μ 0 6)]) (by rw [sp_st_j _ _ _ _ _ _ (by decide)]) ?_
      refine lv_goto (tgt := 27) hx hb dX10_rejectionDetail_23 (by decide) ?_
      have hE9 : mW am cy (sp_st μ 0 0 0) = mW am cy (sp_st μ 0 0 (if μ 0 5 = 0 then 1 else 0)) := by exact mW_eq (by simp [atO, b2i, atO, c_1])
      have hP : va_P D vwCl (mW am cy (sp_st μ 0 0 (if μ 0 5 = 0 then 1 else 0))) H := by rw [← hE9]; exact hP
      exact W.iret (v := μ 0 6) hx hb hr (fun T9 hT9 _ => ⟨congrArg (fun z9 => Outcome.returned (some (Value.int z9))) (show (μ 0 6 : Int32) = if μ 0 5 = 0 then 0 else μ 0 6 from (by first | rfl | (simp [atO, b2i, c_1]; done))), by rw [hT9]; exact hP, hS.F hT9⟩) hS.2.2 dX10_rejectionDetail_27

theorem wi_X10_causeReason_X10 : ∀ w ∈ wsX100, w ∈ wsX10_causeReason := by decide +kernel
set_option maxHeartbeats 4000000 in
set_option maxRecDepth 100000 in
theorem c_X10_causeReason (l : Launch) (D : va_G) (am : Nat → Nat) (cy : Nat → ClassId) (μ : Nat → Nat → Int32) (sz : Nat) (hi : sp_inj am 5) (n : Nat) (t : Nat) (hM : MS (μ 1) n t) : Met l yX10_causeReason wsX10_causeReason ({ frames := 1, cells := 0, slots := 0, locals := 21 } : Room) (sp_Pm D (tyG cy) sz [.ref (am (0))] (mW am cy μ)) (sp_Q D (some (.int (if μ 0 7 = 0 then 0 else μ 0 7))) (mW am cy (sp_st μ 0 0 (if μ 0 7 = 0 then 1 else 0))) (sp_A am 5 sz)) 0 0 (sp_A am 5 sz) := by
  refine Met.ofW (cc := cX10_causeReason) (maxL := 1) (ret := (some .int)) (by decide) rfl ?_
  intro p e s m args below meth c s₁ B hml hv
  obtain ⟨rfl, hsz, hP, hK⟩ := hv
  have hx := B.exec
  have hb := B.bytes
  have hr := B.returns
  have hts := atoms_spec (ws := wsX10_causeReason) B.pre
  have hown : s.vm.findClass RX10 = some m.cls := findClass_of_methodNamed B.named
  have hlocks := B.notSynchronized
  subst hsz
  have hS : va_S (sp_A am 5 s.heap.size) s.heap s.heap [] := va_S.rf
  have hAk : ∀ k, k < 5 → (sp_A am 5 s.heap.size) (am k) := fun k hk => Or.inl ⟨k, hk, rfl⟩
  skip
  have hn30 := hM.2.1
  have ht6 := hM.2.2.2
  have hl := lv_entry ([.ref (am (0))]) (n := 1) (Nat.le_of_ble_eq_true rfl)
  refine W.eq (lg_entry_eq _ ([.ref (am (0))]) _) ?_
  generalize (lg_sl ([.ref (am (0))]) ++ List.replicate (1 - (lg_sl ([.ref (am (0))])).length) Slot.unset).toArray = ls at hl ⊢
  have hl : lv_has ls 1 [(0, .ref (am (0)))] := hl
  refine lv_aload_n hx hb dX10_causeReason_0 rfl (lv_at hl 0 rfl) ?_
  refine lv_aload_n hx hb dX10_causeReason_1 rfl (lv_at hl 0 rfl) ?_
  refine sp_get hx hb hts wi_X10_causeReason_X10 hown hK hP (κ := 0) (by decide) mE_0 rfl 7 (by decide) (hts _ (List.mem_of_getElem? (i := 1) rfl)) (fun _ h => h) rfl dX10_causeReason_2 ?_
  refine lv_if_eq (tgt := 12) hx hb dX10_causeReason_5 (by decide) (fun c_1 => ?_) (fun c_1 => ?_)
  · skip
    refine lv_iconst (v := 0) hx hb dX10_causeReason_12 (by decide) ?_
    refine sp_callm (va_runV (As := [.int (0)]) (rest := []) ⟨hx, hb, hml, hown, hts⟩ (c_X10_isFine_0 l D am cy μ _ hi ) (cwV 1 hts gX10_causeReason_X10_isFine rfl rfl rfl (by decide +kernel) ⟨Nat.le_of_ble_eq_true rfl, Nat.le_of_ble_eq_true rfl⟩) (sp_preVm hK hP (κ := 0) (by decide) mE_0 rfl) rfl rfl hl.1 rfl (lv_room (Nat.le_of_ble_eq_true rfl)) dX10_causeReason_13 ⟨Nat.le_of_ble_eq_true rfl, Nat.le_of_ble_eq_true rfl⟩) hS (fun q h1 h2 => sp_Alt h1 h2) (sp_Ale hS.1) (fun H locs hP hle hfr hS => ?_)
    refine W.eq (g2 := F0 m 16 ls [.int (0)]) rfl ?_
    refine lv_if_eq (tgt := 26) hx hb dX10_causeReason_16 (by decide) (fun c_2 => ?_) (fun c_2 => ?_)
    · skip
      refine lv_iconst (v := 0) hx hb dX10_causeReason_26 (by decide) ?_
      have hE9 : mW am cy (sp_st μ 0 0 1) = mW am cy (sp_st μ 0 0 (if μ 0 7 = 0 then 1 else 0)) := by exact mW_eq (by simp [atO, b2i, atO, c_1])
      have hP : va_P D vwCl (mW am cy (sp_st μ 0 0 (if μ 0 7 = 0 then 1 else 0))) H := by rw [← hE9]; exact hP
      exact W.iret (v := 0) hx hb hr (fun T9 hT9 _ => ⟨congrArg (fun z9 => Outcome.returned (some (Value.int z9))) (show (0 : Int32) = if μ 0 7 = 0 then 0 else μ 0 7 from (by first | rfl | (simp [atO, b2i, c_1]; done))), by rw [hT9]; exact hP, hS.F hT9⟩) hS.2.2 dX10_causeReason_27
    · exact absurd c_2 (by decide)
  · skip
    refine lv_iconst (v := 1) hx hb dX10_causeReason_8 (by decide) ?_
    refine lv_goto (tgt := 13) hx hb dX10_causeReason_9 (by decide) ?_
    refine sp_callm (va_runV (As := [.int (1)]) (rest := []) ⟨hx, hb, hml, hown, hts⟩ (c_X10_isFine_1 l D am cy μ _ hi ) (cwV 1 hts gX10_causeReason_X10_isFine rfl rfl rfl (by decide +kernel) ⟨Nat.le_of_ble_eq_true rfl, Nat.le_of_ble_eq_true rfl⟩) (sp_preVm hK hP (κ := 0) (by decide) mE_0 rfl) rfl rfl hl.1 rfl (lv_room (Nat.le_of_ble_eq_true rfl)) dX10_causeReason_13 ⟨Nat.le_of_ble_eq_true rfl, Nat.le_of_ble_eq_true rfl⟩) hS (fun q h1 h2 => sp_Alt h1 h2) (sp_Ale hS.1) (fun H locs hP hle hfr hS => ?_)
    refine W.eq (g2 := F0 m 16 ls [.int (1)]) rfl ?_
    refine lv_if_eq (tgt := 26) hx hb dX10_causeReason_16 (by decide) (fun c_3 => ?_) (fun c_3 => ?_)
    · exact absurd c_3 (by decide)
    · skip
      refine lv_aload_n hx hb dX10_causeReason_19 rfl (lv_at hl 0 rfl) ?_
      refine sp_get hx hb hts wi_X10_causeReason_X10 hown hK hP (κ := 0) (by decide) mE_0 rfl 7 (by decide) (hts _ (List.mem_of_getElem? (i := 1) rfl)) (fun _ h => h) rfl dX10_causeReason_20 ?_
      refine W.eq (g2 := F0 m 23 ls [.int (μ 0 7)]) (by rw [sp_st_j _ _ _ _ _ _ (by decide)]) ?_
      refine lv_goto (tgt := 27) hx hb dX10_causeReason_23 (by decide) ?_
      have hE9 : mW am cy (sp_st μ 0 0 0) = mW am cy (sp_st μ 0 0 (if μ 0 7 = 0 then 1 else 0)) := by exact mW_eq (by simp [atO, b2i, atO, c_1])
      have hP : va_P D vwCl (mW am cy (sp_st μ 0 0 (if μ 0 7 = 0 then 1 else 0))) H := by rw [← hE9]; exact hP
      exact W.iret (v := μ 0 7) hx hb hr (fun T9 hT9 _ => ⟨congrArg (fun z9 => Outcome.returned (some (Value.int z9))) (show (μ 0 7 : Int32) = if μ 0 7 = 0 then 0 else μ 0 7 from (by first | rfl | (simp [atO, b2i, c_1]; done))), by rw [hT9]; exact hP, hS.F hT9⟩) hS.2.2 dX10_causeReason_27

theorem wi_X10_causeDetail_X10 : ∀ w ∈ wsX100, w ∈ wsX10_causeDetail := by decide +kernel
set_option maxHeartbeats 4000000 in
set_option maxRecDepth 100000 in
theorem c_X10_causeDetail (l : Launch) (D : va_G) (am : Nat → Nat) (cy : Nat → ClassId) (μ : Nat → Nat → Int32) (sz : Nat) (hi : sp_inj am 5) (n : Nat) (t : Nat) (hM : MS (μ 1) n t) : Met l yX10_causeDetail wsX10_causeDetail ({ frames := 1, cells := 0, slots := 0, locals := 21 } : Room) (sp_Pm D (tyG cy) sz [.ref (am (0))] (mW am cy μ)) (sp_Q D (some (.int (if μ 0 7 = 0 then 0 else μ 0 8))) (mW am cy (sp_st μ 0 0 (if μ 0 7 = 0 then 1 else 0))) (sp_A am 5 sz)) 0 0 (sp_A am 5 sz) := by
  refine Met.ofW (cc := cX10_causeDetail) (maxL := 1) (ret := (some .int)) (by decide) rfl ?_
  intro p e s m args below meth c s₁ B hml hv
  obtain ⟨rfl, hsz, hP, hK⟩ := hv
  have hx := B.exec
  have hb := B.bytes
  have hr := B.returns
  have hts := atoms_spec (ws := wsX10_causeDetail) B.pre
  have hown : s.vm.findClass RX10 = some m.cls := findClass_of_methodNamed B.named
  have hlocks := B.notSynchronized
  subst hsz
  have hS : va_S (sp_A am 5 s.heap.size) s.heap s.heap [] := va_S.rf
  have hAk : ∀ k, k < 5 → (sp_A am 5 s.heap.size) (am k) := fun k hk => Or.inl ⟨k, hk, rfl⟩
  skip
  have hn30 := hM.2.1
  have ht6 := hM.2.2.2
  have hl := lv_entry ([.ref (am (0))]) (n := 1) (Nat.le_of_ble_eq_true rfl)
  refine W.eq (lg_entry_eq _ ([.ref (am (0))]) _) ?_
  generalize (lg_sl ([.ref (am (0))]) ++ List.replicate (1 - (lg_sl ([.ref (am (0))])).length) Slot.unset).toArray = ls at hl ⊢
  have hl : lv_has ls 1 [(0, .ref (am (0)))] := hl
  refine lv_aload_n hx hb dX10_causeDetail_0 rfl (lv_at hl 0 rfl) ?_
  refine lv_aload_n hx hb dX10_causeDetail_1 rfl (lv_at hl 0 rfl) ?_
  refine sp_get hx hb hts wi_X10_causeDetail_X10 hown hK hP (κ := 0) (by decide) mE_0 rfl 7 (by decide) (hts _ (List.mem_of_getElem? (i := 1) rfl)) (fun _ h => h) rfl dX10_causeDetail_2 ?_
  refine lv_if_eq (tgt := 12) hx hb dX10_causeDetail_5 (by decide) (fun c_1 => ?_) (fun c_1 => ?_)
  · skip
    refine lv_iconst (v := 0) hx hb dX10_causeDetail_12 (by decide) ?_
    refine sp_callm (va_runV (As := [.int (0)]) (rest := []) ⟨hx, hb, hml, hown, hts⟩ (c_X10_isFine_0 l D am cy μ _ hi ) (cwV 1 hts gX10_causeDetail_X10_isFine rfl rfl rfl (by decide +kernel) ⟨Nat.le_of_ble_eq_true rfl, Nat.le_of_ble_eq_true rfl⟩) (sp_preVm hK hP (κ := 0) (by decide) mE_0 rfl) rfl rfl hl.1 rfl (lv_room (Nat.le_of_ble_eq_true rfl)) dX10_causeDetail_13 ⟨Nat.le_of_ble_eq_true rfl, Nat.le_of_ble_eq_true rfl⟩) hS (fun q h1 h2 => sp_Alt h1 h2) (sp_Ale hS.1) (fun H locs hP hle hfr hS => ?_)
    refine W.eq (g2 := F0 m 16 ls [.int (0)]) rfl ?_
    refine lv_if_eq (tgt := 26) hx hb dX10_causeDetail_16 (by decide) (fun c_2 => ?_) (fun c_2 => ?_)
    · skip
      refine lv_iconst (v := 0) hx hb dX10_causeDetail_26 (by decide) ?_
      have hE9 : mW am cy (sp_st μ 0 0 1) = mW am cy (sp_st μ 0 0 (if μ 0 7 = 0 then 1 else 0)) := by exact mW_eq (by simp [atO, b2i, atO, c_1])
      have hP : va_P D vwCl (mW am cy (sp_st μ 0 0 (if μ 0 7 = 0 then 1 else 0))) H := by rw [← hE9]; exact hP
      exact W.iret (v := 0) hx hb hr (fun T9 hT9 _ => ⟨congrArg (fun z9 => Outcome.returned (some (Value.int z9))) (show (0 : Int32) = if μ 0 7 = 0 then 0 else μ 0 8 from (by first | rfl | (simp [atO, b2i, c_1]; done))), by rw [hT9]; exact hP, hS.F hT9⟩) hS.2.2 dX10_causeDetail_27
    · exact absurd c_2 (by decide)
  · skip
    refine lv_iconst (v := 1) hx hb dX10_causeDetail_8 (by decide) ?_
    refine lv_goto (tgt := 13) hx hb dX10_causeDetail_9 (by decide) ?_
    refine sp_callm (va_runV (As := [.int (1)]) (rest := []) ⟨hx, hb, hml, hown, hts⟩ (c_X10_isFine_1 l D am cy μ _ hi ) (cwV 1 hts gX10_causeDetail_X10_isFine rfl rfl rfl (by decide +kernel) ⟨Nat.le_of_ble_eq_true rfl, Nat.le_of_ble_eq_true rfl⟩) (sp_preVm hK hP (κ := 0) (by decide) mE_0 rfl) rfl rfl hl.1 rfl (lv_room (Nat.le_of_ble_eq_true rfl)) dX10_causeDetail_13 ⟨Nat.le_of_ble_eq_true rfl, Nat.le_of_ble_eq_true rfl⟩) hS (fun q h1 h2 => sp_Alt h1 h2) (sp_Ale hS.1) (fun H locs hP hle hfr hS => ?_)
    refine W.eq (g2 := F0 m 16 ls [.int (1)]) rfl ?_
    refine lv_if_eq (tgt := 26) hx hb dX10_causeDetail_16 (by decide) (fun c_3 => ?_) (fun c_3 => ?_)
    · exact absurd c_3 (by decide)
    · skip
      refine lv_aload_n hx hb dX10_causeDetail_19 rfl (lv_at hl 0 rfl) ?_
      refine sp_get hx hb hts wi_X10_causeDetail_X10 hown hK hP (κ := 0) (by decide) mE_0 rfl 8 (by decide) (hts _ (List.mem_of_getElem? (i := 2) rfl)) (fun _ h => h) rfl dX10_causeDetail_20 ?_
      refine W.eq (g2 := F0 m 23 ls [.int (μ 0 8)]) (by rw [sp_st_j _ _ _ _ _ _ (by decide)]) ?_
      refine lv_goto (tgt := 27) hx hb dX10_causeDetail_23 (by decide) ?_
      have hE9 : mW am cy (sp_st μ 0 0 0) = mW am cy (sp_st μ 0 0 (if μ 0 7 = 0 then 1 else 0)) := by exact mW_eq (by simp [atO, b2i, atO, c_1])
      have hP : va_P D vwCl (mW am cy (sp_st μ 0 0 (if μ 0 7 = 0 then 1 else 0))) H := by rw [← hE9]; exact hP
      exact W.iret (v := μ 0 8) hx hb hr (fun T9 hT9 _ => ⟨congrArg (fun z9 => Outcome.returned (some (Value.int z9))) (show (μ 0 8 : Int32) = if μ 0 7 = 0 then 0 else μ 0 8 from (by first | rfl | (simp [atO, b2i, c_1]; done))), by rw [hT9]; exact hP, hS.F hT9⟩) hS.2.2 dX10_causeDetail_27

theorem wi_X10_thrown_X10 : ∀ w ∈ wsX100, w ∈ wsX10_thrown := by decide +kernel
set_option maxHeartbeats 4000000 in
set_option maxRecDepth 100000 in
theorem c_X10_thrown (l : Launch) (D : va_G) (am : Nat → Nat) (cy : Nat → ClassId) (μ : Nat → Nat → Int32) : Met l yX10_thrown wsX10_thrown ({ frames := 0, cells := 0, slots := 0, locals := 0 } : Room) (sp_Pc D (tyG cy) [.ref (am (0))] (mW am cy μ)) (sp_S (some (.int (μ 0 0)))) 0 0 (fun _ => False) := by
  refine Met.ofW (cc := cX10_thrown) (maxL := 1) (ret := (some .int)) (by decide) rfl ?_
  intro p e s m args below meth c s₁ B hml hv
  obtain ⟨rfl, hP, hK⟩ := hv
  have hx := B.exec
  have hb := B.bytes
  have hr := B.returns
  have hts := atoms_spec (ws := wsX10_thrown) B.pre
  have hown : s.vm.findClass RX10 = some m.cls := findClass_of_methodNamed B.named
  have hlocks := B.notSynchronized
  have hl := lv_entry ([.ref (am (0))]) (n := 1) (Nat.le_of_ble_eq_true rfl)
  refine W.eq (lg_entry_eq _ ([.ref (am (0))]) _) ?_
  generalize (lg_sl ([.ref (am (0))]) ++ List.replicate (1 - (lg_sl ([.ref (am (0))])).length) Slot.unset).toArray = ls at hl ⊢
  have hl : lv_has ls 1 [(0, .ref (am (0)))] := hl
  refine lv_aload_n hx hb dX10_thrown_0 rfl (lv_at hl 0 rfl) ?_
  refine sp_get hx hb hts wi_X10_thrown_X10 hown hK hP (κ := 0) (by decide) mE_0 rfl 0 (by decide) (hts _ (List.mem_of_getElem? (i := 1) rfl)) (fun _ h => h) rfl dX10_thrown_1 ?_
  exact W.iret (v := μ 0 0) hx hb hr (fun T9 hT9 _ => ⟨congrArg (fun z9 => Outcome.returned (some (Value.int z9))) (show (μ 0 0 : Int32) = μ 0 0 from (by first | rfl | (simp [b2i]; done))), hT9⟩) (fun _ h => by cases h) dX10_thrown_4

theorem wi_X10_undoCount_X10 : ∀ w ∈ wsX100, w ∈ wsX10_undoCount := by decide +kernel
set_option maxHeartbeats 4000000 in
set_option maxRecDepth 100000 in
theorem c_X10_undoCount (l : Launch) (D : va_G) (am : Nat → Nat) (cy : Nat → ClassId) (μ : Nat → Nat → Int32) (sz : Nat) (hi : sp_inj am 5) (n : Nat) (t : Nat) (hM : MS (μ 1) n t) : Met l yX10_undoCount wsX10_undoCount ({ frames := 0, cells := 0, slots := 0, locals := 0 } : Room) (sp_Pm D (tyG cy) sz [.ref (am (0))] (mW am cy μ)) (sp_Q D (some (.int (μ 0 2))) (mW am cy (sp_st μ 0 0 0)) (sp_A am 5 sz)) 0 0 (sp_A am 5 sz) := by
  refine Met.ofW (cc := cX10_undoCount) (maxL := 1) (ret := (some .int)) (by decide) rfl ?_
  intro p e s m args below meth c s₁ B hml hv
  obtain ⟨rfl, hsz, hP, hK⟩ := hv
  have hx := B.exec
  have hb := B.bytes
  have hr := B.returns
  have hts := atoms_spec (ws := wsX10_undoCount) B.pre
  have hown : s.vm.findClass RX10 = some m.cls := findClass_of_methodNamed B.named
  have hlocks := B.notSynchronized
  subst hsz
  have hS : va_S (sp_A am 5 s.heap.size) s.heap s.heap [] := va_S.rf
  have hAk : ∀ k, k < 5 → (sp_A am 5 s.heap.size) (am k) := fun k hk => Or.inl ⟨k, hk, rfl⟩
  skip
  have hn30 := hM.2.1
  have ht6 := hM.2.2.2
  have hl := lv_entry ([.ref (am (0))]) (n := 1) (Nat.le_of_ble_eq_true rfl)
  refine W.eq (lg_entry_eq _ ([.ref (am (0))]) _) ?_
  generalize (lg_sl ([.ref (am (0))]) ++ List.replicate (1 - (lg_sl ([.ref (am (0))])).length) Slot.unset).toArray = ls at hl ⊢
  have hl : lv_has ls 1 [(0, .ref (am (0)))] := hl
  refine lv_aload_n hx hb dX10_undoCount_0 rfl (lv_at hl 0 rfl) ?_
  refine lv_iconst (v := 0) hx hb dX10_undoCount_1 (by decide) ?_
  refine sp_put hx hb hts wi_X10_undoCount_X10 tyX10 tyX10_ok nmX10 hown hK hP hi hAk hS (κ := 0) (by decide) mE_0 rfl 0 (by decide) (hts _ (List.mem_of_getElem? (i := 1) rfl)) (fun _ h => h) rfl (ty := tyX10 0) (by decide +kernel) ⟨rfl, rfl⟩ (Nat.le_of_ble_eq_true rfl) (r1 := upd (μ 0) 0 0) (cE_of mE_0 (by simp [upd])) dX10_undoCount_2 (fun H locs hP hS => ?_)
  have hP : va_P D vwCl (mW am cy (sp_st μ 0 0 0)) H := hP
  refine lv_aload_n hx hb dX10_undoCount_5 rfl (lv_at hl 0 rfl) ?_
  refine sp_get hx hb hts wi_X10_undoCount_X10 hown hK hP (κ := 0) (by decide) mE_0 rfl 2 (by decide) (hts _ (List.mem_of_getElem? (i := 2) rfl)) (fun _ h => h) rfl dX10_undoCount_6 ?_
  refine W.eq (g2 := F0 m 9 ls [.int (μ 0 2)]) (by rw [sp_st_j _ _ _ _ _ _ (by decide)]) ?_
  exact W.iret (v := μ 0 2) hx hb hr (fun T9 hT9 _ => ⟨congrArg (fun z9 => Outcome.returned (some (Value.int z9))) (show (μ 0 2 : Int32) = μ 0 2 from (by first | rfl | (simp [atO, b2i]; done))), by rw [hT9]; exact hP, hS.F hT9⟩) hS.2.2 dX10_undoCount_9

theorem wi_X10_syntaxErrorOffset_X10 : ∀ w ∈ wsX100, w ∈ wsX10_syntaxErrorOffset := by decide +kernel
set_option maxHeartbeats 4000000 in
set_option maxRecDepth 100000 in
theorem c_X10_syntaxErrorOffset (l : Launch) (D : va_G) (am : Nat → Nat) (cy : Nat → ClassId) (μ : Nat → Nat → Int32) (sz : Nat) (hi : sp_inj am 5) (n : Nat) (t : Nat) (hM : MS (μ 1) n t) : Met l yX10_syntaxErrorOffset wsX10_syntaxErrorOffset ({ frames := 1, cells := 0, slots := 0, locals := 21 } : Room) (sp_Pm D (tyG cy) sz [.ref (am (0))] (mW am cy μ)) (sp_Q D (some (.int (if μ 0 15 = -1 then 0 else μ 0 15))) (mW am cy (sp_st μ 0 0 (if μ 0 15 = -1 then 1 else 0))) (sp_A am 5 sz)) 0 0 (sp_A am 5 sz) := by
  refine Met.ofW (cc := cX10_syntaxErrorOffset) (maxL := 1) (ret := (some .int)) (by decide) rfl ?_
  intro p e s m args below meth c s₁ B hml hv
  obtain ⟨rfl, hsz, hP, hK⟩ := hv
  have hx := B.exec
  have hb := B.bytes
  have hr := B.returns
  have hts := atoms_spec (ws := wsX10_syntaxErrorOffset) B.pre
  have hown : s.vm.findClass RX10 = some m.cls := findClass_of_methodNamed B.named
  have hlocks := B.notSynchronized
  subst hsz
  have hS : va_S (sp_A am 5 s.heap.size) s.heap s.heap [] := va_S.rf
  have hAk : ∀ k, k < 5 → (sp_A am 5 s.heap.size) (am k) := fun k hk => Or.inl ⟨k, hk, rfl⟩
  skip
  have hn30 := hM.2.1
  have ht6 := hM.2.2.2
  have hl := lv_entry ([.ref (am (0))]) (n := 1) (Nat.le_of_ble_eq_true rfl)
  refine W.eq (lg_entry_eq _ ([.ref (am (0))]) _) ?_
  generalize (lg_sl ([.ref (am (0))]) ++ List.replicate (1 - (lg_sl ([.ref (am (0))])).length) Slot.unset).toArray = ls at hl ⊢
  have hl : lv_has ls 1 [(0, .ref (am (0)))] := hl
  refine lv_aload_n hx hb dX10_syntaxErrorOffset_0 rfl (lv_at hl 0 rfl) ?_
  refine lv_aload_n hx hb dX10_syntaxErrorOffset_1 rfl (lv_at hl 0 rfl) ?_
  refine sp_get hx hb hts wi_X10_syntaxErrorOffset_X10 hown hK hP (κ := 0) (by decide) mE_0 rfl 15 (by decide) (hts _ (List.mem_of_getElem? (i := 1) rfl)) (fun _ h => h) rfl dX10_syntaxErrorOffset_2 ?_
  refine lv_iconst (v := (-1)) hx hb dX10_syntaxErrorOffset_5 (by decide) ?_
  refine lv_icmp_eq (tgt := 13) hx hb dX10_syntaxErrorOffset_6 (by decide) (fun c_1 => ?_) (fun c_1 => ?_)
  · skip
    refine lv_iconst (v := 0) hx hb dX10_syntaxErrorOffset_13 (by decide) ?_
    refine sp_callm (va_runV (As := [.int (0)]) (rest := []) ⟨hx, hb, hml, hown, hts⟩ (c_X10_isFine_0 l D am cy μ _ hi ) (cwV 1 hts gX10_syntaxErrorOffset_X10_isFine rfl rfl rfl (by decide +kernel) ⟨Nat.le_of_ble_eq_true rfl, Nat.le_of_ble_eq_true rfl⟩) (sp_preVm hK hP (κ := 0) (by decide) mE_0 rfl) rfl rfl hl.1 rfl (lv_room (Nat.le_of_ble_eq_true rfl)) dX10_syntaxErrorOffset_14 ⟨Nat.le_of_ble_eq_true rfl, Nat.le_of_ble_eq_true rfl⟩) hS (fun q h1 h2 => sp_Alt h1 h2) (sp_Ale hS.1) (fun H locs hP hle hfr hS => ?_)
    refine W.eq (g2 := F0 m 17 ls [.int (0)]) rfl ?_
    refine lv_if_eq (tgt := 27) hx hb dX10_syntaxErrorOffset_17 (by decide) (fun c_2 => ?_) (fun c_2 => ?_)
    · skip
      refine lv_iconst (v := 0) hx hb dX10_syntaxErrorOffset_27 (by decide) ?_
      have hE9 : mW am cy (sp_st μ 0 0 1) = mW am cy (sp_st μ 0 0 (if μ 0 15 = -1 then 1 else 0)) := by exact mW_eq (by simp [atO, b2i, atO, c_1])
      have hP : va_P D vwCl (mW am cy (sp_st μ 0 0 (if μ 0 15 = -1 then 1 else 0))) H := by rw [← hE9]; exact hP
      exact W.iret (v := 0) hx hb hr (fun T9 hT9 _ => ⟨congrArg (fun z9 => Outcome.returned (some (Value.int z9))) (show (0 : Int32) = if μ 0 15 = -1 then 0 else μ 0 15 from (by first | rfl | (simp [atO, b2i, c_1]; done))), by rw [hT9]; exact hP, hS.F hT9⟩) hS.2.2 dX10_syntaxErrorOffset_28
    · exact absurd c_2 (by decide)
  · skip
    refine lv_iconst (v := 1) hx hb dX10_syntaxErrorOffset_9 (by decide) ?_
    refine lv_goto (tgt := 14) hx hb dX10_syntaxErrorOffset_10 (by decide) ?_
    refine sp_callm (va_runV (As := [.int (1)]) (rest := []) ⟨hx, hb, hml, hown, hts⟩ (c_X10_isFine_1 l D am cy μ _ hi ) (cwV 1 hts gX10_syntaxErrorOffset_X10_isFine rfl rfl rfl (by decide +kernel) ⟨Nat.le_of_ble_eq_true rfl, Nat.le_of_ble_eq_true rfl⟩) (sp_preVm hK hP (κ := 0) (by decide) mE_0 rfl) rfl rfl hl.1 rfl (lv_room (Nat.le_of_ble_eq_true rfl)) dX10_syntaxErrorOffset_14 ⟨Nat.le_of_ble_eq_true rfl, Nat.le_of_ble_eq_true rfl⟩) hS (fun q h1 h2 => sp_Alt h1 h2) (sp_Ale hS.1) (fun H locs hP hle hfr hS => ?_)
    refine W.eq (g2 := F0 m 17 ls [.int (1)]) rfl ?_
    refine lv_if_eq (tgt := 27) hx hb dX10_syntaxErrorOffset_17 (by decide) (fun c_3 => ?_) (fun c_3 => ?_)
    · exact absurd c_3 (by decide)
    · skip
      refine lv_aload_n hx hb dX10_syntaxErrorOffset_20 rfl (lv_at hl 0 rfl) ?_
      refine sp_get hx hb hts wi_X10_syntaxErrorOffset_X10 hown hK hP (κ := 0) (by decide) mE_0 rfl 15 (by decide) (hts _ (List.mem_of_getElem? (i := 1) rfl)) (fun _ h => h) rfl dX10_syntaxErrorOffset_21 ?_
      refine W.eq (g2 := F0 m 24 ls [.int (μ 0 15)]) (by rw [sp_st_j _ _ _ _ _ _ (by decide)]) ?_
      refine lv_goto (tgt := 28) hx hb dX10_syntaxErrorOffset_24 (by decide) ?_
      have hE9 : mW am cy (sp_st μ 0 0 0) = mW am cy (sp_st μ 0 0 (if μ 0 15 = -1 then 1 else 0)) := by exact mW_eq (by simp [atO, b2i, atO, c_1])
      have hP : va_P D vwCl (mW am cy (sp_st μ 0 0 (if μ 0 15 = -1 then 1 else 0))) H := by rw [← hE9]; exact hP
      exact W.iret (v := μ 0 15) hx hb hr (fun T9 hT9 _ => ⟨congrArg (fun z9 => Outcome.returned (some (Value.int z9))) (show (μ 0 15 : Int32) = if μ 0 15 = -1 then 0 else μ 0 15 from (by first | rfl | (simp [atO, b2i, c_1]; done))), by rw [hT9]; exact hP, hS.F hT9⟩) hS.2.2 dX10_syntaxErrorOffset_28

