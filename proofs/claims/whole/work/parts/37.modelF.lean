
/-! the model's writing -/
def m_wr (μ : Nat → Nat → Int32) (os : Nat) (x : Int32) : Nat → Nat → Int32 := sp_st (sp_st μ 2 os (cz x)) 0 10 (nI os + 1)
theorem m_wr_1 (μ : Nat → Nat → Int32) (os : Nat) (x : Int32) : m_wr μ os x 1 = μ 1 := by
  funext j; unfold m_wr; rw [sp_st_k _ _ _ _ _ _ (by decide), sp_st_k _ _ _ _ _ _ (by decide)]
theorem m_wr_10 (μ : Nat → Nat → Int32) (os : Nat) (x : Int32) : m_wr μ os x 0 10 = nI (os + 1) := by
  unfold m_wr; rw [sp_st_s]; exact (Int32.ofNat_add os 1).symm
theorem st_10 (μ : Nat → Nat → Int32) (v : Int32) : sp_st μ 0 10 v 0 10 = v := sp_st_s _ _ _ _
def m_w1 (s : Nat × (Nat → Nat → Int32)) (x : Int32) : Nat × (Nat → Nat → Int32) := (s.1 + 1, m_wr s.2 s.1 x)
def S_wt (μ : Nat → Nat → Int32) (n t : Nat) (x : Int32) (s : Nat × (Nat → Nat → Int32)) (k : Nat) : Nat × (Nat → Nat → Int32) := match m_po (μ 1) n x (nI k) with
  | none => s
  | some j =>
    if m_errs1 (μ 1) n t j ≤ 0 then
      (if gP (μ 1) j 7 ≤ 0 then m_w1 s (if gP (μ 1) j 5 = 1 then 76 else 82) else m_w1 (m_w1 s (if gP (μ 1) j 5 = 1 then 76 else 82)) 63)
    else m_w1 (if gP (μ 1) j 7 ≤ 0 then m_w1 s (if gP (μ 1) j 5 = 1 then 76 else 82) else m_w1 (m_w1 s (if gP (μ 1) j 5 = 1 then 76 else 82)) 63) 33
def m_wt (μ : Nat → Nat → Int32) (n t : Nat) (x : Int32) (i : Nat) : Nat × (Nat → Nat → Int32) := foldI (S_wt μ n t x) (0, sp_st (sp_st μ 0 0 0) 0 10 0) i
theorem m_wt_s (μ : Nat → Nat → Int32) (n t : Nat) (x : Int32) (i : Nat) : m_wt μ n t x (i + 1) = S_wt μ n t x (m_wt μ n t x i) i := rfl
/-- a step keeps what every write keeps -/
theorem S_wt_ind {μ : Nat → Nat → Int32} {n t : Nat} {x : Int32} {s : Nat × (Nat → Nat → Int32)} {k : Nat} (G : Nat × (Nat → Nat → Int32) → Prop) (h : G s) (hs : ∀ z v, G z → G (m_w1 z v)) : G (S_wt μ n t x s k) := by
  unfold S_wt
  rcases m_po (μ 1) n x (nI k) with _ | j
  · exact h
  · show G (if _ then _ else _)
    split
    · split
      · exact hs _ _ h
      · exact hs _ _ (hs _ _ h)
    · split
      · exact hs _ _ (hs _ _ h)
      · exact hs _ _ (hs _ _ (hs _ _ h))
theorem m_wt_1 (μ : Nat → Nat → Int32) (n t : Nat) (x : Int32) : ∀ i : Nat, (m_wt μ n t x i).2 1 = μ 1
  | 0 => by funext j; show sp_st (sp_st μ 0 0 0) 0 10 0 1 j = _; rw [sp_st_k _ _ _ _ _ _ (by decide), sp_st_k _ _ _ _ _ _ (by decide)]
  | i + 1 => by
    rw [m_wt_s]
    exact S_wt_ind (fun z => z.2 1 = μ 1) (m_wt_1 μ n t x i) (fun z v hz => (m_wr_1 z.2 z.1 v).trans hz)
theorem m_wt_10 {μ : Nat → Nat → Int32} {n t : Nat} {x : Int32} : ∀ {i : Nat}, (m_wt μ n t x i).2 0 10 = nI (m_wt μ n t x i).1
  | 0 => by show sp_st (sp_st μ 0 0 0) 0 10 0 0 10 = nI 0; rw [sp_st_s]; decide
  | i + 1 => by
    rw [m_wt_s]
    exact S_wt_ind (fun z => z.2 0 10 = nI z.1) (m_wt_10 (i := i)) (fun z v _ => m_wr_10 z.2 z.1 v)
theorem S_wt_3 {μ : Nat → Nat → Int32} {n t : Nat} {x : Int32} {s : Nat × (Nat → Nat → Int32)} {k : Nat} : (S_wt μ n t x s k).1 ≤ s.1 + 3 := by
  unfold S_wt
  rcases m_po (μ 1) n x (nI k) with _ | j
  · show s.1 ≤ s.1 + 3; omega
  · show (if _ then _ else _ : Nat × (Nat → Nat → Int32)).1 ≤ s.1 + 3
    split
    · split
      · show s.1 + 1 ≤ s.1 + 3; omega
      · show s.1 + 1 + 1 ≤ s.1 + 3; omega
    · split
      · show s.1 + 1 + 1 ≤ s.1 + 3; omega
      · show s.1 + 1 + 1 + 1 ≤ s.1 + 3; omega
theorem m_wt_le {μ : Nat → Nat → Int32} {n t : Nat} {x : Int32} {i : Nat} (h : (m_wt μ n t x i).1 ≤ 3 * i) : (m_wt μ n t x (i + 1)).1 ≤ 3 * (i + 1) := by
  rw [m_wt_s]
  have := S_wt_3 (μ := μ) (n := n) (t := t) (x := x) (s := m_wt μ n t x i) (k := i)
  omega
def m_sg (μ : Nat → Int32) (n : Nat) (r c1 : Int32) : Int32 := if r < μ 4 then 126 else match m_cell μ n r c1 with
  | none => 46
  | some k => 48 + (gP μ k 0 - gP μ k 0 / 10 * 10)
def m_wo (μ : Nat → Nat → Int32) (n : Nat) (r : Int32) : Nat → Nat → Nat → Int32
  | 0 => sp_st (sp_st μ 0 0 0) 0 10 0
  | i + 1 => m_wr (m_wo μ n r i) i (m_sg (μ 1) n r (nI i))
theorem m_wo_s (μ : Nat → Nat → Int32) (n : Nat) (r : Int32) (i : Nat) : m_wo μ n r (i + 1) = m_wr (m_wo μ n r i) i (m_sg (μ 1) n r (nI i)) := rfl
theorem m_wo_1 (μ : Nat → Nat → Int32) (n : Nat) (r : Int32) : ∀ i : Nat, m_wo μ n r i 1 = μ 1
  | 0 => by funext j; show sp_st (sp_st μ 0 0 0) 0 10 0 1 j = _; rw [sp_st_k _ _ _ _ _ _ (by decide), sp_st_k _ _ _ _ _ _ (by decide)]
  | i + 1 => by rw [m_wo_s, m_wr_1]; exact m_wo_1 μ n r i
theorem m_wo_10 (μ : Nat → Nat → Int32) (n : Nat) (r : Int32) : ∀ i : Nat, m_wo μ n r i 0 10 = nI i
  | 0 => by show sp_st (sp_st μ 0 0 0) 0 10 0 0 10 = nI 0; rw [sp_st_s]; decide
  | i + 1 => by rw [m_wo_s, m_wr_10]
theorem m_in_os {x : Int32} {os : Nat} (h : ¬ m_in x 0 (nI os - 1) = false) (ho : os ≤ 100) : 0 ≤ x ∧ tn x < 100 := by
  simp only [m_in, Bool.not_eq_false, Bool.and_eq_true, decide_eq_true_eq] at h
  refine ⟨h.1, ?_⟩
  have h3 : x < nI 100 := by
    rcases Nat.eq_zero_or_pos os with h9 | h9
    · subst h9
      exact Int32.lt_of_le_of_lt h.2 (by decide)
    · have h4 : nI os - 1 = nI (os - 1) := nI_subE rfl rfl (by omega)
      rw [h4] at h
      exact Int32.lt_of_le_of_lt h.2 (nI_lt (by omega) (by decide))
  exact tn_lt h.1 (by decide) h3
theorem nI_lt60 {n : Nat} (h : ¬ nI n = 60) (hn : n ≤ 60) : n < 60 := by
  rcases Nat.lt_or_ge n 60 with h9 | h9
  · exact h9
  · exact absurd (show nI n = 60 by rw [show n = 60 by omega]; rfl) h
theorem wi_X10_writes_X10 : ∀ w ∈ wsX100, w ∈ wsX10_writes := by decide +kernel
set_option maxHeartbeats 4000000 in
set_option maxRecDepth 100000 in
theorem c_X10_writes (l : Launch) (D : va_G) (am : Nat → Nat) (cy : Nat → ClassId) (μ : Nat → Nat → Int32) (sz : Nat) (hi : sp_inj am 5) (x : Int32) (os : Nat) (hos : μ 0 10 = nI os) (ho9 : os < 100) : Met l yX10_writes wsX10_writes ({ frames := 0, cells := 0, slots := 0, locals := 0 } : Room) (sp_Pm D (tyG cy) sz [.ref (am (0)), .int (x)] (mW am cy μ)) (sp_Q D (none) (mW am cy (m_wr μ os x)) (sp_A am 5 sz)) 0 0 (sp_A am 5 sz) := by
  refine Met.ofW (cc := cX10_writes) (maxL := 2) (ret := none) (by decide) rfl ?_
  intro p e s m args below meth c s₁ B hml hv
  obtain ⟨rfl, hsz, hP, hK⟩ := hv
  have hx := B.exec
  have hb := B.bytes
  have hr := B.returns
  have hts := atoms_spec (ws := wsX10_writes) B.pre
  have hown : s.vm.findClass RX10 = some m.cls := findClass_of_methodNamed B.named
  have hlocks := B.notSynchronized
  subst hsz
  have hS : va_S (sp_A am 5 s.heap.size) s.heap s.heap [] := va_S.rf
  have hAk : ∀ k, k < 5 → (sp_A am 5 s.heap.size) (am k) := fun k hk => Or.inl ⟨k, hk, rfl⟩
  skip
  have hl := lv_entry ([.ref (am (0)), .int (x)]) (n := 2) (Nat.le_of_ble_eq_true rfl)
  refine W.eq (lg_entry_eq _ ([.ref (am (0)), .int (x)]) _) ?_
  generalize (lg_sl ([.ref (am (0)), .int (x)]) ++ List.replicate (2 - (lg_sl ([.ref (am (0)), .int (x)])).length) Slot.unset).toArray = ls at hl ⊢
  have hl : lv_has ls 2 [(0, .ref (am (0))), (1, .int (x))] := hl
  refine lv_aload_n hx hb dX10_writes_0 rfl (lv_at hl 0 rfl) ?_
  refine sp_get hx hb hts wi_X10_writes_X10 hown hK hP (κ := 0) (by decide) mE_0 rfl 9 (by decide) (hts _ (List.mem_of_getElem? (i := 1) rfl)) (fun _ h => h) rfl dX10_writes_1 ?_
  refine lv_aload_n hx hb dX10_writes_4 rfl (lv_at hl 0 rfl) ?_
  refine sp_get hx hb hts wi_X10_writes_X10 hown hK hP (κ := 0) (by decide) mE_0 rfl 10 (by decide) (hts _ (List.mem_of_getElem? (i := 2) rfl)) (fun _ h => h) rfl dX10_writes_5 ?_
  refine W.eq (g2 := F0 m 8 ls [.int (nI os), .ref (am (2))]) (by rw [hos]) ?_
  refine lv_iload_n hx hb dX10_writes_8 rfl (lv_at hl 1 rfl) ?_
  refine lv_i2c hx hb dX10_writes_9 rfl ?_
  refine W.eq (g2 := F0 m 10 ls [.int (cz x), .int (nI os), .ref (am (2))]) rfl ?_
  refine sp_cast hx hb hK hP hi hAk hS (κ := 2) (by decide) 0 mE_2 rfl os rfl (by omega) (by decide) (r1 := upd (μ 2) os (cz x)) (by rw [mE_2, cz_upd]) dX10_writes_10 (fun H locs hP hS => ?_)
  have hP : va_P D vwCl (mW am cy (sp_st μ 2 os (cz x))) H := hP
  refine lv_aload_n hx hb dX10_writes_11 rfl (lv_at hl 0 rfl) ?_
  refine lv_dup hx hb dX10_writes_12 rfl ?_
  refine sp_get hx hb hts wi_X10_writes_X10 hown hK hP (κ := 0) (by decide) mE_0 rfl 10 (by decide) (hts _ (List.mem_of_getElem? (i := 2) rfl)) (fun _ h => h) rfl dX10_writes_13 ?_
  refine W.eq (g2 := F0 m 16 ls [.int (μ 0 10), .ref (am (0))]) (by rw [sp_st_k _ _ _ _ _ _ (by omega)]) ?_
  refine W.eq (g2 := F0 m 16 ls [.int (nI os), .ref (am (0))]) (by rw [hos]) ?_
  refine lv_iconst (v := 1) hx hb dX10_writes_16 (by decide) ?_
  refine lv_iadd hx hb dX10_writes_17 ?_
  refine sp_put hx hb hts wi_X10_writes_X10 tyX10 tyX10_ok nmX10 hown hK hP hi hAk hS (κ := 0) (by decide) mE_0 rfl 10 (by decide) (hts _ (List.mem_of_getElem? (i := 2) rfl)) (fun _ h => h) rfl (ty := tyX10 10) (by decide +kernel) ⟨rfl, rfl⟩ (Nat.le_of_ble_eq_true rfl) (r1 := upd ((sp_st μ 2 os (cz x)) 0) 10 ((nI os) + 1)) (cE_of mE_0 (by simp [upd])) dX10_writes_18 (fun H locs hP hS => ?_)
  have hP : va_P D vwCl (mW am cy (sp_st (sp_st μ 2 os (cz x)) 0 10 ((nI os) + 1))) H := hP
  have hE9 : mW am cy (sp_st (sp_st μ 2 os (cz x)) 0 10 ((nI os) + 1)) = mW am cy (m_wr μ os x) := by exact mW_eq rfl
  have hP : va_P D vwCl (mW am cy (m_wr μ os x)) H := by rw [← hE9]; exact hP
  exact W.vret hx hb hr (fun T9 hT9 _ => ⟨rfl, by rw [hT9]; exact hP, hS.F hT9⟩) hS.2.2 dX10_writes_21

theorem wi_X10_writeTrack_X10 : ∀ w ∈ wsX100, w ∈ wsX10_writeTrack := by decide +kernel
set_option maxHeartbeats 4000000 in
set_option maxRecDepth 100000 in
theorem c_X10_writeTrack (l : Launch) (D : va_G) (am : Nat → Nat) (cy : Nat → ClassId) (μ : Nat → Nat → Int32) (sz : Nat) (hi : sp_inj am 5) (n : Nat) (t : Nat) (hM : MS (μ 1) n t) (x : Int32) (cnt : Nat) (hcn : m_count (μ 1) n x = nI cnt) (hc30 : cnt ≤ 30) (hw : ∀ k, k < cnt → ∃ j, m_po (μ 1) n x (nI k) = some j) : Met l yX10_writeTrack wsX10_writeTrack ({ frames := 5, cells := 0, slots := 0, locals := 114 } : Room) (sp_Pm D (tyG cy) sz [.ref (am (0)), .int (x)] (mW am cy μ)) (sp_Q D (some (.int (atO (m_ft (μ 1) t x) 0 (fun _ => nI (m_wt μ n t x cnt).1)))) (mW am cy (atO (m_ft (μ 1) t x) (sp_st μ 0 0 1) (fun _ => (m_wt μ n t x cnt).2))) (sp_A am 5 sz)) 0 0 (sp_A am 5 sz) := by
  refine Met.ofW (cc := cX10_writeTrack) (maxL := 4) (ret := (some .int)) (by decide) rfl ?_
  intro p e s m args below meth c s₁ B hml hv
  obtain ⟨rfl, hsz, hP, hK⟩ := hv
  have hx := B.exec
  have hb := B.bytes
  have hr := B.returns
  have hts := atoms_spec (ws := wsX10_writeTrack) B.pre
  have hown : s.vm.findClass RX10 = some m.cls := findClass_of_methodNamed B.named
  have hlocks := B.notSynchronized
  subst hsz
  have hS : va_S (sp_A am 5 s.heap.size) s.heap s.heap [] := va_S.rf
  have hAk : ∀ k, k < 5 → (sp_A am 5 s.heap.size) (am k) := fun k hk => Or.inl ⟨k, hk, rfl⟩
  skip
  have hn30 := hM.2.1
  have ht6 := hM.2.2.2
  have hl := lv_entry ([.ref (am (0)), .int (x)]) (n := 4) (Nat.le_of_ble_eq_true rfl)
  refine W.eq (lg_entry_eq _ ([.ref (am (0)), .int (x)]) _) ?_
  generalize (lg_sl ([.ref (am (0)), .int (x)]) ++ List.replicate (4 - (lg_sl ([.ref (am (0)), .int (x)])).length) Slot.unset).toArray = ls at hl ⊢
  have hl : lv_has ls 4 [(0, .ref (am (0))), (1, .int (x))] := hl
  refine lv_aload_n hx hb dX10_writeTrack_0 rfl (lv_at hl 0 rfl) ?_
  refine lv_aload_n hx hb dX10_writeTrack_1 rfl (lv_at hl 0 rfl) ?_
  refine lv_iload_n hx hb dX10_writeTrack_2 rfl (lv_at hl 1 rfl) ?_
  refine sp_call (W.runV (As := [.int (x)]) (rest := [.ref (am (0))]) ⟨hx, hb, hml, hown, hts⟩ (c_X10_findTrack l D am cy μ n t (by first | exact hM | (simp only [m_wr_1, m_wt_1]; exact hM)) x) (cwV 1 hts gX10_writeTrack_X10_findTrack rfl rfl rfl (by decide +kernel) ⟨Nat.le_of_ble_eq_true rfl, Nat.le_of_ble_eq_true rfl⟩) (sp_preV hK hP (κ := 0) (by decide) mE_0 rfl) rfl rfl hl.1 rfl (lv_room (Nat.le_of_ble_eq_true rfl)) dX10_writeTrack_3 ⟨Nat.le_of_ble_eq_true rfl, Nat.le_of_ble_eq_true rfl⟩) ?_
  rcases opt_em (m_ft (μ 1) t x) with q_1 | ⟨j_2, q_1⟩
  · refine W.eq (g2 := F0 m 6 ls [.int ((-1)), .ref (am (0))]) (by rw [q_1]; rfl) ?_
    refine lv_if_lt (tgt := 13) hx hb dX10_writeTrack_6 (by decide) (fun c_3 => ?_) (fun c_3 => ?_)
    · skip
      refine lv_iconst (v := 0) hx hb dX10_writeTrack_13 (by decide) ?_
      refine sp_callm (va_runV (As := [.int (0)]) (rest := []) ⟨hx, hb, hml, hown, hts⟩ (c_X10_isFine_0 l D am cy μ _ hi ) (cwV 1 hts gX10_writeTrack_X10_isFine rfl rfl rfl (by decide +kernel) ⟨Nat.le_of_ble_eq_true rfl, Nat.le_of_ble_eq_true rfl⟩) (sp_preVm hK hP (κ := 0) (by decide) mE_0 rfl) rfl rfl hl.1 rfl (lv_room (Nat.le_of_ble_eq_true rfl)) dX10_writeTrack_14 ⟨Nat.le_of_ble_eq_true rfl, Nat.le_of_ble_eq_true rfl⟩) hS (fun q h1 h2 => sp_Alt h1 h2) (sp_Ale hS.1) (fun H locs hP hle hfr hS => ?_)
      refine W.eq (g2 := F0 m 17 ls [.int (0)]) rfl ?_
      refine lv_if_ne (tgt := 22) hx hb dX10_writeTrack_17 (by decide) (fun c_4 => ?_) (fun c_4 => ?_)
      · exact absurd c_4 (by decide)
      · skip
        refine lv_iconst (v := 0) hx hb dX10_writeTrack_20 (by decide) ?_
        have hE9 : mW am cy (sp_st μ 0 0 1) = mW am cy (atO (m_ft (μ 1) t x) (sp_st μ 0 0 1) (fun _ => (m_wt μ n t x cnt).2)) := by exact mW_eq (by simp [atO, b2i, q_1])
        have hP : va_P D vwCl (mW am cy (atO (m_ft (μ 1) t x) (sp_st μ 0 0 1) (fun _ => (m_wt μ n t x cnt).2))) H := by rw [← hE9]; exact hP
        exact W.iret (v := 0) hx hb hr (fun T9 hT9 _ => ⟨congrArg (fun z9 => Outcome.returned (some (Value.int z9))) (show (0 : Int32) = atO (m_ft (μ 1) t x) 0 (fun _ => nI (m_wt μ n t x cnt).1) from (by simp [atO, b2i, q_1])), by rw [hT9]; exact hP, hS.F hT9⟩) hS.2.2 dX10_writeTrack_21
    · exact absurd c_3 (by decide)
  · have hj_2 := m_ft_lt q_1
    refine W.eq (g2 := F0 m 6 ls [.int (nI j_2), .ref (am (0))]) (by rw [q_1]; rfl) ?_
    refine lv_if_lt (tgt := 13) hx hb dX10_writeTrack_6 (by decide) (fun c_5 => ?_) (fun c_5 => ?_)
    · exact absurd c_5 (nI_pos (by omega))
    · skip
      have c_5d := Int32.not_lt.mp c_5
      refine lv_iconst (v := 1) hx hb dX10_writeTrack_9 (by decide) ?_
      refine lv_goto (tgt := 14) hx hb dX10_writeTrack_10 (by decide) ?_
      refine sp_callm (va_runV (As := [.int (1)]) (rest := []) ⟨hx, hb, hml, hown, hts⟩ (c_X10_isFine_1 l D am cy μ _ hi ) (cwV 1 hts gX10_writeTrack_X10_isFine rfl rfl rfl (by decide +kernel) ⟨Nat.le_of_ble_eq_true rfl, Nat.le_of_ble_eq_true rfl⟩) (sp_preVm hK hP (κ := 0) (by decide) mE_0 rfl) rfl rfl hl.1 rfl (lv_room (Nat.le_of_ble_eq_true rfl)) dX10_writeTrack_14 ⟨Nat.le_of_ble_eq_true rfl, Nat.le_of_ble_eq_true rfl⟩) hS (fun q h1 h2 => sp_Alt h1 h2) (sp_Ale hS.1) (fun H locs hP hle hfr hS => ?_)
      refine W.eq (g2 := F0 m 17 ls [.int (1)]) rfl ?_
      refine lv_if_ne (tgt := 22) hx hb dX10_writeTrack_17 (by decide) (fun c_6 => ?_) (fun c_6 => ?_)
      · skip
        refine lv_aload_n hx hb dX10_writeTrack_22 rfl (lv_at hl 0 rfl) ?_
        refine lv_iconst (v := 0) hx hb dX10_writeTrack_23 (by decide) ?_
        refine sp_put hx hb hts wi_X10_writeTrack_X10 tyX10 tyX10_ok nmX10 hown hK hP hi hAk hS (κ := 0) (by decide) mE_0 rfl 10 (by decide) (hts _ (List.mem_of_getElem? (i := 1) rfl)) (fun _ h => h) rfl (ty := tyX10 10) (by decide +kernel) ⟨rfl, rfl⟩ (Nat.le_of_ble_eq_true rfl) (r1 := upd ((sp_st μ 0 0 0) 0) 10 0) (cE_of mE_0 (by simp [upd])) dX10_writeTrack_24 (fun H locs hP hS => ?_)
        have hP : va_P D vwCl (mW am cy (sp_st (sp_st μ 0 0 0) 0 10 0)) H := hP
        refine lv_iconst (v := 0) hx hb dX10_writeTrack_27 (by decide) ?_
        refine lv_istore_n (lv' := [(2, .int (0)), (0, .ref (am (0))), (1, .int (x))]) hx hb dX10_writeTrack_28 rfl hl (by decide) rfl (fun ls hl => ?_)
        have loop_29 : ∀ (fu i : Nat) (H : Heap) (locs : List Loc), (i ≤ cnt) → (cnt - i < fu) → ((m_wt μ n t x i).2 0 10 = nI (m_wt μ n t x i).1) → ((m_wt μ n t x i).1 ≤ 3 * i) → (va_P D vwCl (mW am cy ((m_wt μ n t x i).2)) H) → (va_S (sp_A am 5 s.heap.size) s.heap H locs) → ∀ ls : Array Slot, lv_has ls 4 [(2, .int (nI i)), (0, .ref (am (0))), (1, .int (x))] → W p l e (headSpec wsX10_writeTrack ({ frames := 5, cells := 0, slots := 0, locals := 114 } : Room)).room s m ([.ref (am (0)), .int (x)] : List Value).toArray below meth c H locs 0 0 (MQ below (sp_Q D (some (.int (atO (m_ft (μ 1) t x) 0 (fun _ => nI (m_wt μ n t x cnt).1)))) (mW am cy (atO (m_ft (μ 1) t x) (sp_st μ 0 0 1) (fun _ => (m_wt μ n t x cnt).2))) (sp_A am 5 s.heap.size)) ([.ref (am (0)), .int (x)] : List Value).toArray s 0 0 (sp_A am 5 s.heap.size)) (F0 m 29 ls []) := by
          intro fu
          induction fu with
          | zero => intro i H locs hle hlt hi_0 hi_1 hP hS ls hl; exact absurd hlt (Nat.not_lt_zero _)
          | succ fu ih =>
            intro i H locs hle hlt hi_0 hi_1 hP hS ls hl
            refine lv_iload_n hx hb dX10_writeTrack_29 rfl (lv_at hl 0 rfl) ?_
            refine lv_aload_n hx hb dX10_writeTrack_30 rfl (lv_at hl 1 rfl) ?_
            refine lv_iload_n hx hb dX10_writeTrack_31 rfl (lv_at hl 2 rfl) ?_
            refine sp_call (W.runV (As := [.int (x)]) (rest := [.int (nI i)]) ⟨hx, hb, hml, hown, hts⟩ (c_X10_countOf l D am cy ((m_wt μ n t x i).2) n t (by first | exact hM | (simp only [m_wr_1, m_wt_1]; exact hM)) x) (cwV 1 hts gX10_writeTrack_X10_countOf rfl rfl rfl (by decide +kernel) ⟨Nat.le_of_ble_eq_true rfl, Nat.le_of_ble_eq_true rfl⟩) (sp_preV hK hP (κ := 0) (by decide) mE_0 rfl) rfl rfl hl.1 rfl (lv_room (Nat.le_of_ble_eq_true rfl)) dX10_writeTrack_32 ⟨Nat.le_of_ble_eq_true rfl, Nat.le_of_ble_eq_true rfl⟩) ?_
            refine W.eq (g2 := F0 m 35 ls [.int (m_count (((m_wt μ n t x i).2) 1) n x), .int (nI i)]) rfl ?_
            refine W.eq (g2 := F0 m 35 ls [.int (m_count (μ 1) n x), .int (nI i)]) (by rw [(show (((m_wt μ n t x i).2) 1) = μ 1 from by simp only [m_wr_1, m_wt_1, m_wo_1])]) ?_
            refine W.eq (g2 := F0 m 35 ls [.int (nI cnt), .int (nI i)]) (by rw [hcn]) ?_
            refine lv_icmp_ge (tgt := 102) hx hb dX10_writeTrack_35 (by decide) (fun c_7 => ?_) (fun c_7 => ?_)
            · skip
              have c_7d := Int32.not_lt.mpr c_7
              have hx_i : i = cnt := by have := (nI_leI (a := cnt) (b := i) (by omega) (by omega)).mp c_7; omega
              try rw [hx_i] at hi_0
              try rw [hx_i] at hi_1
              rw [hx_i] at hP
              refine lv_aload_n hx hb dX10_writeTrack_102 rfl (lv_at hl 1 rfl) ?_
              refine sp_get hx hb hts wi_X10_writeTrack_X10 hown hK hP (κ := 0) (by decide) mE_0 rfl 10 (by decide) (hts _ (List.mem_of_getElem? (i := 1) rfl)) (fun _ h => h) rfl dX10_writeTrack_103 ?_
              refine W.eq (g2 := F0 m 106 ls [.int (nI ((m_wt μ n t x cnt).1))]) (by rw [(show (m_wt μ n t x cnt).2 0 10 = nI ((m_wt μ n t x cnt).1) from by first | exact hos | exact hi_0 | (rw [m_wr_10]; done) | (rw [m_wo_10]; done) | (rw [st_10]; done))]) ?_
              have hE9 : mW am cy ((m_wt μ n t x cnt).2) = mW am cy (atO (m_ft (μ 1) t x) (sp_st μ 0 0 1) (fun _ => (m_wt μ n t x cnt).2)) := by exact mW_eq (by simp [atO, b2i, q_1, c_5, c_5d])
              have hP : va_P D vwCl (mW am cy (atO (m_ft (μ 1) t x) (sp_st μ 0 0 1) (fun _ => (m_wt μ n t x cnt).2))) H := by rw [← hE9]; exact hP
              exact W.iret (v := nI ((m_wt μ n t x cnt).1)) hx hb hr (fun T9 hT9 _ => ⟨congrArg (fun z9 => Outcome.returned (some (Value.int z9))) (show (nI ((m_wt μ n t x cnt).1) : Int32) = atO (m_ft (μ 1) t x) 0 (fun _ => nI (m_wt μ n t x cnt).1) from (by simp [atO, b2i, q_1, c_5, c_5d])), by rw [hT9]; exact hP, hS.F hT9⟩) hS.2.2 dX10_writeTrack_106
            · skip
              have c_7d := Int32.not_le.mp c_7
              have hb_i : i < cnt := Nat.lt_of_not_le (fun z => c_7 (nI_le z (by omega)))
              refine lv_aload_n hx hb dX10_writeTrack_38 rfl (lv_at hl 1 rfl) ?_
              refine lv_iload_n hx hb dX10_writeTrack_39 rfl (lv_at hl 2 rfl) ?_
              refine lv_iload_n hx hb dX10_writeTrack_40 rfl (lv_at hl 0 rfl) ?_
              refine sp_call (W.runV (As := [.int (x), .int (nI i)]) (rest := []) ⟨hx, hb, hml, hown, hts⟩ (c_X10_printOf l D am cy ((m_wt μ n t x i).2) n t (by first | exact hM | (simp only [m_wr_1, m_wt_1]; exact hM)) x (nI i)) (cwV 2 hts gX10_writeTrack_X10_printOf rfl rfl rfl (by decide +kernel) ⟨Nat.le_of_ble_eq_true rfl, Nat.le_of_ble_eq_true rfl⟩) (sp_preV hK hP (κ := 0) (by decide) mE_0 rfl) rfl rfl hl.1 rfl (lv_room (Nat.le_of_ble_eq_true rfl)) dX10_writeTrack_41 ⟨Nat.le_of_ble_eq_true rfl, Nat.le_of_ble_eq_true rfl⟩) ?_
              rcases opt_em (m_po (μ 1) n x (nI i)) with q_8 | ⟨j_9, q_8⟩
              · exact absurd q_8 (fun z => by obtain ⟨j9, hj9⟩ := hw i hb_i; rw [hj9] at z; cases z)
              · have hj_9 := m_po_lt q_8
                refine W.eq (g2 := F0 m 44 ls [.int (nI j_9)]) (by rw [(show (((m_wt μ n t x i).2) 1) = μ 1 from by simp only [m_wr_1, m_wt_1, m_wo_1]), q_8]; rfl) ?_
                refine lv_istore_n (lv' := [(3, .int (nI j_9)), (2, .int (nI i)), (0, .ref (am (0))), (1, .int (x))]) hx hb dX10_writeTrack_44 rfl hl (by decide) rfl (fun ls hl => ?_)
                refine lv_aload_n hx hb dX10_writeTrack_45 rfl (lv_at hl 2 rfl) ?_
                refine lv_aload_n hx hb dX10_writeTrack_46 rfl (lv_at hl 2 rfl) ?_
                refine lv_iload_n hx hb dX10_writeTrack_47 rfl (lv_at hl 0 rfl) ?_
                refine lv_iconst (v := 5) hx hb dX10_writeTrack_48 (by decide) ?_
                refine sp_call (W.runV (As := [.int (nI j_9), .int (5)]) (rest := [.ref (am (0))]) ⟨hx, hb, hml, hown, hts⟩ (c_X10_p l D am cy ((m_wt μ n t x i).2) j_9 (by omega) 5 (by omega)) (cwV 2 hts gX10_writeTrack_X10_p rfl rfl rfl (by decide +kernel) ⟨Nat.le_of_ble_eq_true rfl, Nat.le_of_ble_eq_true rfl⟩) (sp_preV hK hP (κ := 0) (by decide) mE_0 rfl) rfl rfl hl.1 rfl (lv_room (Nat.le_of_ble_eq_true rfl)) dX10_writeTrack_49 ⟨Nat.le_of_ble_eq_true rfl, Nat.le_of_ble_eq_true rfl⟩) ?_
                refine W.eq (g2 := F0 m 52 ls [.int (gP (((m_wt μ n t x i).2) 1) j_9 5), .ref (am (0))]) rfl ?_
                refine W.eq (g2 := F0 m 52 ls [.int (gP (μ 1) j_9 5), .ref (am (0))]) (by rw [(show (((m_wt μ n t x i).2) 1) = μ 1 from by simp only [m_wr_1, m_wt_1, m_wo_1])]) ?_
                refine lv_iconst (v := 1) hx hb dX10_writeTrack_52 (by decide) ?_
                refine lv_icmp_ne (tgt := 61) hx hb dX10_writeTrack_53 (by decide) (fun c_9 => ?_) (fun c_9 => ?_)
                · skip
                  refine lv_bipush (v := 82) hx hb dX10_writeTrack_61 (by decide) ?_
                  refine sp_callm (va_runV (As := [.int (82)]) (rest := []) ⟨hx, hb, hml, hown, hts⟩ (c_X10_writes l D am cy ((m_wt μ n t x i).2) _ hi 82 ((m_wt μ n t x i).1) (by first | exact hos | exact hi_0 | (rw [m_wr_10]; done) | (rw [m_wo_10]; done) | (rw [st_10]; done)) (by omega)) (cwV 1 hts gX10_writeTrack_X10_writes rfl rfl rfl (by decide +kernel) ⟨Nat.le_of_ble_eq_true rfl, Nat.le_of_ble_eq_true rfl⟩) (sp_preVm hK hP (κ := 0) (by decide) mE_0 rfl) rfl rfl hl.1 rfl (lv_room (Nat.le_of_ble_eq_true rfl)) dX10_writeTrack_63 ⟨Nat.le_of_ble_eq_true rfl, Nat.le_of_ble_eq_true rfl⟩) hS (fun q h1 h2 => sp_Alt h1 h2) (sp_Ale hS.1) (fun H locs hP hle hfr hS => ?_)
                  refine W.eq (g2 := F0 m 66 ls []) rfl ?_
                  refine lv_aload_n hx hb dX10_writeTrack_66 rfl (lv_at hl 2 rfl) ?_
                  refine lv_iload_n hx hb dX10_writeTrack_67 rfl (lv_at hl 0 rfl) ?_
                  refine lv_bipush (v := 7) hx hb dX10_writeTrack_68 (by decide) ?_
                  refine sp_call (W.runV (As := [.int (nI j_9), .int (7)]) (rest := []) ⟨hx, hb, hml, hown, hts⟩ (c_X10_p l D am cy (m_wr ((m_wt μ n t x i).2) ((m_wt μ n t x i).1) 82) j_9 (by omega) 7 (by omega)) (cwV 2 hts gX10_writeTrack_X10_p rfl rfl rfl (by decide +kernel) ⟨Nat.le_of_ble_eq_true rfl, Nat.le_of_ble_eq_true rfl⟩) (sp_preV hK hP (κ := 0) (by decide) mE_0 rfl) rfl rfl hl.1 rfl (lv_room (Nat.le_of_ble_eq_true rfl)) dX10_writeTrack_70 ⟨Nat.le_of_ble_eq_true rfl, Nat.le_of_ble_eq_true rfl⟩) ?_
                  refine W.eq (g2 := F0 m 73 ls [.int (gP ((m_wr ((m_wt μ n t x i).2) ((m_wt μ n t x i).1) 82) 1) j_9 7)]) rfl ?_
                  refine W.eq (g2 := F0 m 73 ls [.int (gP (μ 1) j_9 7)]) (by rw [(show ((m_wr ((m_wt μ n t x i).2) ((m_wt μ n t x i).1) 82) 1) = μ 1 from by simp only [m_wr_1, m_wt_1, m_wo_1])]) ?_
                  refine lv_if_le (tgt := 82) hx hb dX10_writeTrack_73 (by decide) (fun c_10 => ?_) (fun c_10 => ?_)
                  · skip
                    have c_10d := Int32.not_lt.mpr c_10
                    refine lv_aload_n hx hb dX10_writeTrack_82 rfl (lv_at hl 2 rfl) ?_
                    refine lv_iload_n hx hb dX10_writeTrack_83 rfl (lv_at hl 0 rfl) ?_
                    refine sp_call (W.runV (As := [.int (nI j_9)]) (rest := []) ⟨hx, hb, hml, hown, hts⟩ (c_X10_errorsAt l D am cy (m_wr ((m_wt μ n t x i).2) ((m_wt μ n t x i).1) 82) n t (by first | exact hM | (simp only [m_wr_1, m_wt_1]; exact hM)) j_9 (by omega)) (cwV 1 hts gX10_writeTrack_X10_errorsAt rfl rfl rfl (by decide +kernel) ⟨Nat.le_of_ble_eq_true rfl, Nat.le_of_ble_eq_true rfl⟩) (sp_preV hK hP (κ := 0) (by decide) mE_0 rfl) rfl rfl hl.1 rfl (lv_room (Nat.le_of_ble_eq_true rfl)) dX10_writeTrack_84 ⟨Nat.le_of_ble_eq_true rfl, Nat.le_of_ble_eq_true rfl⟩) ?_
                    refine W.eq (g2 := F0 m 87 ls [.int (m_errs1 ((m_wr ((m_wt μ n t x i).2) ((m_wt μ n t x i).1) 82) 1) n t j_9)]) rfl ?_
                    refine W.eq (g2 := F0 m 87 ls [.int (m_errs1 (μ 1) n t j_9)]) (by rw [(show ((m_wr ((m_wt μ n t x i).2) ((m_wt μ n t x i).1) 82) 1) = μ 1 from by simp only [m_wr_1, m_wt_1, m_wo_1])]) ?_
                    refine lv_if_le (tgt := 96) hx hb dX10_writeTrack_87 (by decide) (fun c_11 => ?_) (fun c_11 => ?_)
                    · skip
                      have c_11d := Int32.not_lt.mpr c_11
                      refine lv_iinc (v := nI (i + 1)) (lv' := [(2, .int (nI (i + 1))), (3, .int (nI j_9)), (0, .ref (am (0))), (1, .int (x))]) hx hb dX10_writeTrack_96 hl (k := 1) rfl (nI_1 _) (by decide) rfl (fun ls hl => ?_)
                      refine lv_goto (tgt := 29) hx hb dX10_writeTrack_99 (by decide) ?_
                      exact ih (i + 1)  _ _ (by omega) (by omega) (m_wt_10) (m_wt_le (by omega)) ((show mW am cy (m_wr ((m_wt μ n t x i).2) ((m_wt μ n t x i).1) 82) = mW am cy ((m_wt μ n t x (i + 1)).2) from (by exact mW_eq (by rw [m_wt_s]; simp [S_wt, m_w1, b2i, q_1, c_5, c_5d, q_8, c_9, c_10, c_10d, c_11, c_11d]))) ▸ hP) hS ls (lv_sub hl [0, 2, 3] rfl)
                    · skip
                      have c_11d := Int32.not_le.mp c_11
                      refine lv_aload_n hx hb dX10_writeTrack_90 rfl (lv_at hl 2 rfl) ?_
                      refine lv_bipush (v := 33) hx hb dX10_writeTrack_91 (by decide) ?_
                      refine sp_callm (va_runV (As := [.int (33)]) (rest := []) ⟨hx, hb, hml, hown, hts⟩ (c_X10_writes l D am cy (m_wr ((m_wt μ n t x i).2) ((m_wt μ n t x i).1) 82) _ hi 33 (((m_wt μ n t x i).1) + 1) (by first | exact hos | exact hi_0 | (rw [m_wr_10]; done) | (rw [m_wo_10]; done) | (rw [st_10]; done)) (by omega)) (cwV 1 hts gX10_writeTrack_X10_writes rfl rfl rfl (by decide +kernel) ⟨Nat.le_of_ble_eq_true rfl, Nat.le_of_ble_eq_true rfl⟩) (sp_preVm hK hP (κ := 0) (by decide) mE_0 rfl) rfl rfl hl.1 rfl (lv_room (Nat.le_of_ble_eq_true rfl)) dX10_writeTrack_93 ⟨Nat.le_of_ble_eq_true rfl, Nat.le_of_ble_eq_true rfl⟩) hS (fun q h1 h2 => sp_Alt h1 h2) (sp_Ale hS.1) (fun H locs hP hle hfr hS => ?_)
                      refine W.eq (g2 := F0 m 96 ls []) rfl ?_
                      refine lv_iinc (v := nI (i + 1)) (lv' := [(2, .int (nI (i + 1))), (3, .int (nI j_9)), (0, .ref (am (0))), (1, .int (x))]) hx hb dX10_writeTrack_96 hl (k := 1) rfl (nI_1 _) (by decide) rfl (fun ls hl => ?_)
                      refine lv_goto (tgt := 29) hx hb dX10_writeTrack_99 (by decide) ?_
                      exact ih (i + 1)  _ _ (by omega) (by omega) (m_wt_10) (m_wt_le (by omega)) ((show mW am cy (m_wr (m_wr ((m_wt μ n t x i).2) ((m_wt μ n t x i).1) 82) (((m_wt μ n t x i).1) + 1) 33) = mW am cy ((m_wt μ n t x (i + 1)).2) from (by exact mW_eq (by rw [m_wt_s]; simp [S_wt, m_w1, b2i, q_1, c_5, c_5d, q_8, c_9, c_10, c_10d, c_11, c_11d]))) ▸ hP) hS ls (lv_sub hl [0, 2, 3] rfl)
                  · skip
                    have c_10d := Int32.not_le.mp c_10
                    refine lv_aload_n hx hb dX10_writeTrack_76 rfl (lv_at hl 2 rfl) ?_
                    refine lv_bipush (v := 63) hx hb dX10_writeTrack_77 (by decide) ?_
                    refine sp_callm (va_runV (As := [.int (63)]) (rest := []) ⟨hx, hb, hml, hown, hts⟩ (c_X10_writes l D am cy (m_wr ((m_wt μ n t x i).2) ((m_wt μ n t x i).1) 82) _ hi 63 (((m_wt μ n t x i).1) + 1) (by first | exact hos | exact hi_0 | (rw [m_wr_10]; done) | (rw [m_wo_10]; done) | (rw [st_10]; done)) (by omega)) (cwV 1 hts gX10_writeTrack_X10_writes rfl rfl rfl (by decide +kernel) ⟨Nat.le_of_ble_eq_true rfl, Nat.le_of_ble_eq_true rfl⟩) (sp_preVm hK hP (κ := 0) (by decide) mE_0 rfl) rfl rfl hl.1 rfl (lv_room (Nat.le_of_ble_eq_true rfl)) dX10_writeTrack_79 ⟨Nat.le_of_ble_eq_true rfl, Nat.le_of_ble_eq_true rfl⟩) hS (fun q h1 h2 => sp_Alt h1 h2) (sp_Ale hS.1) (fun H locs hP hle hfr hS => ?_)
                    refine W.eq (g2 := F0 m 82 ls []) rfl ?_
                    refine lv_aload_n hx hb dX10_writeTrack_82 rfl (lv_at hl 2 rfl) ?_
                    refine lv_iload_n hx hb dX10_writeTrack_83 rfl (lv_at hl 0 rfl) ?_
                    refine sp_call (W.runV (As := [.int (nI j_9)]) (rest := []) ⟨hx, hb, hml, hown, hts⟩ (c_X10_errorsAt l D am cy (m_wr (m_wr ((m_wt μ n t x i).2) ((m_wt μ n t x i).1) 82) (((m_wt μ n t x i).1) + 1) 63) n t (by first | exact hM | (simp only [m_wr_1, m_wt_1]; exact hM)) j_9 (by omega)) (cwV 1 hts gX10_writeTrack_X10_errorsAt rfl rfl rfl (by decide +kernel) ⟨Nat.le_of_ble_eq_true rfl, Nat.le_of_ble_eq_true rfl⟩) (sp_preV hK hP (κ := 0) (by decide) mE_0 rfl) rfl rfl hl.1 rfl (lv_room (Nat.le_of_ble_eq_true rfl)) dX10_writeTrack_84 ⟨Nat.le_of_ble_eq_true rfl, Nat.le_of_ble_eq_true rfl⟩) ?_
                    refine W.eq (g2 := F0 m 87 ls [.int (m_errs1 ((m_wr (m_wr ((m_wt μ n t x i).2) ((m_wt μ n t x i).1) 82) (((m_wt μ n t x i).1) + 1) 63) 1) n t j_9)]) rfl ?_
                    refine W.eq (g2 := F0 m 87 ls [.int (m_errs1 (μ 1) n t j_9)]) (by rw [(show ((m_wr (m_wr ((m_wt μ n t x i).2) ((m_wt μ n t x i).1) 82) (((m_wt μ n t x i).1) + 1) 63) 1) = μ 1 from by simp only [m_wr_1, m_wt_1, m_wo_1])]) ?_
                    refine lv_if_le (tgt := 96) hx hb dX10_writeTrack_87 (by decide) (fun c_12 => ?_) (fun c_12 => ?_)
                    · skip
                      have c_12d := Int32.not_lt.mpr c_12
                      refine lv_iinc (v := nI (i + 1)) (lv' := [(2, .int (nI (i + 1))), (3, .int (nI j_9)), (0, .ref (am (0))), (1, .int (x))]) hx hb dX10_writeTrack_96 hl (k := 1) rfl (nI_1 _) (by decide) rfl (fun ls hl => ?_)
                      refine lv_goto (tgt := 29) hx hb dX10_writeTrack_99 (by decide) ?_
                      exact ih (i + 1)  _ _ (by omega) (by omega) (m_wt_10) (m_wt_le (by omega)) ((show mW am cy (m_wr (m_wr ((m_wt μ n t x i).2) ((m_wt μ n t x i).1) 82) (((m_wt μ n t x i).1) + 1) 63) = mW am cy ((m_wt μ n t x (i + 1)).2) from (by exact mW_eq (by rw [m_wt_s]; simp [S_wt, m_w1, b2i, q_1, c_5, c_5d, q_8, c_9, c_10, c_10d, c_12, c_12d]))) ▸ hP) hS ls (lv_sub hl [0, 2, 3] rfl)
                    · skip
                      have c_12d := Int32.not_le.mp c_12
                      refine lv_aload_n hx hb dX10_writeTrack_90 rfl (lv_at hl 2 rfl) ?_
                      refine lv_bipush (v := 33) hx hb dX10_writeTrack_91 (by decide) ?_
                      refine sp_callm (va_runV (As := [.int (33)]) (rest := []) ⟨hx, hb, hml, hown, hts⟩ (c_X10_writes l D am cy (m_wr (m_wr ((m_wt μ n t x i).2) ((m_wt μ n t x i).1) 82) (((m_wt μ n t x i).1) + 1) 63) _ hi 33 ((((m_wt μ n t x i).1) + 1) + 1) (by first | exact hos | exact hi_0 | (rw [m_wr_10]; done) | (rw [m_wo_10]; done) | (rw [st_10]; done)) (by omega)) (cwV 1 hts gX10_writeTrack_X10_writes rfl rfl rfl (by decide +kernel) ⟨Nat.le_of_ble_eq_true rfl, Nat.le_of_ble_eq_true rfl⟩) (sp_preVm hK hP (κ := 0) (by decide) mE_0 rfl) rfl rfl hl.1 rfl (lv_room (Nat.le_of_ble_eq_true rfl)) dX10_writeTrack_93 ⟨Nat.le_of_ble_eq_true rfl, Nat.le_of_ble_eq_true rfl⟩) hS (fun q h1 h2 => sp_Alt h1 h2) (sp_Ale hS.1) (fun H locs hP hle hfr hS => ?_)
                      refine W.eq (g2 := F0 m 96 ls []) rfl ?_
                      refine lv_iinc (v := nI (i + 1)) (lv' := [(2, .int (nI (i + 1))), (3, .int (nI j_9)), (0, .ref (am (0))), (1, .int (x))]) hx hb dX10_writeTrack_96 hl (k := 1) rfl (nI_1 _) (by decide) rfl (fun ls hl => ?_)
                      refine lv_goto (tgt := 29) hx hb dX10_writeTrack_99 (by decide) ?_
                      exact ih (i + 1)  _ _ (by omega) (by omega) (m_wt_10) (m_wt_le (by omega)) ((show mW am cy (m_wr (m_wr (m_wr ((m_wt μ n t x i).2) ((m_wt μ n t x i).1) 82) (((m_wt μ n t x i).1) + 1) 63) ((((m_wt μ n t x i).1) + 1) + 1) 33) = mW am cy ((m_wt μ n t x (i + 1)).2) from (by exact mW_eq (by rw [m_wt_s]; simp [S_wt, m_w1, b2i, q_1, c_5, c_5d, q_8, c_9, c_10, c_10d, c_12, c_12d]))) ▸ hP) hS ls (lv_sub hl [0, 2, 3] rfl)
                · skip
                  refine lv_bipush (v := 76) hx hb dX10_writeTrack_56 (by decide) ?_
                  refine lv_goto (tgt := 63) hx hb dX10_writeTrack_58 (by decide) ?_
                  refine sp_callm (va_runV (As := [.int (76)]) (rest := []) ⟨hx, hb, hml, hown, hts⟩ (c_X10_writes l D am cy ((m_wt μ n t x i).2) _ hi 76 ((m_wt μ n t x i).1) (by first | exact hos | exact hi_0 | (rw [m_wr_10]; done) | (rw [m_wo_10]; done) | (rw [st_10]; done)) (by omega)) (cwV 1 hts gX10_writeTrack_X10_writes rfl rfl rfl (by decide +kernel) ⟨Nat.le_of_ble_eq_true rfl, Nat.le_of_ble_eq_true rfl⟩) (sp_preVm hK hP (κ := 0) (by decide) mE_0 rfl) rfl rfl hl.1 rfl (lv_room (Nat.le_of_ble_eq_true rfl)) dX10_writeTrack_63 ⟨Nat.le_of_ble_eq_true rfl, Nat.le_of_ble_eq_true rfl⟩) hS (fun q h1 h2 => sp_Alt h1 h2) (sp_Ale hS.1) (fun H locs hP hle hfr hS => ?_)
                  refine W.eq (g2 := F0 m 66 ls []) rfl ?_
                  refine lv_aload_n hx hb dX10_writeTrack_66 rfl (lv_at hl 2 rfl) ?_
                  refine lv_iload_n hx hb dX10_writeTrack_67 rfl (lv_at hl 0 rfl) ?_
                  refine lv_bipush (v := 7) hx hb dX10_writeTrack_68 (by decide) ?_
                  refine sp_call (W.runV (As := [.int (nI j_9), .int (7)]) (rest := []) ⟨hx, hb, hml, hown, hts⟩ (c_X10_p l D am cy (m_wr ((m_wt μ n t x i).2) ((m_wt μ n t x i).1) 76) j_9 (by omega) 7 (by omega)) (cwV 2 hts gX10_writeTrack_X10_p rfl rfl rfl (by decide +kernel) ⟨Nat.le_of_ble_eq_true rfl, Nat.le_of_ble_eq_true rfl⟩) (sp_preV hK hP (κ := 0) (by decide) mE_0 rfl) rfl rfl hl.1 rfl (lv_room (Nat.le_of_ble_eq_true rfl)) dX10_writeTrack_70 ⟨Nat.le_of_ble_eq_true rfl, Nat.le_of_ble_eq_true rfl⟩) ?_
                  refine W.eq (g2 := F0 m 73 ls [.int (gP ((m_wr ((m_wt μ n t x i).2) ((m_wt μ n t x i).1) 76) 1) j_9 7)]) rfl ?_
                  refine W.eq (g2 := F0 m 73 ls [.int (gP (μ 1) j_9 7)]) (by rw [(show ((m_wr ((m_wt μ n t x i).2) ((m_wt μ n t x i).1) 76) 1) = μ 1 from by simp only [m_wr_1, m_wt_1, m_wo_1])]) ?_
                  refine lv_if_le (tgt := 82) hx hb dX10_writeTrack_73 (by decide) (fun c_13 => ?_) (fun c_13 => ?_)
                  · skip
                    have c_13d := Int32.not_lt.mpr c_13
                    refine lv_aload_n hx hb dX10_writeTrack_82 rfl (lv_at hl 2 rfl) ?_
                    refine lv_iload_n hx hb dX10_writeTrack_83 rfl (lv_at hl 0 rfl) ?_
                    refine sp_call (W.runV (As := [.int (nI j_9)]) (rest := []) ⟨hx, hb, hml, hown, hts⟩ (c_X10_errorsAt l D am cy (m_wr ((m_wt μ n t x i).2) ((m_wt μ n t x i).1) 76) n t (by first | exact hM | (simp only [m_wr_1, m_wt_1]; exact hM)) j_9 (by omega)) (cwV 1 hts gX10_writeTrack_X10_errorsAt rfl rfl rfl (by decide +kernel) ⟨Nat.le_of_ble_eq_true rfl, Nat.le_of_ble_eq_true rfl⟩) (sp_preV hK hP (κ := 0) (by decide) mE_0 rfl) rfl rfl hl.1 rfl (lv_room (Nat.le_of_ble_eq_true rfl)) dX10_writeTrack_84 ⟨Nat.le_of_ble_eq_true rfl, Nat.le_of_ble_eq_true rfl⟩) ?_
                    refine W.eq (g2 := F0 m 87 ls [.int (m_errs1 ((m_wr ((m_wt μ n t x i).2) ((m_wt μ n t x i).1) 76) 1) n t j_9)]) rfl ?_
                    refine W.eq (g2 := F0 m 87 ls [.int (m_errs1 (μ 1) n t j_9)]) (by rw [(show ((m_wr ((m_wt μ n t x i).2) ((m_wt μ n t x i).1) 76) 1) = μ 1 from by simp only [m_wr_1, m_wt_1, m_wo_1])]) ?_
                    refine lv_if_le (tgt := 96) hx hb dX10_writeTrack_87 (by decide) (fun c_14 => ?_) (fun c_14 => ?_)
                    · skip
                      have c_14d := Int32.not_lt.mpr c_14
                      refine lv_iinc (v := nI (i + 1)) (lv' := [(2, .int (nI (i + 1))), (3, .int (nI j_9)), (0, .ref (am (0))), (1, .int (x))]) hx hb dX10_writeTrack_96 hl (k := 1) rfl (nI_1 _) (by decide) rfl (fun ls hl => ?_)
                      refine lv_goto (tgt := 29) hx hb dX10_writeTrack_99 (by decide) ?_
                      exact ih (i + 1)  _ _ (by omega) (by omega) (m_wt_10) (m_wt_le (by omega)) ((show mW am cy (m_wr ((m_wt μ n t x i).2) ((m_wt μ n t x i).1) 76) = mW am cy ((m_wt μ n t x (i + 1)).2) from (by exact mW_eq (by rw [m_wt_s]; simp [S_wt, m_w1, b2i, q_1, c_5, c_5d, q_8, c_9, c_13, c_13d, c_14, c_14d]))) ▸ hP) hS ls (lv_sub hl [0, 2, 3] rfl)
                    · skip
                      have c_14d := Int32.not_le.mp c_14
                      refine lv_aload_n hx hb dX10_writeTrack_90 rfl (lv_at hl 2 rfl) ?_
                      refine lv_bipush (v := 33) hx hb dX10_writeTrack_91 (by decide) ?_
                      refine sp_callm (va_runV (As := [.int (33)]) (rest := []) ⟨hx, hb, hml, hown, hts⟩ (c_X10_writes l D am cy (m_wr ((m_wt μ n t x i).2) ((m_wt μ n t x i).1) 76) _ hi 33 (((m_wt μ n t x i).1) + 1) (by first | exact hos | exact hi_0 | (rw [m_wr_10]; done) | (rw [m_wo_10]; done) | (rw [st_10]; done)) (by omega)) (cwV 1 hts gX10_writeTrack_X10_writes rfl rfl rfl (by decide +kernel) ⟨Nat.le_of_ble_eq_true rfl, Nat.le_of_ble_eq_true rfl⟩) (sp_preVm hK hP (κ := 0) (by decide) mE_0 rfl) rfl rfl hl.1 rfl (lv_room (Nat.le_of_ble_eq_true rfl)) dX10_writeTrack_93 ⟨Nat.le_of_ble_eq_true rfl, Nat.le_of_ble_eq_true rfl⟩) hS (fun q h1 h2 => sp_Alt h1 h2) (sp_Ale hS.1) (fun H locs hP hle hfr hS => ?_)
                      refine W.eq (g2 := F0 m 96 ls []) rfl ?_
                      refine lv_iinc (v := nI (i + 1)) (lv' := [(2, .int (nI (i + 1))), (3, .int (nI j_9)), (0, .ref (am (0))), (1, .int (x))]) hx hb dX10_writeTrack_96 hl (k := 1) rfl (nI_1 _) (by decide) rfl (fun ls hl => ?_)
                      refine lv_goto (tgt := 29) hx hb dX10_writeTrack_99 (by decide) ?_
                      exact ih (i + 1)  _ _ (by omega) (by omega) (m_wt_10) (m_wt_le (by omega)) ((show mW am cy (m_wr (m_wr ((m_wt μ n t x i).2) ((m_wt μ n t x i).1) 76) (((m_wt μ n t x i).1) + 1) 33) = mW am cy ((m_wt μ n t x (i + 1)).2) from (by exact mW_eq (by rw [m_wt_s]; simp [S_wt, m_w1, b2i, q_1, c_5, c_5d, q_8, c_9, c_13, c_13d, c_14, c_14d]))) ▸ hP) hS ls (lv_sub hl [0, 2, 3] rfl)
                  · skip
                    have c_13d := Int32.not_le.mp c_13
                    refine lv_aload_n hx hb dX10_writeTrack_76 rfl (lv_at hl 2 rfl) ?_
                    refine lv_bipush (v := 63) hx hb dX10_writeTrack_77 (by decide) ?_
                    refine sp_callm (va_runV (As := [.int (63)]) (rest := []) ⟨hx, hb, hml, hown, hts⟩ (c_X10_writes l D am cy (m_wr ((m_wt μ n t x i).2) ((m_wt μ n t x i).1) 76) _ hi 63 (((m_wt μ n t x i).1) + 1) (by first | exact hos | exact hi_0 | (rw [m_wr_10]; done) | (rw [m_wo_10]; done) | (rw [st_10]; done)) (by omega)) (cwV 1 hts gX10_writeTrack_X10_writes rfl rfl rfl (by decide +kernel) ⟨Nat.le_of_ble_eq_true rfl, Nat.le_of_ble_eq_true rfl⟩) (sp_preVm hK hP (κ := 0) (by decide) mE_0 rfl) rfl rfl hl.1 rfl (lv_room (Nat.le_of_ble_eq_true rfl)) dX10_writeTrack_79 ⟨Nat.le_of_ble_eq_true rfl, Nat.le_of_ble_eq_true rfl⟩) hS (fun q h1 h2 => sp_Alt h1 h2) (sp_Ale hS.1) (fun H locs hP hle hfr hS => ?_)
                    refine W.eq (g2 := F0 m 82 ls []) rfl ?_
                    refine lv_aload_n hx hb dX10_writeTrack_82 rfl (lv_at hl 2 rfl) ?_
                    refine lv_iload_n hx hb dX10_writeTrack_83 rfl (lv_at hl 0 rfl) ?_
                    refine sp_call (W.runV (As := [.int (nI j_9)]) (rest := []) ⟨hx, hb, hml, hown, hts⟩ (c_X10_errorsAt l D am cy (m_wr (m_wr ((m_wt μ n t x i).2) ((m_wt μ n t x i).1) 76) (((m_wt μ n t x i).1) + 1) 63) n t (by first | exact hM | (simp only [m_wr_1, m_wt_1]; exact hM)) j_9 (by omega)) (cwV 1 hts gX10_writeTrack_X10_errorsAt rfl rfl rfl (by decide +kernel) ⟨Nat.le_of_ble_eq_true rfl, Nat.le_of_ble_eq_true rfl⟩) (sp_preV hK hP (κ := 0) (by decide) mE_0 rfl) rfl rfl hl.1 rfl (lv_room (Nat.le_of_ble_eq_true rfl)) dX10_writeTrack_84 ⟨Nat.le_of_ble_eq_true rfl, Nat.le_of_ble_eq_true rfl⟩) ?_
                    refine W.eq (g2 := F0 m 87 ls [.int (m_errs1 ((m_wr (m_wr ((m_wt μ n t x i).2) ((m_wt μ n t x i).1) 76) (((m_wt μ n t x i).1) + 1) 63) 1) n t j_9)]) rfl ?_
                    refine W.eq (g2 := F0 m 87 ls [.int (m_errs1 (μ 1) n t j_9)]) (by rw [(show ((m_wr (m_wr ((m_wt μ n t x i).2) ((m_wt μ n t x i).1) 76) (((m_wt μ n t x i).1) + 1) 63) 1) = μ 1 from by simp only [m_wr_1, m_wt_1, m_wo_1])]) ?_
                    refine lv_if_le (tgt := 96) hx hb dX10_writeTrack_87 (by decide) (fun c_15 => ?_) (fun c_15 => ?_)
                    · skip
                      have c_15d := Int32.not_lt.mpr c_15
                      refine lv_iinc (v := nI (i + 1)) (lv' := [(2, .int (nI (i + 1))), (3, .int (nI j_9)), (0, .ref (am (0))), (1, .int (x))]) hx hb dX10_writeTrack_96 hl (k := 1) rfl (nI_1 _) (by decide) rfl (fun ls hl => ?_)
                      refine lv_goto (tgt := 29) hx hb dX10_writeTrack_99 (by decide) ?_
                      exact ih (i + 1)  _ _ (by omega) (by omega) (m_wt_10) (m_wt_le (by omega)) ((show mW am cy (m_wr (m_wr ((m_wt μ n t x i).2) ((m_wt μ n t x i).1) 76) (((m_wt μ n t x i).1) + 1) 63) = mW am cy ((m_wt μ n t x (i + 1)).2) from (by exact mW_eq (by rw [m_wt_s]; simp [S_wt, m_w1, b2i, q_1, c_5, c_5d, q_8, c_9, c_13, c_13d, c_15, c_15d]))) ▸ hP) hS ls (lv_sub hl [0, 2, 3] rfl)
                    · skip
                      have c_15d := Int32.not_le.mp c_15
                      refine lv_aload_n hx hb dX10_writeTrack_90 rfl (lv_at hl 2 rfl) ?_
                      refine lv_bipush (v := 33) hx hb dX10_writeTrack_91 (by decide) ?_
                      refine sp_callm (va_runV (As := [.int (33)]) (rest := []) ⟨hx, hb, hml, hown, hts⟩ (c_X10_writes l D am cy (m_wr (m_wr ((m_wt μ n t x i).2) ((m_wt μ n t x i).1) 76) (((m_wt μ n t x i).1) + 1) 63) _ hi 33 ((((m_wt μ n t x i).1) + 1) + 1) (by first | exact hos | exact hi_0 | (rw [m_wr_10]; done) | (rw [m_wo_10]; done) | (rw [st_10]; done)) (by omega)) (cwV 1 hts gX10_writeTrack_X10_writes rfl rfl rfl (by decide +kernel) ⟨Nat.le_of_ble_eq_true rfl, Nat.le_of_ble_eq_true rfl⟩) (sp_preVm hK hP (κ := 0) (by decide) mE_0 rfl) rfl rfl hl.1 rfl (lv_room (Nat.le_of_ble_eq_true rfl)) dX10_writeTrack_93 ⟨Nat.le_of_ble_eq_true rfl, Nat.le_of_ble_eq_true rfl⟩) hS (fun q h1 h2 => sp_Alt h1 h2) (sp_Ale hS.1) (fun H locs hP hle hfr hS => ?_)
                      refine W.eq (g2 := F0 m 96 ls []) rfl ?_
                      refine lv_iinc (v := nI (i + 1)) (lv' := [(2, .int (nI (i + 1))), (3, .int (nI j_9)), (0, .ref (am (0))), (1, .int (x))]) hx hb dX10_writeTrack_96 hl (k := 1) rfl (nI_1 _) (by decide) rfl (fun ls hl => ?_)
                      refine lv_goto (tgt := 29) hx hb dX10_writeTrack_99 (by decide) ?_
                      exact ih (i + 1)  _ _ (by omega) (by omega) (m_wt_10) (m_wt_le (by omega)) ((show mW am cy (m_wr (m_wr (m_wr ((m_wt μ n t x i).2) ((m_wt μ n t x i).1) 76) (((m_wt μ n t x i).1) + 1) 63) ((((m_wt μ n t x i).1) + 1) + 1) 33) = mW am cy ((m_wt μ n t x (i + 1)).2) from (by exact mW_eq (by rw [m_wt_s]; simp [S_wt, m_w1, b2i, q_1, c_5, c_5d, q_8, c_9, c_13, c_13d, c_15, c_15d]))) ▸ hP) hS ls (lv_sub hl [0, 2, 3] rfl)
        exact loop_29 (cnt + 1) (0)  _ _ (by omega) (by omega) (m_wt_10) (Nat.le_refl 0) ((show mW am cy (sp_st (sp_st μ 0 0 0) 0 10 0) = mW am cy ((m_wt μ n t x 0).2) from (by rfl)) ▸ hP) hS ls (lv_sub hl [0, 1, 2] rfl)
      · exact absurd c_6 (by decide)

theorem wi_X10_writeRow_X10 : ∀ w ∈ wsX100, w ∈ wsX10_writeRow := by decide +kernel
set_option maxHeartbeats 4000000 in
set_option maxRecDepth 100000 in
theorem c_X10_writeRow (l : Launch) (D : va_G) (am : Nat → Nat) (cy : Nat → ClassId) (μ : Nat → Nat → Int32) (sz : Nat) (hi : sp_inj am 5) (n : Nat) (t : Nat) (hM : MS (μ 1) n t) (r : Int32) : Met l yX10_writeRow wsX10_writeRow ({ frames := 2, cells := 0, slots := 0, locals := 45 } : Room) (sp_Pm D (tyG cy) sz [.ref (am (0)), .int (r)] (mW am cy μ)) (sp_Q D (some (.int (if m_in r 0 9 = true then 20 else 0))) (mW am cy (if m_in r 0 9 = true then m_wo μ n r 20 else sp_st μ 0 0 1)) (sp_A am 5 sz)) 0 0 (sp_A am 5 sz) := by
  refine Met.ofW (cc := cX10_writeRow) (maxL := 4) (ret := (some .int)) (by decide) rfl ?_
  intro p e s m args below meth c s₁ B hml hv
  obtain ⟨rfl, hsz, hP, hK⟩ := hv
  have hx := B.exec
  have hb := B.bytes
  have hr := B.returns
  have hts := atoms_spec (ws := wsX10_writeRow) B.pre
  have hown : s.vm.findClass RX10 = some m.cls := findClass_of_methodNamed B.named
  have hlocks := B.notSynchronized
  subst hsz
  have hS : va_S (sp_A am 5 s.heap.size) s.heap s.heap [] := va_S.rf
  have hAk : ∀ k, k < 5 → (sp_A am 5 s.heap.size) (am k) := fun k hk => Or.inl ⟨k, hk, rfl⟩
  skip
  have hn30 := hM.2.1
  have ht6 := hM.2.2.2
  have hl := lv_entry ([.ref (am (0)), .int (r)]) (n := 4) (Nat.le_of_ble_eq_true rfl)
  refine W.eq (lg_entry_eq _ ([.ref (am (0)), .int (r)]) _) ?_
  generalize (lg_sl ([.ref (am (0)), .int (r)]) ++ List.replicate (4 - (lg_sl ([.ref (am (0)), .int (r)])).length) Slot.unset).toArray = ls at hl ⊢
  have hl : lv_has ls 4 [(0, .ref (am (0))), (1, .int (r))] := hl
  refine lv_aload_n hx hb dX10_writeRow_0 rfl (lv_at hl 0 rfl) ?_
  refine lv_iload_n hx hb dX10_writeRow_1 rfl (lv_at hl 1 rfl) ?_
  refine lv_iconst (v := 0) hx hb dX10_writeRow_2 (by decide) ?_
  refine lv_bipush (v := 9) hx hb dX10_writeRow_3 (by decide) ?_
  refine sp_call (W.runS (As := [.int (r), .int (0), .int (9)]) (rest := [.ref (am (0))]) ⟨hx, hb, hml, hown, hts⟩ (c_X10_in l D am cy μ r 0 9) (va_cwS 3 hts gX10_writeRow_X10_in rfl rfl rfl (by decide +kernel) ⟨Nat.le_of_ble_eq_true rfl, Nat.le_of_ble_eq_true rfl⟩) (sp_preS hK hP) rfl rfl hl.1 rfl (lv_room (Nat.le_of_ble_eq_true rfl)) dX10_writeRow_5 ⟨Nat.le_of_ble_eq_true rfl, Nat.le_of_ble_eq_true rfl⟩) ?_
  refine W.eq (g2 := F0 m 8 ls [.int (b2i (m_in r 0 9)), .ref (am (0))]) rfl ?_
  refine sp_callm (va_runV (As := [.int (b2i (m_in r 0 9))]) (rest := []) ⟨hx, hb, hml, hown, hts⟩ (c_X10_isFine_b l D am cy μ _ hi (m_in r 0 9)) (cwV 1 hts gX10_writeRow_X10_isFine rfl rfl rfl (by decide +kernel) ⟨Nat.le_of_ble_eq_true rfl, Nat.le_of_ble_eq_true rfl⟩) (sp_preVm hK hP (κ := 0) (by decide) mE_0 rfl) rfl rfl hl.1 rfl (lv_room (Nat.le_of_ble_eq_true rfl)) dX10_writeRow_8 ⟨Nat.le_of_ble_eq_true rfl, Nat.le_of_ble_eq_true rfl⟩) hS (fun q h1 h2 => sp_Alt h1 h2) (sp_Ale hS.1) (fun H locs hP hle hfr hS => ?_)
  refine W.eq (g2 := F0 m 11 ls [.int (b2i (m_in r 0 9))]) rfl ?_
  refine lv_if_ne (tgt := 16) hx hb dX10_writeRow_11 (by decide) (fun c_1 => ?_) (fun c_1 => ?_)
  · rw [b2i_eq0] at c_1
    refine lv_aload_n hx hb dX10_writeRow_16 rfl (lv_at hl 0 rfl) ?_
    refine lv_iconst (v := 0) hx hb dX10_writeRow_17 (by decide) ?_
    refine sp_put hx hb hts wi_X10_writeRow_X10 tyX10 tyX10_ok nmX10 hown hK hP hi hAk hS (κ := 0) (by decide) mE_0 rfl 10 (by decide) (hts _ (List.mem_of_getElem? (i := 1) rfl)) (fun _ h => h) rfl (ty := tyX10 10) (by decide +kernel) ⟨rfl, rfl⟩ (Nat.le_of_ble_eq_true rfl) (r1 := upd ((sp_st μ 0 0 (b2i (!(m_in r 0 9)))) 0) 10 0) (cE_of mE_0 (by simp [upd])) dX10_writeRow_18 (fun H locs hP hS => ?_)
    have hP : va_P D vwCl (mW am cy (sp_st (sp_st μ 0 0 (b2i (!(m_in r 0 9)))) 0 10 0)) H := hP
    refine lv_iconst (v := 0) hx hb dX10_writeRow_21 (by decide) ?_
    refine lv_istore_n (lv' := [(2, .int (0)), (0, .ref (am (0))), (1, .int (r))]) hx hb dX10_writeRow_22 rfl hl (by decide) rfl (fun ls hl => ?_)
    have loop_23 : ∀ (fu i : Nat) (H : Heap) (locs : List Loc), (i ≤ 20) → (20 - i < fu) → (va_P D vwCl (mW am cy (m_wo μ n r i)) H) → (va_S (sp_A am 5 s.heap.size) s.heap H locs) → ∀ ls : Array Slot, lv_has ls 4 [(2, .int (nI i)), (0, .ref (am (0))), (1, .int (r))] → W p l e (headSpec wsX10_writeRow ({ frames := 2, cells := 0, slots := 0, locals := 45 } : Room)).room s m ([.ref (am (0)), .int (r)] : List Value).toArray below meth c H locs 0 0 (MQ below (sp_Q D (some (.int (if m_in r 0 9 = true then 20 else 0))) (mW am cy (if m_in r 0 9 = true then m_wo μ n r 20 else sp_st μ 0 0 1)) (sp_A am 5 s.heap.size)) ([.ref (am (0)), .int (r)] : List Value).toArray s 0 0 (sp_A am 5 s.heap.size)) (F0 m 23 ls []) := by
      intro fu
      induction fu with
      | zero => intro i H locs hle hlt hP hS ls hl; exact absurd hlt (Nat.not_lt_zero _)
      | succ fu ih =>
        intro i H locs hle hlt hP hS ls hl
        refine lv_iload_n hx hb dX10_writeRow_23 rfl (lv_at hl 0 rfl) ?_
        refine lv_bipush (v := 20) hx hb dX10_writeRow_24 (by decide) ?_
        refine lv_icmp_ge (tgt := 82) hx hb dX10_writeRow_26 (by decide) (fun c_2 => ?_) (fun c_2 => ?_)
        · skip
          have c_2d := Int32.not_lt.mpr c_2
          have hx_i : i = 20 := by have := (nI_leI (a := 20) (b := i) (by omega) (by omega)).mp c_2; omega
          rw [hx_i] at hP
          refine lv_aload_n hx hb dX10_writeRow_82 rfl (lv_at hl 1 rfl) ?_
          refine sp_get hx hb hts wi_X10_writeRow_X10 hown hK hP (κ := 0) (by decide) mE_0 rfl 10 (by decide) (hts _ (List.mem_of_getElem? (i := 1) rfl)) (fun _ h => h) rfl dX10_writeRow_83 ?_
          refine W.eq (g2 := F0 m 86 ls [.int (nI 20)]) (by rw [(show m_wo μ n r 20 0 10 = nI 20 from by first | exact hos | exact hi_0 | (rw [m_wr_10]; done) | (rw [m_wo_10]; done) | (rw [st_10]; done))]) ?_
          have hE9 : mW am cy (m_wo μ n r 20) = mW am cy (if m_in r 0 9 = true then m_wo μ n r 20 else sp_st μ 0 0 1) := by exact mW_eq (by simp [b2i, c_1])
          have hP : va_P D vwCl (mW am cy (if m_in r 0 9 = true then m_wo μ n r 20 else sp_st μ 0 0 1)) H := by rw [← hE9]; exact hP
          exact W.iret (v := nI 20) hx hb hr (fun T9 hT9 _ => ⟨congrArg (fun z9 => Outcome.returned (some (Value.int z9))) (show (nI 20 : Int32) = if m_in r 0 9 = true then 20 else 0 from (by first | (simp [b2i, c_1]; done) | (simp [b2i, c_1]; rfl))), by rw [hT9]; exact hP, hS.F hT9⟩) hS.2.2 dX10_writeRow_86
        · skip
          have c_2d := Int32.not_le.mp c_2
          have hb_i : i < 20 := Nat.lt_of_not_le (fun z => c_2 (nI_le z (by omega)))
          refine lv_aload_n hx hb dX10_writeRow_29 rfl (lv_at hl 1 rfl) ?_
          refine lv_iload_n hx hb dX10_writeRow_30 rfl (lv_at hl 2 rfl) ?_
          refine lv_iload_n hx hb dX10_writeRow_31 rfl (lv_at hl 0 rfl) ?_
          refine sp_call (W.runV (As := [.int (r), .int (nI i)]) (rest := []) ⟨hx, hb, hml, hown, hts⟩ (c_X10_inCell l D am cy (m_wo μ n r i) n t (by first | exact hM | (simp only [m_wr_1, m_wo_1]; exact hM)) r (nI i)) (cwV 2 hts gX10_writeRow_X10_inCell rfl rfl rfl (by decide +kernel) ⟨Nat.le_of_ble_eq_true rfl, Nat.le_of_ble_eq_true rfl⟩) (sp_preV hK hP (κ := 0) (by decide) mE_0 rfl) rfl rfl hl.1 rfl (lv_room (Nat.le_of_ble_eq_true rfl)) dX10_writeRow_32 ⟨Nat.le_of_ble_eq_true rfl, Nat.le_of_ble_eq_true rfl⟩) ?_
          rcases opt_em (m_cell (μ 1) n r (nI i)) with q_3 | ⟨j_4, q_3⟩
          · refine W.eq (g2 := F0 m 35 ls [.int ((-1))]) (by rw [(show ((m_wo μ n r i) 1) = μ 1 from by simp only [m_wr_1, m_wt_1, m_wo_1]), q_3]; rfl) ?_
            refine lv_istore_n (lv' := [(3, .int ((-1))), (2, .int (nI i)), (0, .ref (am (0))), (1, .int (r))]) hx hb dX10_writeRow_35 rfl hl (by decide) rfl (fun ls hl => ?_)
            refine lv_aload_n hx hb dX10_writeRow_36 rfl (lv_at hl 2 rfl) ?_
            refine lv_iload_n hx hb dX10_writeRow_37 rfl (lv_at hl 3 rfl) ?_
            refine lv_aload_n hx hb dX10_writeRow_38 rfl (lv_at hl 2 rfl) ?_
            refine sp_get hx hb hts wi_X10_writeRow_X10 hown hK hP (κ := 0) (by decide) mE_0 rfl 1 (by decide) (hts _ (List.mem_of_getElem? (i := 2) rfl)) (fun _ h => h) rfl dX10_writeRow_39 ?_
            refine lv_iconst (v := 4) hx hb dX10_writeRow_42 (by decide) ?_
            refine sp_iald hx hb hK hP (κ := 1) (by decide) 1 mE_1 rfl 4 rfl (by omega) (by decide) dX10_writeRow_43 ?_
            refine W.eq (g2 := F0 m 44 ls [.int (μ 1 4), .int (r), .ref (am (0))]) (by rw [(show m_wo μ n r i 1 4 = μ 1 4 from by rw [m_wo_1])]) ?_
            refine lv_icmp_ge (tgt := 52) hx hb dX10_writeRow_44 (by decide) (fun c_5 => ?_) (fun c_5 => ?_)
            · skip
              have c_5d := Int32.not_lt.mpr c_5
              refine lv_iload_n hx hb dX10_writeRow_52 rfl (lv_at hl 0 rfl) ?_
              refine lv_if_ge (tgt := 61) hx hb dX10_writeRow_53 (by decide) (fun c_6 => ?_) (fun c_6 => ?_)
              · exact absurd c_6 (by decide)
              · skip
                refine lv_bipush (v := 46) hx hb dX10_writeRow_56 (by decide) ?_
                refine lv_goto (tgt := 73) hx hb dX10_writeRow_58 (by decide) ?_
                refine sp_callm (va_runV (As := [.int (46)]) (rest := []) ⟨hx, hb, hml, hown, hts⟩ (c_X10_writes l D am cy (m_wo μ n r i) _ hi 46 i (by first | exact hos | exact hi_0 | (rw [m_wr_10]; done) | (rw [m_wo_10]; done) | (rw [st_10]; done)) (by omega)) (cwV 1 hts gX10_writeRow_X10_writes rfl rfl rfl (by decide +kernel) ⟨Nat.le_of_ble_eq_true rfl, Nat.le_of_ble_eq_true rfl⟩) (sp_preVm hK hP (κ := 0) (by decide) mE_0 rfl) rfl rfl hl.1 rfl (lv_room (Nat.le_of_ble_eq_true rfl)) dX10_writeRow_73 ⟨Nat.le_of_ble_eq_true rfl, Nat.le_of_ble_eq_true rfl⟩) hS (fun q h1 h2 => sp_Alt h1 h2) (sp_Ale hS.1) (fun H locs hP hle hfr hS => ?_)
                refine W.eq (g2 := F0 m 76 ls []) rfl ?_
                refine lv_iinc (v := nI (i + 1)) (lv' := [(2, .int (nI (i + 1))), (3, .int ((-1))), (0, .ref (am (0))), (1, .int (r))]) hx hb dX10_writeRow_76 hl (k := 1) rfl (nI_1 _) (by decide) rfl (fun ls hl => ?_)
                refine lv_goto (tgt := 23) hx hb dX10_writeRow_79 (by decide) ?_
                exact ih (i + 1)  _ _ (by omega) (by omega)  ((show mW am cy (m_wr (m_wo μ n r i) i 46) = mW am cy (m_wo μ n r (i + 1)) from (by exact mW_eq (by rw [m_wo_s]; simp [m_sg, b2i, c_1, q_3, c_5, c_5d]))) ▸ hP) hS ls (lv_sub hl [0, 2, 3] rfl)
            · skip
              have c_5d := Int32.not_le.mp c_5
              refine lv_bipush (v := 126) hx hb dX10_writeRow_47 (by decide) ?_
              refine lv_goto (tgt := 73) hx hb dX10_writeRow_49 (by decide) ?_
              refine sp_callm (va_runV (As := [.int (126)]) (rest := []) ⟨hx, hb, hml, hown, hts⟩ (c_X10_writes l D am cy (m_wo μ n r i) _ hi 126 i (by first | exact hos | exact hi_0 | (rw [m_wr_10]; done) | (rw [m_wo_10]; done) | (rw [st_10]; done)) (by omega)) (cwV 1 hts gX10_writeRow_X10_writes rfl rfl rfl (by decide +kernel) ⟨Nat.le_of_ble_eq_true rfl, Nat.le_of_ble_eq_true rfl⟩) (sp_preVm hK hP (κ := 0) (by decide) mE_0 rfl) rfl rfl hl.1 rfl (lv_room (Nat.le_of_ble_eq_true rfl)) dX10_writeRow_73 ⟨Nat.le_of_ble_eq_true rfl, Nat.le_of_ble_eq_true rfl⟩) hS (fun q h1 h2 => sp_Alt h1 h2) (sp_Ale hS.1) (fun H locs hP hle hfr hS => ?_)
              refine W.eq (g2 := F0 m 76 ls []) rfl ?_
              refine lv_iinc (v := nI (i + 1)) (lv' := [(2, .int (nI (i + 1))), (3, .int ((-1))), (0, .ref (am (0))), (1, .int (r))]) hx hb dX10_writeRow_76 hl (k := 1) rfl (nI_1 _) (by decide) rfl (fun ls hl => ?_)
              refine lv_goto (tgt := 23) hx hb dX10_writeRow_79 (by decide) ?_
              exact ih (i + 1)  _ _ (by omega) (by omega)  ((show mW am cy (m_wr (m_wo μ n r i) i 126) = mW am cy (m_wo μ n r (i + 1)) from (by exact mW_eq (by rw [m_wo_s]; simp [m_sg, b2i, c_1, q_3, c_5, c_5d]))) ▸ hP) hS ls (lv_sub hl [0, 2, 3] rfl)
          · have hj_4 := m_cell_lt q_3
            refine W.eq (g2 := F0 m 35 ls [.int (nI j_4)]) (by rw [(show ((m_wo μ n r i) 1) = μ 1 from by simp only [m_wr_1, m_wt_1, m_wo_1]), q_3]; rfl) ?_
            refine lv_istore_n (lv' := [(3, .int (nI j_4)), (2, .int (nI i)), (0, .ref (am (0))), (1, .int (r))]) hx hb dX10_writeRow_35 rfl hl (by decide) rfl (fun ls hl => ?_)
            refine lv_aload_n hx hb dX10_writeRow_36 rfl (lv_at hl 2 rfl) ?_
            refine lv_iload_n hx hb dX10_writeRow_37 rfl (lv_at hl 3 rfl) ?_
            refine lv_aload_n hx hb dX10_writeRow_38 rfl (lv_at hl 2 rfl) ?_
            refine sp_get hx hb hts wi_X10_writeRow_X10 hown hK hP (κ := 0) (by decide) mE_0 rfl 1 (by decide) (hts _ (List.mem_of_getElem? (i := 2) rfl)) (fun _ h => h) rfl dX10_writeRow_39 ?_
            refine lv_iconst (v := 4) hx hb dX10_writeRow_42 (by decide) ?_
            refine sp_iald hx hb hK hP (κ := 1) (by decide) 1 mE_1 rfl 4 rfl (by omega) (by decide) dX10_writeRow_43 ?_
            refine W.eq (g2 := F0 m 44 ls [.int (μ 1 4), .int (r), .ref (am (0))]) (by rw [(show m_wo μ n r i 1 4 = μ 1 4 from by rw [m_wo_1])]) ?_
            refine lv_icmp_ge (tgt := 52) hx hb dX10_writeRow_44 (by decide) (fun c_7 => ?_) (fun c_7 => ?_)
            · skip
              have c_7d := Int32.not_lt.mpr c_7
              refine lv_iload_n hx hb dX10_writeRow_52 rfl (lv_at hl 0 rfl) ?_
              refine lv_if_ge (tgt := 61) hx hb dX10_writeRow_53 (by decide) (fun c_8 => ?_) (fun c_8 => ?_)
              · skip
                have c_8d := Int32.not_lt.mpr c_8
                refine lv_bipush (v := 48) hx hb dX10_writeRow_61 (by decide) ?_
                refine lv_aload_n hx hb dX10_writeRow_63 rfl (lv_at hl 2 rfl) ?_
                refine lv_iload_n hx hb dX10_writeRow_64 rfl (lv_at hl 0 rfl) ?_
                refine lv_iconst (v := 0) hx hb dX10_writeRow_65 (by decide) ?_
                refine sp_call (W.runV (As := [.int (nI j_4), .int (0)]) (rest := [.int (48), .ref (am (0))]) ⟨hx, hb, hml, hown, hts⟩ (c_X10_p l D am cy (m_wo μ n r i) j_4 (by omega) 0 (by omega)) (cwV 2 hts gX10_writeRow_X10_p rfl rfl rfl (by decide +kernel) ⟨Nat.le_of_ble_eq_true rfl, Nat.le_of_ble_eq_true rfl⟩) (sp_preV hK hP (κ := 0) (by decide) mE_0 rfl) rfl rfl hl.1 rfl (lv_room (Nat.le_of_ble_eq_true rfl)) dX10_writeRow_66 ⟨Nat.le_of_ble_eq_true rfl, Nat.le_of_ble_eq_true rfl⟩) ?_
                refine W.eq (g2 := F0 m 69 ls [.int (gP ((m_wo μ n r i) 1) j_4 0), .int (48), .ref (am (0))]) rfl ?_
                refine W.eq (g2 := F0 m 69 ls [.int (gP (μ 1) j_4 0), .int (48), .ref (am (0))]) (by rw [(show ((m_wo μ n r i) 1) = μ 1 from by simp only [m_wr_1, m_wt_1, m_wo_1])]) ?_
                refine lv_bipush (v := 10) hx hb dX10_writeRow_69 (by decide) ?_
                refine lv_irem hx hb dX10_writeRow_71 (by decide) ?_
                refine lv_iadd hx hb dX10_writeRow_72 ?_
                refine sp_callm (va_runV (As := [.int (48 + ((gP (μ 1) j_4 0) - (gP (μ 1) j_4 0) / 10 * 10))]) (rest := []) ⟨hx, hb, hml, hown, hts⟩ (c_X10_writes l D am cy (m_wo μ n r i) _ hi (48 + ((gP (μ 1) j_4 0) - (gP (μ 1) j_4 0) / 10 * 10)) i (by first | exact hos | exact hi_0 | (rw [m_wr_10]; done) | (rw [m_wo_10]; done) | (rw [st_10]; done)) (by omega)) (cwV 1 hts gX10_writeRow_X10_writes rfl rfl rfl (by decide +kernel) ⟨Nat.le_of_ble_eq_true rfl, Nat.le_of_ble_eq_true rfl⟩) (sp_preVm hK hP (κ := 0) (by decide) mE_0 rfl) rfl rfl hl.1 rfl (lv_room (Nat.le_of_ble_eq_true rfl)) dX10_writeRow_73 ⟨Nat.le_of_ble_eq_true rfl, Nat.le_of_ble_eq_true rfl⟩) hS (fun q h1 h2 => sp_Alt h1 h2) (sp_Ale hS.1) (fun H locs hP hle hfr hS => ?_)
                refine W.eq (g2 := F0 m 76 ls []) rfl ?_
                refine lv_iinc (v := nI (i + 1)) (lv' := [(2, .int (nI (i + 1))), (3, .int (nI j_4)), (0, .ref (am (0))), (1, .int (r))]) hx hb dX10_writeRow_76 hl (k := 1) rfl (nI_1 _) (by decide) rfl (fun ls hl => ?_)
                refine lv_goto (tgt := 23) hx hb dX10_writeRow_79 (by decide) ?_
                exact ih (i + 1)  _ _ (by omega) (by omega)  ((show mW am cy (m_wr (m_wo μ n r i) i (48 + ((gP (μ 1) j_4 0) - (gP (μ 1) j_4 0) / 10 * 10))) = mW am cy (m_wo μ n r (i + 1)) from (by exact mW_eq (by rw [m_wo_s]; simp [m_sg, b2i, c_1, q_3, c_7, c_7d, c_8, c_8d]))) ▸ hP) hS ls (lv_sub hl [0, 2, 3] rfl)
              · exact absurd (Int32.not_lt.mp (nI_pos (by omega))) c_8
            · skip
              have c_7d := Int32.not_le.mp c_7
              refine lv_bipush (v := 126) hx hb dX10_writeRow_47 (by decide) ?_
              refine lv_goto (tgt := 73) hx hb dX10_writeRow_49 (by decide) ?_
              refine sp_callm (va_runV (As := [.int (126)]) (rest := []) ⟨hx, hb, hml, hown, hts⟩ (c_X10_writes l D am cy (m_wo μ n r i) _ hi 126 i (by first | exact hos | exact hi_0 | (rw [m_wr_10]; done) | (rw [m_wo_10]; done) | (rw [st_10]; done)) (by omega)) (cwV 1 hts gX10_writeRow_X10_writes rfl rfl rfl (by decide +kernel) ⟨Nat.le_of_ble_eq_true rfl, Nat.le_of_ble_eq_true rfl⟩) (sp_preVm hK hP (κ := 0) (by decide) mE_0 rfl) rfl rfl hl.1 rfl (lv_room (Nat.le_of_ble_eq_true rfl)) dX10_writeRow_73 ⟨Nat.le_of_ble_eq_true rfl, Nat.le_of_ble_eq_true rfl⟩) hS (fun q h1 h2 => sp_Alt h1 h2) (sp_Ale hS.1) (fun H locs hP hle hfr hS => ?_)
              refine W.eq (g2 := F0 m 76 ls []) rfl ?_
              refine lv_iinc (v := nI (i + 1)) (lv' := [(2, .int (nI (i + 1))), (3, .int (nI j_4)), (0, .ref (am (0))), (1, .int (r))]) hx hb dX10_writeRow_76 hl (k := 1) rfl (nI_1 _) (by decide) rfl (fun ls hl => ?_)
              refine lv_goto (tgt := 23) hx hb dX10_writeRow_79 (by decide) ?_
              exact ih (i + 1)  _ _ (by omega) (by omega)  ((show mW am cy (m_wr (m_wo μ n r i) i 126) = mW am cy (m_wo μ n r (i + 1)) from (by exact mW_eq (by rw [m_wo_s]; simp [m_sg, b2i, c_1, q_3, c_7, c_7d]))) ▸ hP) hS ls (lv_sub hl [0, 2, 3] rfl)
    exact loop_23 (20 + 1) (0)  _ _ (by omega) (by omega)  ((show mW am cy (sp_st (sp_st μ 0 0 (b2i (!(m_in r 0 9)))) 0 10 0) = mW am cy (m_wo μ n r 0) from (by exact mW_eq (by simp [m_wo, b2i, c_1]))) ▸ hP) hS ls (lv_sub hl [0, 1, 2] rfl)
  · rw [b2i_eq0] at c_1
    refine lv_iconst (v := 0) hx hb dX10_writeRow_14 (by decide) ?_
    have hE9 : mW am cy (sp_st μ 0 0 (b2i (!(m_in r 0 9)))) = mW am cy (if m_in r 0 9 = true then m_wo μ n r 20 else sp_st μ 0 0 1) := by exact mW_eq (by simp [b2i, c_1])
    have hP : va_P D vwCl (mW am cy (if m_in r 0 9 = true then m_wo μ n r 20 else sp_st μ 0 0 1)) H := by rw [← hE9]; exact hP
    exact W.iret (v := 0) hx hb hr (fun T9 hT9 _ => ⟨congrArg (fun z9 => Outcome.returned (some (Value.int z9))) (show (0 : Int32) = if m_in r 0 9 = true then 20 else 0 from (by first | (simp [b2i, c_1]; done) | (simp [b2i, c_1]; rfl))), by rw [hT9]; exact hP, hS.F hT9⟩) hS.2.2 dX10_writeRow_15

theorem wi_X10_outputAt_X10 : ∀ w ∈ wsX100, w ∈ wsX10_outputAt := by decide +kernel
set_option maxHeartbeats 4000000 in
set_option maxRecDepth 100000 in
theorem c_X10_outputAt (l : Launch) (D : va_G) (am : Nat → Nat) (cy : Nat → ClassId) (μ : Nat → Nat → Int32) (sz : Nat) (hi : sp_inj am 5) (ix : Int32) (os : Nat) (hos : μ 0 10 = nI os) (ho9 : os ≤ 100) : Met l yX10_outputAt wsX10_outputAt ({ frames := 1, cells := 0, slots := 0, locals := 22 } : Room) (sp_Pm D (tyG cy) sz [.ref (am (0)), .int (ix)] (mW am cy μ)) (sp_Q D (some (.int (if m_in ix 0 (nI os - 1) = true then cz (μ 2 (tn ix)) else 0))) (mW am cy (sp_st μ 0 0 (b2i (!m_in ix 0 (nI os - 1))))) (sp_A am 5 sz)) 0 0 (sp_A am 5 sz) := by
  refine Met.ofW (cc := cX10_outputAt) (maxL := 2) (ret := (some .char)) (by decide) rfl ?_
  intro p e s m args below meth c s₁ B hml hv
  obtain ⟨rfl, hsz, hP, hK⟩ := hv
  have hx := B.exec
  have hb := B.bytes
  have hr := B.returns
  have hts := atoms_spec (ws := wsX10_outputAt) B.pre
  have hown : s.vm.findClass RX10 = some m.cls := findClass_of_methodNamed B.named
  have hlocks := B.notSynchronized
  subst hsz
  have hS : va_S (sp_A am 5 s.heap.size) s.heap s.heap [] := va_S.rf
  have hAk : ∀ k, k < 5 → (sp_A am 5 s.heap.size) (am k) := fun k hk => Or.inl ⟨k, hk, rfl⟩
  skip
  have hl := lv_entry ([.ref (am (0)), .int (ix)]) (n := 2) (Nat.le_of_ble_eq_true rfl)
  refine W.eq (lg_entry_eq _ ([.ref (am (0)), .int (ix)]) _) ?_
  generalize (lg_sl ([.ref (am (0)), .int (ix)]) ++ List.replicate (2 - (lg_sl ([.ref (am (0)), .int (ix)])).length) Slot.unset).toArray = ls at hl ⊢
  have hl : lv_has ls 2 [(0, .ref (am (0))), (1, .int (ix))] := hl
  refine lv_aload_n hx hb dX10_outputAt_0 rfl (lv_at hl 0 rfl) ?_
  refine lv_iload_n hx hb dX10_outputAt_1 rfl (lv_at hl 1 rfl) ?_
  refine lv_iconst (v := 0) hx hb dX10_outputAt_2 (by decide) ?_
  refine lv_aload_n hx hb dX10_outputAt_3 rfl (lv_at hl 0 rfl) ?_
  refine sp_get hx hb hts wi_X10_outputAt_X10 hown hK hP (κ := 0) (by decide) mE_0 rfl 10 (by decide) (hts _ (List.mem_of_getElem? (i := 1) rfl)) (fun _ h => h) rfl dX10_outputAt_4 ?_
  refine W.eq (g2 := F0 m 7 ls [.int (nI os), .int (0), .int (ix), .ref (am (0))]) (by rw [hos]) ?_
  refine lv_iconst (v := 1) hx hb dX10_outputAt_7 (by decide) ?_
  refine lv_isub hx hb dX10_outputAt_8 ?_
  refine sp_call (W.runS (As := [.int (ix), .int (0), .int ((nI os) - 1)]) (rest := [.ref (am (0))]) ⟨hx, hb, hml, hown, hts⟩ (c_X10_in l D am cy μ ix 0 ((nI os) - 1)) (va_cwS 3 hts gX10_outputAt_X10_in rfl rfl rfl (by decide +kernel) ⟨Nat.le_of_ble_eq_true rfl, Nat.le_of_ble_eq_true rfl⟩) (sp_preS hK hP) rfl rfl hl.1 rfl (lv_room (Nat.le_of_ble_eq_true rfl)) dX10_outputAt_9 ⟨Nat.le_of_ble_eq_true rfl, Nat.le_of_ble_eq_true rfl⟩) ?_
  refine W.eq (g2 := F0 m 12 ls [.int (b2i (m_in ix 0 ((nI os) - 1))), .ref (am (0))]) rfl ?_
  refine sp_callm (va_runV (As := [.int (b2i (m_in ix 0 ((nI os) - 1)))]) (rest := []) ⟨hx, hb, hml, hown, hts⟩ (c_X10_isFine_b l D am cy μ _ hi (m_in ix 0 ((nI os) - 1))) (cwV 1 hts gX10_outputAt_X10_isFine rfl rfl rfl (by decide +kernel) ⟨Nat.le_of_ble_eq_true rfl, Nat.le_of_ble_eq_true rfl⟩) (sp_preVm hK hP (κ := 0) (by decide) mE_0 rfl) rfl rfl hl.1 rfl (lv_room (Nat.le_of_ble_eq_true rfl)) dX10_outputAt_12 ⟨Nat.le_of_ble_eq_true rfl, Nat.le_of_ble_eq_true rfl⟩) hS (fun q h1 h2 => sp_Alt h1 h2) (sp_Ale hS.1) (fun H locs hP hle hfr hS => ?_)
  refine W.eq (g2 := F0 m 15 ls [.int (b2i (m_in ix 0 ((nI os) - 1)))]) rfl ?_
  refine lv_if_eq (tgt := 27) hx hb dX10_outputAt_15 (by decide) (fun c_1 => ?_) (fun c_1 => ?_)
  · rw [b2i_eq0] at c_1
    refine lv_iconst (v := 0) hx hb dX10_outputAt_27 (by decide) ?_
    have hE9 : mW am cy (sp_st μ 0 0 (b2i (!(m_in ix 0 ((nI os) - 1))))) = mW am cy (sp_st μ 0 0 (b2i (!m_in ix 0 (nI os - 1)))) := by exact mW_eq (by simp [b2i, c_1])
    have hP : va_P D vwCl (mW am cy (sp_st μ 0 0 (b2i (!m_in ix 0 (nI os - 1))))) H := by rw [← hE9]; exact hP
    exact W.zret (v := 0) hx hb hr (by decide) (fun T9 hT9 _ => ⟨congrArg (fun z9 => Outcome.returned (some (Value.int z9))) (show (0 : Int32) = if m_in ix 0 (nI os - 1) = true then cz (μ 2 (tn ix)) else 0 from (by simp [b2i, c_1])), by rw [hT9]; exact hP, hS.F hT9⟩) hS.2.2 dX10_outputAt_28
  · rw [b2i_eq0] at c_1
    obtain ⟨hx0, hx9⟩ := m_in_os c_1 ho9
    refine lv_aload_n hx hb dX10_outputAt_18 rfl (lv_at hl 0 rfl) ?_
    refine sp_get hx hb hts wi_X10_outputAt_X10 hown hK hP (κ := 0) (by decide) mE_0 rfl 9 (by decide) (hts _ (List.mem_of_getElem? (i := 2) rfl)) (fun _ h => h) rfl dX10_outputAt_19 ?_
    refine lv_iload_n hx hb dX10_outputAt_22 rfl (lv_at hl 1 rfl) ?_
    refine sp_cald hx hb hK hP (κ := 2) (by decide) 0 mE_2 rfl (tn ix) (nI_tn hx0).symm (by omega) (by decide) dX10_outputAt_23 ?_
    refine W.eq (g2 := F0 m 24 ls [.int (cz (μ 2 (tn ix)))]) (by rw [sp_st_k _ _ _ _ _ _ (by decide)]) ?_
    refine lv_goto (tgt := 28) hx hb dX10_outputAt_24 (by decide) ?_
    have hE9 : mW am cy (sp_st μ 0 0 (b2i (!(m_in ix 0 ((nI os) - 1))))) = mW am cy (sp_st μ 0 0 (b2i (!m_in ix 0 (nI os - 1)))) := by exact mW_eq (by simp [b2i, c_1])
    have hP : va_P D vwCl (mW am cy (sp_st μ 0 0 (b2i (!m_in ix 0 (nI os - 1))))) H := by rw [← hE9]; exact hP
    exact W.zret (v := cz (μ 2 (tn ix))) hx hb hr (pk_nc _) (fun T9 hT9 _ => ⟨congrArg (fun z9 => Outcome.returned (some (Value.int z9))) (show (cz (μ 2 (tn ix)) : Int32) = if m_in ix 0 (nI os - 1) = true then cz (μ 2 (tn ix)) else 0 from (by simp [b2i, c_1])), by rw [hT9]; exact hP, hS.F hT9⟩) hS.2.2 dX10_outputAt_28

theorem wi_X10_appendInput_X10 : ∀ w ∈ wsX100, w ∈ wsX10_appendInput := by decide +kernel
set_option maxHeartbeats 4000000 in
set_option maxRecDepth 100000 in
theorem c_X10_appendInput (l : Launch) (D : va_G) (am : Nat → Nat) (cy : Nat → ClassId) (μ : Nat → Nat → Int32) (sz : Nat) (hi : sp_inj am 5) (x : Int32) (ty : Nat) (hty : μ 0 12 = nI ty) (ht60 : ty ≤ 60) : Met l yX10_appendInput wsX10_appendInput ({ frames := 1, cells := 0, slots := 0, locals := 22 } : Room) (sp_Pm D (tyG cy) sz [.ref (am (0)), .int (x)] (mW am cy μ)) (sp_Q D (some (.int (if m_in x 32 126 = true then (if nI ty = 60 then 0 else nI ty + 1) else 0))) (mW am cy (if m_in x 32 126 = true then (if nI ty = 60 then sp_st μ 0 0 2 else sp_st (sp_st (sp_st μ 0 0 0) 3 ty x) 0 12 (nI ty + 1)) else sp_st μ 0 0 1)) (sp_A am 5 sz)) 0 0 (sp_A am 5 sz) := by
  refine Met.ofW (cc := cX10_appendInput) (maxL := 2) (ret := (some .int)) (by decide) rfl ?_
  intro p e s m args below meth c s₁ B hml hv
  obtain ⟨rfl, hsz, hP, hK⟩ := hv
  have hx := B.exec
  have hb := B.bytes
  have hr := B.returns
  have hts := atoms_spec (ws := wsX10_appendInput) B.pre
  have hown : s.vm.findClass RX10 = some m.cls := findClass_of_methodNamed B.named
  have hlocks := B.notSynchronized
  subst hsz
  have hS : va_S (sp_A am 5 s.heap.size) s.heap s.heap [] := va_S.rf
  have hAk : ∀ k, k < 5 → (sp_A am 5 s.heap.size) (am k) := fun k hk => Or.inl ⟨k, hk, rfl⟩
  skip
  have hl := lv_entry ([.ref (am (0)), .int (x)]) (n := 2) (Nat.le_of_ble_eq_true rfl)
  refine W.eq (lg_entry_eq _ ([.ref (am (0)), .int (x)]) _) ?_
  generalize (lg_sl ([.ref (am (0)), .int (x)]) ++ List.replicate (2 - (lg_sl ([.ref (am (0)), .int (x)])).length) Slot.unset).toArray = ls at hl ⊢
  have hl : lv_has ls 2 [(0, .ref (am (0))), (1, .int (x))] := hl
  refine lv_aload_n hx hb dX10_appendInput_0 rfl (lv_at hl 0 rfl) ?_
  refine lv_iload_n hx hb dX10_appendInput_1 rfl (lv_at hl 1 rfl) ?_
  refine lv_bipush (v := 32) hx hb dX10_appendInput_2 (by decide) ?_
  refine lv_bipush (v := 126) hx hb dX10_appendInput_4 (by decide) ?_
  refine sp_call (W.runS (As := [.int (x), .int (32), .int (126)]) (rest := [.ref (am (0))]) ⟨hx, hb, hml, hown, hts⟩ (c_X10_in l D am cy μ x 32 126) (va_cwS 3 hts gX10_appendInput_X10_in rfl rfl rfl (by decide +kernel) ⟨Nat.le_of_ble_eq_true rfl, Nat.le_of_ble_eq_true rfl⟩) (sp_preS hK hP) rfl rfl hl.1 rfl (lv_room (Nat.le_of_ble_eq_true rfl)) dX10_appendInput_6 ⟨Nat.le_of_ble_eq_true rfl, Nat.le_of_ble_eq_true rfl⟩) ?_
  refine W.eq (g2 := F0 m 9 ls [.int (b2i (m_in x 32 126)), .ref (am (0))]) rfl ?_
  refine lv_if_ne (tgt := 16) hx hb dX10_appendInput_9 (by decide) (fun c_1 => ?_) (fun c_1 => ?_)
  · rw [b2i_eq0] at c_1
    refine lv_aload_n hx hb dX10_appendInput_16 rfl (lv_at hl 0 rfl) ?_
    refine sp_get hx hb hts wi_X10_appendInput_X10 hown hK hP (κ := 0) (by decide) mE_0 rfl 12 (by decide) (hts _ (List.mem_of_getElem? (i := 1) rfl)) (fun _ h => h) rfl dX10_appendInput_17 ?_
    refine W.eq (g2 := F0 m 20 ls [.int (nI ty), .ref (am (0))]) (by rw [hty]) ?_
    refine lv_bipush (v := 60) hx hb dX10_appendInput_20 (by decide) ?_
    refine lv_icmp_ne (tgt := 29) hx hb dX10_appendInput_22 (by decide) (fun c_2 => ?_) (fun c_2 => ?_)
    · skip
      have ht59 : ty < 60 := nI_lt60 c_2 ht60
      refine lv_iconst (v := 0) hx hb dX10_appendInput_29 (by decide) ?_
      refine sp_put hx hb hts wi_X10_appendInput_X10 tyX10 tyX10_ok nmX10 hown hK hP hi hAk hS (κ := 0) (by decide) mE_0 rfl 0 (by decide) (hts _ (List.mem_of_getElem? (i := 2) rfl)) (fun _ h => h) rfl (ty := tyX10 0) (by decide +kernel) ⟨rfl, rfl⟩ (Nat.le_of_ble_eq_true rfl) (r1 := upd (μ 0) 0 0) (cE_of mE_0 (by simp [upd])) dX10_appendInput_30 (fun H locs hP hS => ?_)
      have hP : va_P D vwCl (mW am cy (sp_st μ 0 0 0)) H := hP
      refine lv_aload_n hx hb dX10_appendInput_33 rfl (lv_at hl 0 rfl) ?_
      refine sp_get hx hb hts wi_X10_appendInput_X10 hown hK hP (κ := 0) (by decide) mE_0 rfl 0 (by decide) (hts _ (List.mem_of_getElem? (i := 2) rfl)) (fun _ h => h) rfl dX10_appendInput_34 ?_
      refine W.eq (g2 := F0 m 37 ls [.int (0)]) (by rw [sp_st_s]) ?_
      refine lv_if_eq (tgt := 42) hx hb dX10_appendInput_37 (by decide) (fun c_3 => ?_) (fun c_3 => ?_)
      · skip
        refine lv_aload_n hx hb dX10_appendInput_42 rfl (lv_at hl 0 rfl) ?_
        refine sp_get hx hb hts wi_X10_appendInput_X10 hown hK hP (κ := 0) (by decide) mE_0 rfl 11 (by decide) (hts _ (List.mem_of_getElem? (i := 3) rfl)) (fun _ h => h) rfl dX10_appendInput_43 ?_
        refine lv_aload_n hx hb dX10_appendInput_46 rfl (lv_at hl 0 rfl) ?_
        refine sp_get hx hb hts wi_X10_appendInput_X10 hown hK hP (κ := 0) (by decide) mE_0 rfl 12 (by decide) (hts _ (List.mem_of_getElem? (i := 1) rfl)) (fun _ h => h) rfl dX10_appendInput_47 ?_
        refine W.eq (g2 := F0 m 50 ls [.int (μ 0 12), .ref (am (3))]) (by rw [sp_st_j _ _ _ _ _ _ (by decide)]) ?_
        refine W.eq (g2 := F0 m 50 ls [.int (nI ty), .ref (am (3))]) (by rw [hty]) ?_
        refine lv_iload_n hx hb dX10_appendInput_50 rfl (lv_at hl 1 rfl) ?_
        refine sp_cast hx hb hK hP hi hAk hS (κ := 3) (by decide) 0 mE_3 rfl ty rfl (by omega) (by decide) (r1 := upd ((sp_st μ 0 0 0) 3) ty x) (by rw [mE_3, cz_upd]) dX10_appendInput_51 (fun H locs hP hS => ?_)
        have hP : va_P D vwCl (mW am cy (sp_st (sp_st μ 0 0 0) 3 ty x)) H := hP
        refine lv_aload_n hx hb dX10_appendInput_52 rfl (lv_at hl 0 rfl) ?_
        refine lv_dup hx hb dX10_appendInput_53 rfl ?_
        refine sp_get hx hb hts wi_X10_appendInput_X10 hown hK hP (κ := 0) (by decide) mE_0 rfl 12 (by decide) (hts _ (List.mem_of_getElem? (i := 1) rfl)) (fun _ h => h) rfl dX10_appendInput_54 ?_
        refine W.eq (g2 := F0 m 57 ls [.int (μ 0 12), .ref (am (0))]) (by rw [sp_st_k _ _ _ _ _ _ (by omega), sp_st_j _ _ _ _ _ _ (by decide)]) ?_
        refine W.eq (g2 := F0 m 57 ls [.int (nI ty), .ref (am (0))]) (by rw [hty]) ?_
        refine lv_iconst (v := 1) hx hb dX10_appendInput_57 (by decide) ?_
        refine lv_iadd hx hb dX10_appendInput_58 ?_
        refine sp_put hx hb hts wi_X10_appendInput_X10 tyX10 tyX10_ok nmX10 hown hK hP hi hAk hS (κ := 0) (by decide) mE_0 rfl 12 (by decide) (hts _ (List.mem_of_getElem? (i := 1) rfl)) (fun _ h => h) rfl (ty := tyX10 12) (by decide +kernel) ⟨rfl, rfl⟩ (Nat.le_of_ble_eq_true rfl) (r1 := upd ((sp_st (sp_st μ 0 0 0) 3 ty x) 0) 12 ((nI ty) + 1)) (cE_of mE_0 (by simp [upd])) dX10_appendInput_59 (fun H locs hP hS => ?_)
        have hP : va_P D vwCl (mW am cy (sp_st (sp_st (sp_st μ 0 0 0) 3 ty x) 0 12 ((nI ty) + 1))) H := hP
        refine lv_aload_n hx hb dX10_appendInput_62 rfl (lv_at hl 0 rfl) ?_
        refine sp_get hx hb hts wi_X10_appendInput_X10 hown hK hP (κ := 0) (by decide) mE_0 rfl 12 (by decide) (hts _ (List.mem_of_getElem? (i := 1) rfl)) (fun _ h => h) rfl dX10_appendInput_63 ?_
        refine W.eq (g2 := F0 m 66 ls [.int ((nI ty) + 1)]) (by rw [sp_st_s]) ?_
        have hE9 : mW am cy (sp_st (sp_st (sp_st μ 0 0 0) 3 ty x) 0 12 ((nI ty) + 1)) = mW am cy (if m_in x 32 126 = true then (if nI ty = 60 then sp_st μ 0 0 2 else sp_st (sp_st (sp_st μ 0 0 0) 3 ty x) 0 12 (nI ty + 1)) else sp_st μ 0 0 1) := by exact mW_eq (by simp [b2i, c_1, c_2])
        have hP : va_P D vwCl (mW am cy (if m_in x 32 126 = true then (if nI ty = 60 then sp_st μ 0 0 2 else sp_st (sp_st (sp_st μ 0 0 0) 3 ty x) 0 12 (nI ty + 1)) else sp_st μ 0 0 1)) H := by rw [← hE9]; exact hP
        exact W.iret (v := (nI ty) + 1) hx hb hr (fun T9 hT9 _ => ⟨congrArg (fun z9 => Outcome.returned (some (Value.int z9))) (show ((nI ty) + 1 : Int32) = if m_in x 32 126 = true then (if nI ty = 60 then 0 else nI ty + 1) else 0 from (by simp [b2i, c_1, c_2])), by rw [hT9]; exact hP, hS.F hT9⟩) hS.2.2 dX10_appendInput_66
      · exact absurd c_3 (by decide)
    · skip
      refine lv_iconst (v := 2) hx hb dX10_appendInput_25 (by decide) ?_
      refine lv_goto (tgt := 30) hx hb dX10_appendInput_26 (by decide) ?_
      refine sp_put hx hb hts wi_X10_appendInput_X10 tyX10 tyX10_ok nmX10 hown hK hP hi hAk hS (κ := 0) (by decide) mE_0 rfl 0 (by decide) (hts _ (List.mem_of_getElem? (i := 2) rfl)) (fun _ h => h) rfl (ty := tyX10 0) (by decide +kernel) ⟨rfl, rfl⟩ (Nat.le_of_ble_eq_true rfl) (r1 := upd (μ 0) 0 2) (cE_of mE_0 (by simp [upd])) dX10_appendInput_30 (fun H locs hP hS => ?_)
      have hP : va_P D vwCl (mW am cy (sp_st μ 0 0 2)) H := hP
      refine lv_aload_n hx hb dX10_appendInput_33 rfl (lv_at hl 0 rfl) ?_
      refine sp_get hx hb hts wi_X10_appendInput_X10 hown hK hP (κ := 0) (by decide) mE_0 rfl 0 (by decide) (hts _ (List.mem_of_getElem? (i := 2) rfl)) (fun _ h => h) rfl dX10_appendInput_34 ?_
      refine W.eq (g2 := F0 m 37 ls [.int (2)]) (by rw [sp_st_s]) ?_
      refine lv_if_eq (tgt := 42) hx hb dX10_appendInput_37 (by decide) (fun c_4 => ?_) (fun c_4 => ?_)
      · exact absurd c_4 (by decide)
      · skip
        refine lv_iconst (v := 0) hx hb dX10_appendInput_40 (by decide) ?_
        have hE9 : mW am cy (sp_st μ 0 0 2) = mW am cy (if m_in x 32 126 = true then (if nI ty = 60 then sp_st μ 0 0 2 else sp_st (sp_st (sp_st μ 0 0 0) 3 ty x) 0 12 (nI ty + 1)) else sp_st μ 0 0 1) := by exact mW_eq (by simp [b2i, c_1, c_2])
        have hP : va_P D vwCl (mW am cy (if m_in x 32 126 = true then (if nI ty = 60 then sp_st μ 0 0 2 else sp_st (sp_st (sp_st μ 0 0 0) 3 ty x) 0 12 (nI ty + 1)) else sp_st μ 0 0 1)) H := by rw [← hE9]; exact hP
        exact W.iret (v := 0) hx hb hr (fun T9 hT9 _ => ⟨congrArg (fun z9 => Outcome.returned (some (Value.int z9))) (show (0 : Int32) = if m_in x 32 126 = true then (if nI ty = 60 then 0 else nI ty + 1) else 0 from (by simp [b2i, c_1, c_2])), by rw [hT9]; exact hP, hS.F hT9⟩) hS.2.2 dX10_appendInput_41
  · rw [b2i_eq0] at c_1
    refine lv_iconst (v := 1) hx hb dX10_appendInput_12 (by decide) ?_
    refine lv_goto (tgt := 30) hx hb dX10_appendInput_13 (by decide) ?_
    refine sp_put hx hb hts wi_X10_appendInput_X10 tyX10 tyX10_ok nmX10 hown hK hP hi hAk hS (κ := 0) (by decide) mE_0 rfl 0 (by decide) (hts _ (List.mem_of_getElem? (i := 2) rfl)) (fun _ h => h) rfl (ty := tyX10 0) (by decide +kernel) ⟨rfl, rfl⟩ (Nat.le_of_ble_eq_true rfl) (r1 := upd (μ 0) 0 1) (cE_of mE_0 (by simp [upd])) dX10_appendInput_30 (fun H locs hP hS => ?_)
    have hP : va_P D vwCl (mW am cy (sp_st μ 0 0 1)) H := hP
    refine lv_aload_n hx hb dX10_appendInput_33 rfl (lv_at hl 0 rfl) ?_
    refine sp_get hx hb hts wi_X10_appendInput_X10 hown hK hP (κ := 0) (by decide) mE_0 rfl 0 (by decide) (hts _ (List.mem_of_getElem? (i := 2) rfl)) (fun _ h => h) rfl dX10_appendInput_34 ?_
    refine W.eq (g2 := F0 m 37 ls [.int (1)]) (by rw [sp_st_s]) ?_
    refine lv_if_eq (tgt := 42) hx hb dX10_appendInput_37 (by decide) (fun c_5 => ?_) (fun c_5 => ?_)
    · exact absurd c_5 (by decide)
    · skip
      refine lv_iconst (v := 0) hx hb dX10_appendInput_40 (by decide) ?_
      have hE9 : mW am cy (sp_st μ 0 0 1) = mW am cy (if m_in x 32 126 = true then (if nI ty = 60 then sp_st μ 0 0 2 else sp_st (sp_st (sp_st μ 0 0 0) 3 ty x) 0 12 (nI ty + 1)) else sp_st μ 0 0 1) := by exact mW_eq (by simp [b2i, c_1])
      have hP : va_P D vwCl (mW am cy (if m_in x 32 126 = true then (if nI ty = 60 then sp_st μ 0 0 2 else sp_st (sp_st (sp_st μ 0 0 0) 3 ty x) 0 12 (nI ty + 1)) else sp_st μ 0 0 1)) H := by rw [← hE9]; exact hP
      exact W.iret (v := 0) hx hb hr (fun T9 hT9 _ => ⟨congrArg (fun z9 => Outcome.returned (some (Value.int z9))) (show (0 : Int32) = if m_in x 32 126 = true then (if nI ty = 60 then 0 else nI ty + 1) else 0 from (by simp [b2i, c_1])), by rw [hT9]; exact hP, hS.F hT9⟩) hS.2.2 dX10_appendInput_41

