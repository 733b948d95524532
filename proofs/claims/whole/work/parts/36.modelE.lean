
/-! the model's changes as calls -/
theorem m_copy1 {μ : Nat → Nat → Int32} {a b j : Nat} (h : j < 289 * b) : m_copy μ a b 1 j = μ 1 j := by unfold m_copy m_cp; rw [if_neg (by omega)]
theorem m_copy_hi {μ : Nat → Nat → Int32} {a b j : Nat} (h : 289 * b + 289 ≤ j) : m_copy μ a b 1 j = μ 1 j := by unfold m_copy m_cp; rw [if_neg (by omega)]
theorem m_copy_at {μ : Nat → Nat → Int32} {a b j : Nat} (h : 289 * b ≤ j ∧ j < 289 * b + 289) : m_copy μ a b 1 j = μ 1 (289 * a + (j - 289 * b)) := by unfold m_copy m_cp; rw [if_pos (by omega)]
theorem m_copy_k {μ : Nat → Nat → Int32} {a b k j : Nat} (h : k ≠ 1) : m_copy μ a b k j = μ k j := by unfold m_copy m_cp; rw [if_neg (by omega)]
theorem MS.copy {μ : Nat → Nat → Int32} {n t : Nat} (h : MS (μ 1) n t) : MS (m_copy μ 0 10 1) n t := by
  unfold MS; rw [m_copy1 (by decide), m_copy1 (by decide)]; exact h
theorem nI_pos0 {ch : Nat} (h : ¬ nI ch ≤ 0) : 0 < ch := by
  rcases Nat.eq_zero_or_pos ch with h9 | h9
  · subst h9; exact absurd (by decide) h
  · exact h9
theorem bz_ne (x : Int32) : bz x = b2i (x != 0) := by
  unfold bz
  by_cases h : x = 0
  · subst h; decide
  · rw [if_neg h, show (x != 0) = true by simpa using h]; rfl
/-- what a change leaves: all but the row and four fields -/
abbrev mfx (k j : Nat) : Prop := ¬ (k = 1 ∨ (k = 0 ∧ 4 ≤ j ∧ j ≤ 7))
def MF (μ τ : Nat → Nat → Int32) : Prop := ∀ k j, mfx k j → τ k j = μ k j
theorem MF.rf {μ : Nat → Nat → Int32} : MF μ μ := fun _ _ _ => rfl
theorem MF.tr {μ τ ρ : Nat → Nat → Int32} (h : MF μ τ) (h2 : MF τ ρ) : MF μ ρ := fun k j hj => (h2 k j hj).trans (h k j hj)
theorem MF.st {μ τ : Nat → Nat → Int32} {k j : Nat} {v : Int32} (h : MF μ τ) (hk : k = 1 ∨ (k = 0 ∧ 4 ≤ j ∧ j ≤ 7)) : MF μ (sp_st τ k j v) := fun a b hb => by
  rw [sp_st_at, if_neg (fun z => hb (by rw [z.1, z.2]; exact hk))]; exact h a b hb
theorem MF.copy {μ τ : Nat → Nat → Int32} {a b : Nat} (h : MF μ τ) : MF μ (m_copy τ a b) := fun k j hj => by
  rw [m_copy_k (fun z => hj (Or.inl z))]; exact h k j hj
theorem MF.goes {μ τ : Nat → Nat → Int32} {n a : Nat} (h : MF μ τ) : MF μ (m_goes τ n a) := fun k j hj => by
  rw [m_goes_out (Or.inl (fun z => hj (Or.inl z)))]; exact h k j hj
theorem MF.rm {μ τ : Nat → Nat → Int32} {P : (Nat → Nat → Int32) → Nat → Bool} {n i : Nat} (h : MF μ τ) : MF μ (m_rm P n τ i).2 := fun k j hj => by
  rw [m_rm_out (Or.inl (fun z => hj (Or.inl z)))]; exact h k j hj
theorem MF.mv {μ τ : Nat → Nat → Int32} {w a b : Nat} (h : MF μ τ) : MF μ (m_mv τ w a b) := fun k j hj => by
  unfold m_mv; rw [if_neg (fun z => hj (Or.inl z.1))]; exact h k j hj
theorem MF.rej {μ τ : Nat → Nat → Int32} {x y : Int32} (h : MF μ τ) : MF μ (m_rej τ x y) := ((h.st (by decide)).st (by decide)).st (by decide)
theorem MF.rejO {μ τ : Nat → Nat → Int32} {o : Option (Int32 × Int32)} (h : MF μ τ) : MF μ (m_rejO μ o τ) := by
  rcases o with _ | y
  · exact h
  · exact MF.rf.rej
theorem MF_addT (μ : Nat → Nat → Int32) (t : Nat) (z : Int32) : MF μ (m_addT μ t z) := by
  unfold m_addT
  split
  · split
    · exact MF.rf.rej
    · exact ((((MF.rf.st (by decide)).st (Or.inl rfl)).st (Or.inl rfl)).st (Or.inl rfl)).st (Or.inl rfl)
  · exact MF.rf
theorem MF_rmTr (μ : Nat → Nat → Int32) (n t : Nat) (x : Int32) : MF μ (m_rmTr μ n t x) := by
  unfold m_rmTr
  rcases m_ft (μ 1) t x with _ | k
  · exact MF.rf
  · exact (((MF.mv (MF.rm (MF.rf.st (by decide)))).st (Or.inl rfl)).st (Or.inl rfl)).st (Or.inl rfl)
theorem MF_rmPr (μ : Nat → Nat → Int32) (n : Nat) (x : Int32) : MF μ (m_rmPr μ n x) := by
  unfold m_rmPr
  rcases m_find (μ 1) n x with _ | k
  · exact MF.rf
  · exact MF.goes (MF.rf.st (by decide))
theorem MF_cor (μ : Nat → Nat → Int32) (n : Nat) (x r c1 : Int32) : MF μ (m_cor μ n x r c1) := by
  unfold m_cor
  rcases m_find (μ 1) n x with _ | k
  · exact MF.rf
  · show MF μ (if m_isCell r c1 = true then _ else μ)
    split
    · exact ((((MF.rf.st (Or.inl rfl)).st (Or.inl rfl)).st (Or.inl rfl)).st (by decide)).rejO
    · exact MF.rf
theorem MF_swap (μ : Nat → Nat → Int32) (n : Nat) (x : Int32) : MF μ (m_swap μ n x) := by
  unfold m_swap
  rcases m_find (μ 1) n x with _ | k
  · exact MF.rf
  · exact (MF.rf.st (by decide)).st (Or.inl rfl)
theorem MF_doub (μ : Nat → Nat → Int32) (n : Nat) (x : Int32) : MF μ (m_doub μ n x) := by
  unfold m_doub
  rcases m_find (μ 1) n x with _ | k
  · exact MF.rf
  · show MF μ (if gP (μ 1) k 7 = 3 then _ else _)
    split
    · exact MF.rf.rej
    · exact (MF.rf.st (by decide)).st (Or.inl rfl)
theorem MF_conf (μ : Nat → Nat → Int32) (n : Nat) (x : Int32) : MF μ (m_conf μ n x) := by
  unfold m_conf
  rcases m_find (μ 1) n x with _ | k
  · exact MF.rf
  · show MF μ (if gP (μ 1) k 7 = 0 then _ else _)
    split
    · exact (MF.rf.st (by decide)).rej
    · exact (MF.rf.st (by decide)).st (Or.inl rfl)
theorem MF_tide (μ : Nat → Nat → Int32) (n : Nat) (v : Int32) : MF μ (m_tide μ n v) := by
  unfold m_tide
  split
  · split
    · exact MF.rf.rej
    · exact ((MF.rm (MF.rf.st (by decide))).st (Or.inl rfl)).st (Or.inl rfl)
  · exact MF.rf
theorem MF_new (μ : Nat → Nat → Int32) (n : Nat) (x u r c1 lf z : Int32) : MF μ (m_new μ n x u r c1 lf z) := by
  unfold m_new
  exact (((((((((((MF.rf.st (by decide)).st (Or.inl rfl)).st (Or.inl rfl)).st (Or.inl rfl)).st (Or.inl rfl)).st (Or.inl rfl)).st (Or.inl rfl)).st (Or.inl rfl)).st (Or.inl rfl)).st (Or.inl rfl)).st (Or.inl rfl)).st (Or.inl rfl)
theorem MF_addP (μ : Nat → Nat → Int32) (n t : Nat) (x u r c1 lf z : Int32) : MF μ (m_addP μ n t x u r c1 lf z) := by
  unfold m_addP
  rcases m_ft (μ 1) t x with _ | k
  · exact MF.rf
  · show MF μ (if m_isCell r c1 = true then _ else μ)
    split
    · split
      · exact (MF_new _ _ _ _ _ _ _ _).rejO
      · exact MF.rf
    · exact MF.rf
theorem conf_o {o : Option Nat} {g : Nat → Int32} (hd : ∀ k, o = some k → g k = 0 ∨ g k = 1 ∨ g k = 2 ∨ g k = 3) : vf_n64 (FP.dadd FP.dconst1 (FP.i2d (atO o 0 g))) ∧ vf_n64 (FP.ddiv FP.dconst1 (FP.dadd FP.dconst1 (FP.i2d (atO o 0 g)))) := by
  rcases o with _ | k
  · exact conf_ok (Or.inl rfl)
  · exact conf_ok (hd k rfl)
def mF_late (μ : Nat → Int32) (k : Nat) : Int32 := gP μ k 8
set_option maxHeartbeats 4000000 in
set_option maxRecDepth 100000 in
theorem c_X10_addTrack (l : Launch) (D : va_G) (am : Nat → Nat) (cy : Nat → ClassId) (μ : Nat → Nat → Int32) (sz : Nat) (hi : sp_inj am 5) (n : Nat) (t : Nat) (hM : MS (μ 1) n t) (ch : Nat) (hC : μ 0 2 = nI ch) (hc8 : ch ≤ 8) (z : Int32) : Met l yX10_addTrack wsX10_addTrack ({ frames := 2, cells := 0, slots := 0, locals := 48 } : Room) (sp_Pm D (tyG cy) sz [.ref (am (0)), .int (z)] (mW am cy μ)) (sp_Q D (some (.int (m_endr (m_addT (m_copy μ 0 10) t z) (m_addTv t z) 0 1 2))) (mW am cy (m_ends (m_addT (m_copy μ 0 10) t z) ch (m_addTv t z) 0 1 2)) (sp_A am 5 sz)) 0 0 (sp_A am 5 sz) := by
  refine Met.ofW (cc := cX10_addTrack) (maxL := 2) (ret := (some .int)) (by decide) rfl ?_
  intro p e s m args below meth c s₁ B hml hv
  obtain ⟨rfl, hsz, hP, hK⟩ := hv
  have hx := B.exec
  have hb := B.bytes
  have hr := B.returns
  have hts := atoms_spec (ws := wsX10_addTrack) B.pre
  have hown : s.vm.findClass RX10 = some m.cls := findClass_of_methodNamed B.named
  have hlocks := B.notSynchronized
  subst hsz
  have hS : va_S (sp_A am 5 s.heap.size) s.heap s.heap [] := va_S.rf
  have hAk : ∀ k, k < 5 → (sp_A am 5 s.heap.size) (am k) := fun k hk => Or.inl ⟨k, hk, rfl⟩
  skip
  have hn30 := hM.2.1
  have ht6 := hM.2.2.2
  have hl := lv_entry ([.ref (am (0)), .int (z)]) (n := 2) (Nat.le_of_ble_eq_true rfl)
  refine W.eq (lg_entry_eq _ ([.ref (am (0)), .int (z)]) _) ?_
  generalize (lg_sl ([.ref (am (0)), .int (z)]) ++ List.replicate (2 - (lg_sl ([.ref (am (0)), .int (z)])).length) Slot.unset).toArray = ls at hl ⊢
  have hl : lv_has ls 2 [(0, .ref (am (0))), (1, .int (z))] := hl
  refine lv_aload_n hx hb dX10_addTrack_0 rfl (lv_at hl 0 rfl) ?_
  refine sp_callm (va_runV (As := []) (rest := []) ⟨hx, hb, hml, hown, hts⟩ (c_X10_begins l D am cy μ _ hi ) (cwV 0 hts gX10_addTrack_X10_begins rfl rfl rfl (by decide +kernel) ⟨Nat.le_of_ble_eq_true rfl, Nat.le_of_ble_eq_true rfl⟩) (sp_preVm hK hP (κ := 0) (by decide) mE_0 rfl) rfl rfl hl.1 rfl (lv_room (Nat.le_of_ble_eq_true rfl)) dX10_addTrack_1 ⟨Nat.le_of_ble_eq_true rfl, Nat.le_of_ble_eq_true rfl⟩) hS (fun q h1 h2 => sp_Alt h1 h2) (sp_Ale hS.1) (fun H locs hP hle hfr hS => ?_)
  refine W.eq (g2 := F0 m 4 ls []) rfl ?_
  refine lv_aload_n hx hb dX10_addTrack_4 rfl (lv_at hl 0 rfl) ?_
  refine lv_aload_n hx hb dX10_addTrack_5 rfl (lv_at hl 0 rfl) ?_
  refine lv_iload_n hx hb dX10_addTrack_6 rfl (lv_at hl 1 rfl) ?_
  refine sp_callm (va_runV (As := [.int (z)]) (rest := [.ref (am (0))]) ⟨hx, hb, hml, hown, hts⟩ (c_X10_addsTrack l D am cy (m_copy μ 0 10) _ hi n t (by exact hM.copy) z) (cwV 1 hts gX10_addTrack_X10_addsTrack rfl rfl rfl (by decide +kernel) ⟨Nat.le_of_ble_eq_true rfl, Nat.le_of_ble_eq_true rfl⟩) (sp_preVm hK hP (κ := 0) (by decide) mE_0 rfl) rfl rfl hl.1 rfl (lv_room (Nat.le_of_ble_eq_true rfl)) dX10_addTrack_7 ⟨Nat.le_of_ble_eq_true rfl, Nat.le_of_ble_eq_true rfl⟩) hS (fun q h1 h2 => sp_Alt h1 h2) (sp_Ale hS.1) (fun H locs hP hle hfr hS => ?_)
  refine W.eq (g2 := F0 m 10 ls [.int (m_addTv t z), .ref (am (0))]) rfl ?_
  refine lv_iconst (v := 0) hx hb dX10_addTrack_10 (by decide) ?_
  refine lv_iconst (v := 1) hx hb dX10_addTrack_11 (by decide) ?_
  refine lv_iconst (v := 2) hx hb dX10_addTrack_12 (by decide) ?_
  refine sp_callm (va_runV (As := [.int (m_addTv t z), .int (0), .int (1), .int (2)]) (rest := []) ⟨hx, hb, hml, hown, hts⟩ (c_X10_ends l D am cy (m_addT (m_copy μ 0 10) t z) _ hi (m_addTv t z) 0 1 2 ch (by exact ((MF_addT _ _ _) 0 2 (by decide)).trans (m_copy0.trans hC)) (by omega)) (cwV 4 hts gX10_addTrack_X10_ends rfl rfl rfl (by decide +kernel) ⟨Nat.le_of_ble_eq_true rfl, Nat.le_of_ble_eq_true rfl⟩) (sp_preVm hK hP (κ := 0) (by decide) mE_0 rfl) rfl rfl hl.1 rfl (lv_room (Nat.le_of_ble_eq_true rfl)) dX10_addTrack_13 ⟨Nat.le_of_ble_eq_true rfl, Nat.le_of_ble_eq_true rfl⟩) hS (fun q h1 h2 => sp_Alt h1 h2) (sp_Ale hS.1) (fun H locs hP hle hfr hS => ?_)
  refine W.eq (g2 := F0 m 16 ls [.int (m_endr (m_addT (m_copy μ 0 10) t z) (m_addTv t z) 0 1 2)]) rfl ?_
  exact W.iret (v := m_endr (m_addT (m_copy μ 0 10) t z) (m_addTv t z) 0 1 2) hx hb hr (fun T9 hT9 _ => ⟨congrArg (fun z9 => Outcome.returned (some (Value.int z9))) (show (m_endr (m_addT (m_copy μ 0 10) t z) (m_addTv t z) 0 1 2 : Int32) = m_endr (m_addT (m_copy μ 0 10) t z) (m_addTv t z) 0 1 2 from (by first | rfl | simp [b2i, b2i])), by rw [hT9]; exact hP, hS.F hT9⟩) hS.2.2 dX10_addTrack_16

set_option maxHeartbeats 4000000 in
set_option maxRecDepth 100000 in
theorem c_X10_removeTrack (l : Launch) (D : va_G) (am : Nat → Nat) (cy : Nat → ClassId) (μ : Nat → Nat → Int32) (sz : Nat) (hi : sp_inj am 5) (n : Nat) (t : Nat) (hM : MS (μ 1) n t) (ch : Nat) (hC : μ 0 2 = nI ch) (hc8 : ch ≤ 8) (x : Int32) : Met l yX10_removeTrack wsX10_removeTrack ({ frames := 3, cells := 0, slots := 0, locals := 70 } : Room) (sp_Pm D (tyG cy) sz [.ref (am (0)), .int (x)] (mW am cy μ)) (sp_Q D (some (.int (m_endr (m_rmTr (m_copy μ 0 10) n t x) (m_by (m_ft ((m_copy μ 0 10) 1) t x)) 1 0 0))) (mW am cy (m_ends (m_rmTr (m_copy μ 0 10) n t x) ch (m_by (m_ft ((m_copy μ 0 10) 1) t x)) 1 0 0)) (sp_A am 5 sz)) 0 0 (sp_A am 5 sz) := by
  refine Met.ofW (cc := cX10_removeTrack) (maxL := 2) (ret := (some .int)) (by decide) rfl ?_
  intro p e s m args below meth c s₁ B hml hv
  obtain ⟨rfl, hsz, hP, hK⟩ := hv
  have hx := B.exec
  have hb := B.bytes
  have hr := B.returns
  have hts := atoms_spec (ws := wsX10_removeTrack) B.pre
  have hown : s.vm.findClass RX10 = some m.cls := findClass_of_methodNamed B.named
  have hlocks := B.notSynchronized
  subst hsz
  have hS : va_S (sp_A am 5 s.heap.size) s.heap s.heap [] := va_S.rf
  have hAk : ∀ k, k < 5 → (sp_A am 5 s.heap.size) (am k) := fun k hk => Or.inl ⟨k, hk, rfl⟩
  skip
  have hn30 := hM.2.1
  have ht6 := hM.2.2.2
  have hl := lv_entry ([.ref (am (0)), .int (x)]) (n := 2) (Nat.le_of_ble_eq_true rfl)
  refine W.eq (lg_entry_eq _ ([.ref (am (0)), .int (x)]) _) ?_
  generalize (lg_sl ([.ref (am (0)), .int (x)]) ++ List.replicate (2 - (lg_sl ([.ref (am (0)), .int (x)])).length) Slot.unset).toArray = ls at hl ⊢
  have hl : lv_has ls 2 [(0, .ref (am (0))), (1, .int (x))] := hl
  refine lv_aload_n hx hb dX10_removeTrack_0 rfl (lv_at hl 0 rfl) ?_
  refine sp_callm (va_runV (As := []) (rest := []) ⟨hx, hb, hml, hown, hts⟩ (c_X10_begins l D am cy μ _ hi ) (cwV 0 hts gX10_removeTrack_X10_begins rfl rfl rfl (by decide +kernel) ⟨Nat.le_of_ble_eq_true rfl, Nat.le_of_ble_eq_true rfl⟩) (sp_preVm hK hP (κ := 0) (by decide) mE_0 rfl) rfl rfl hl.1 rfl (lv_room (Nat.le_of_ble_eq_true rfl)) dX10_removeTrack_1 ⟨Nat.le_of_ble_eq_true rfl, Nat.le_of_ble_eq_true rfl⟩) hS (fun q h1 h2 => sp_Alt h1 h2) (sp_Ale hS.1) (fun H locs hP hle hfr hS => ?_)
  refine W.eq (g2 := F0 m 4 ls []) rfl ?_
  refine lv_aload_n hx hb dX10_removeTrack_4 rfl (lv_at hl 0 rfl) ?_
  refine lv_aload_n hx hb dX10_removeTrack_5 rfl (lv_at hl 0 rfl) ?_
  refine lv_iload_n hx hb dX10_removeTrack_6 rfl (lv_at hl 1 rfl) ?_
  refine sp_callm (va_runV (As := [.int (x)]) (rest := [.ref (am (0))]) ⟨hx, hb, hml, hown, hts⟩ (c_X10_removesTrack l D am cy (m_copy μ 0 10) _ hi n t (by exact hM.copy) x) (cwV 1 hts gX10_removeTrack_X10_removesTrack rfl rfl rfl (by decide +kernel) ⟨Nat.le_of_ble_eq_true rfl, Nat.le_of_ble_eq_true rfl⟩) (sp_preVm hK hP (κ := 0) (by decide) mE_0 rfl) rfl rfl hl.1 rfl (lv_room (Nat.le_of_ble_eq_true rfl)) dX10_removeTrack_7 ⟨Nat.le_of_ble_eq_true rfl, Nat.le_of_ble_eq_true rfl⟩) hS (fun q h1 h2 => sp_Alt h1 h2) (sp_Ale hS.1) (fun H locs hP hle hfr hS => ?_)
  refine W.eq (g2 := F0 m 10 ls [.int (m_by (m_ft ((m_copy μ 0 10) 1) t x)), .ref (am (0))]) rfl ?_
  refine lv_iconst (v := 1) hx hb dX10_removeTrack_10 (by decide) ?_
  refine lv_iconst (v := 0) hx hb dX10_removeTrack_11 (by decide) ?_
  refine lv_iconst (v := 0) hx hb dX10_removeTrack_12 (by decide) ?_
  refine sp_callm (va_runV (As := [.int (m_by (m_ft ((m_copy μ 0 10) 1) t x)), .int (1), .int (0), .int (0)]) (rest := []) ⟨hx, hb, hml, hown, hts⟩ (c_X10_ends l D am cy (m_rmTr (m_copy μ 0 10) n t x) _ hi (m_by (m_ft ((m_copy μ 0 10) 1) t x)) 1 0 0 ch (by exact ((MF_rmTr _ _ _ _) 0 2 (by decide)).trans (m_copy0.trans hC)) (by omega)) (cwV 4 hts gX10_removeTrack_X10_ends rfl rfl rfl (by decide +kernel) ⟨Nat.le_of_ble_eq_true rfl, Nat.le_of_ble_eq_true rfl⟩) (sp_preVm hK hP (κ := 0) (by decide) mE_0 rfl) rfl rfl hl.1 rfl (lv_room (Nat.le_of_ble_eq_true rfl)) dX10_removeTrack_13 ⟨Nat.le_of_ble_eq_true rfl, Nat.le_of_ble_eq_true rfl⟩) hS (fun q h1 h2 => sp_Alt h1 h2) (sp_Ale hS.1) (fun H locs hP hle hfr hS => ?_)
  refine W.eq (g2 := F0 m 16 ls [.int (m_endr (m_rmTr (m_copy μ 0 10) n t x) (m_by (m_ft ((m_copy μ 0 10) 1) t x)) 1 0 0)]) rfl ?_
  exact W.iret (v := m_endr (m_rmTr (m_copy μ 0 10) n t x) (m_by (m_ft ((m_copy μ 0 10) 1) t x)) 1 0 0) hx hb hr (fun T9 hT9 _ => ⟨congrArg (fun z9 => Outcome.returned (some (Value.int z9))) (show (m_endr (m_rmTr (m_copy μ 0 10) n t x) (m_by (m_ft ((m_copy μ 0 10) 1) t x)) 1 0 0 : Int32) = m_endr (m_rmTr (m_copy μ 0 10) n t x) (m_by (m_ft ((m_copy μ 0 10) 1) t x)) 1 0 0 from (by first | rfl | simp [b2i, b2i])), by rw [hT9]; exact hP, hS.F hT9⟩) hS.2.2 dX10_removeTrack_16

set_option maxHeartbeats 4000000 in
set_option maxRecDepth 100000 in
theorem c_X10_removePrint (l : Launch) (D : va_G) (am : Nat → Nat) (cy : Nat → ClassId) (μ : Nat → Nat → Int32) (sz : Nat) (hi : sp_inj am 5) (n : Nat) (t : Nat) (hM : MS (μ 1) n t) (ch : Nat) (hC : μ 0 2 = nI ch) (hc8 : ch ≤ 8) (x : Int32) : Met l yX10_removePrint wsX10_removePrint ({ frames := 3, cells := 0, slots := 0, locals := 68 } : Room) (sp_Pm D (tyG cy) sz [.ref (am (0)), .int (x)] (mW am cy μ)) (sp_Q D (some (.int (m_endr (m_rmPr (m_copy μ 0 10) n x) (m_by (m_find ((m_copy μ 0 10) 1) n x)) 1 0 0))) (mW am cy (m_ends (m_rmPr (m_copy μ 0 10) n x) ch (m_by (m_find ((m_copy μ 0 10) 1) n x)) 1 0 0)) (sp_A am 5 sz)) 0 0 (sp_A am 5 sz) := by
  refine Met.ofW (cc := cX10_removePrint) (maxL := 2) (ret := (some .int)) (by decide) rfl ?_
  intro p e s m args below meth c s₁ B hml hv
  obtain ⟨rfl, hsz, hP, hK⟩ := hv
  have hx := B.exec
  have hb := B.bytes
  have hr := B.returns
  have hts := atoms_spec (ws := wsX10_removePrint) B.pre
  have hown : s.vm.findClass RX10 = some m.cls := findClass_of_methodNamed B.named
  have hlocks := B.notSynchronized
  subst hsz
  have hS : va_S (sp_A am 5 s.heap.size) s.heap s.heap [] := va_S.rf
  have hAk : ∀ k, k < 5 → (sp_A am 5 s.heap.size) (am k) := fun k hk => Or.inl ⟨k, hk, rfl⟩
  skip
  have hn30 := hM.2.1
  have ht6 := hM.2.2.2
  have hl := lv_entry ([.ref (am (0)), .int (x)]) (n := 2) (Nat.le_of_ble_eq_true rfl)
  refine W.eq (lg_entry_eq _ ([.ref (am (0)), .int (x)]) _) ?_
  generalize (lg_sl ([.ref (am (0)), .int (x)]) ++ List.replicate (2 - (lg_sl ([.ref (am (0)), .int (x)])).length) Slot.unset).toArray = ls at hl ⊢
  have hl : lv_has ls 2 [(0, .ref (am (0))), (1, .int (x))] := hl
  refine lv_aload_n hx hb dX10_removePrint_0 rfl (lv_at hl 0 rfl) ?_
  refine sp_callm (va_runV (As := []) (rest := []) ⟨hx, hb, hml, hown, hts⟩ (c_X10_begins l D am cy μ _ hi ) (cwV 0 hts gX10_removePrint_X10_begins rfl rfl rfl (by decide +kernel) ⟨Nat.le_of_ble_eq_true rfl, Nat.le_of_ble_eq_true rfl⟩) (sp_preVm hK hP (κ := 0) (by decide) mE_0 rfl) rfl rfl hl.1 rfl (lv_room (Nat.le_of_ble_eq_true rfl)) dX10_removePrint_1 ⟨Nat.le_of_ble_eq_true rfl, Nat.le_of_ble_eq_true rfl⟩) hS (fun q h1 h2 => sp_Alt h1 h2) (sp_Ale hS.1) (fun H locs hP hle hfr hS => ?_)
  refine W.eq (g2 := F0 m 4 ls []) rfl ?_
  refine lv_aload_n hx hb dX10_removePrint_4 rfl (lv_at hl 0 rfl) ?_
  refine lv_aload_n hx hb dX10_removePrint_5 rfl (lv_at hl 0 rfl) ?_
  refine lv_iload_n hx hb dX10_removePrint_6 rfl (lv_at hl 1 rfl) ?_
  refine sp_callm (va_runV (As := [.int (x)]) (rest := [.ref (am (0))]) ⟨hx, hb, hml, hown, hts⟩ (c_X10_removesPrint l D am cy (m_copy μ 0 10) _ hi n t (by exact hM.copy) x) (cwV 1 hts gX10_removePrint_X10_removesPrint rfl rfl rfl (by decide +kernel) ⟨Nat.le_of_ble_eq_true rfl, Nat.le_of_ble_eq_true rfl⟩) (sp_preVm hK hP (κ := 0) (by decide) mE_0 rfl) rfl rfl hl.1 rfl (lv_room (Nat.le_of_ble_eq_true rfl)) dX10_removePrint_7 ⟨Nat.le_of_ble_eq_true rfl, Nat.le_of_ble_eq_true rfl⟩) hS (fun q h1 h2 => sp_Alt h1 h2) (sp_Ale hS.1) (fun H locs hP hle hfr hS => ?_)
  refine W.eq (g2 := F0 m 10 ls [.int (m_by (m_find ((m_copy μ 0 10) 1) n x)), .ref (am (0))]) rfl ?_
  refine lv_iconst (v := 1) hx hb dX10_removePrint_10 (by decide) ?_
  refine lv_iconst (v := 0) hx hb dX10_removePrint_11 (by decide) ?_
  refine lv_iconst (v := 0) hx hb dX10_removePrint_12 (by decide) ?_
  refine sp_callm (va_runV (As := [.int (m_by (m_find ((m_copy μ 0 10) 1) n x)), .int (1), .int (0), .int (0)]) (rest := []) ⟨hx, hb, hml, hown, hts⟩ (c_X10_ends l D am cy (m_rmPr (m_copy μ 0 10) n x) _ hi (m_by (m_find ((m_copy μ 0 10) 1) n x)) 1 0 0 ch (by exact ((MF_rmPr _ _ _) 0 2 (by decide)).trans (m_copy0.trans hC)) (by omega)) (cwV 4 hts gX10_removePrint_X10_ends rfl rfl rfl (by decide +kernel) ⟨Nat.le_of_ble_eq_true rfl, Nat.le_of_ble_eq_true rfl⟩) (sp_preVm hK hP (κ := 0) (by decide) mE_0 rfl) rfl rfl hl.1 rfl (lv_room (Nat.le_of_ble_eq_true rfl)) dX10_removePrint_13 ⟨Nat.le_of_ble_eq_true rfl, Nat.le_of_ble_eq_true rfl⟩) hS (fun q h1 h2 => sp_Alt h1 h2) (sp_Ale hS.1) (fun H locs hP hle hfr hS => ?_)
  refine W.eq (g2 := F0 m 16 ls [.int (m_endr (m_rmPr (m_copy μ 0 10) n x) (m_by (m_find ((m_copy μ 0 10) 1) n x)) 1 0 0)]) rfl ?_
  exact W.iret (v := m_endr (m_rmPr (m_copy μ 0 10) n x) (m_by (m_find ((m_copy μ 0 10) 1) n x)) 1 0 0) hx hb hr (fun T9 hT9 _ => ⟨congrArg (fun z9 => Outcome.returned (some (Value.int z9))) (show (m_endr (m_rmPr (m_copy μ 0 10) n x) (m_by (m_find ((m_copy μ 0 10) 1) n x)) 1 0 0 : Int32) = m_endr (m_rmPr (m_copy μ 0 10) n x) (m_by (m_find ((m_copy μ 0 10) 1) n x)) 1 0 0 from (by first | rfl | simp [b2i, b2i])), by rw [hT9]; exact hP, hS.F hT9⟩) hS.2.2 dX10_removePrint_16

set_option maxHeartbeats 4000000 in
set_option maxRecDepth 100000 in
theorem c_X10_correctHeel (l : Launch) (D : va_G) (am : Nat → Nat) (cy : Nat → ClassId) (μ : Nat → Nat → Int32) (sz : Nat) (hi : sp_inj am 5) (n : Nat) (t : Nat) (hM : MS (μ 1) n t) (ch : Nat) (hC : μ 0 2 = nI ch) (hc8 : ch ≤ 8) (x : Int32) (r : Int32) (c1 : Int32) : Met l yX10_correctHeel wsX10_correctHeel ({ frames := 3, cells := 0, slots := 0, locals := 71 } : Room) (sp_Pm D (tyG cy) sz [.ref (am (0)), .int (x), .int (r), .int (c1)] (mW am cy μ)) (sp_Q D (some (.int (m_endr (m_cor (m_copy μ 0 10) n x r c1) (m_corv ((m_copy μ 0 10) 1) n x r c1) 1 0 2))) (mW am cy (m_ends (m_cor (m_copy μ 0 10) n x r c1) ch (m_corv ((m_copy μ 0 10) 1) n x r c1) 1 0 2)) (sp_A am 5 sz)) 0 0 (sp_A am 5 sz) := by
  refine Met.ofW (cc := cX10_correctHeel) (maxL := 4) (ret := (some .int)) (by decide) rfl ?_
  intro p e s m args below meth c s₁ B hml hv
  obtain ⟨rfl, hsz, hP, hK⟩ := hv
  have hx := B.exec
  have hb := B.bytes
  have hr := B.returns
  have hts := atoms_spec (ws := wsX10_correctHeel) B.pre
  have hown : s.vm.findClass RX10 = some m.cls := findClass_of_methodNamed B.named
  have hlocks := B.notSynchronized
  subst hsz
  have hS : va_S (sp_A am 5 s.heap.size) s.heap s.heap [] := va_S.rf
  have hAk : ∀ k, k < 5 → (sp_A am 5 s.heap.size) (am k) := fun k hk => Or.inl ⟨k, hk, rfl⟩
  skip
  have hn30 := hM.2.1
  have ht6 := hM.2.2.2
  have hl := lv_entry ([.ref (am (0)), .int (x), .int (r), .int (c1)]) (n := 4) (Nat.le_of_ble_eq_true rfl)
  refine W.eq (lg_entry_eq _ ([.ref (am (0)), .int (x), .int (r), .int (c1)]) _) ?_
  generalize (lg_sl ([.ref (am (0)), .int (x), .int (r), .int (c1)]) ++ List.replicate (4 - (lg_sl ([.ref (am (0)), .int (x), .int (r), .int (c1)])).length) Slot.unset).toArray = ls at hl ⊢
  have hl : lv_has ls 4 [(0, .ref (am (0))), (1, .int (x)), (2, .int (r)), (3, .int (c1))] := hl
  refine lv_aload_n hx hb dX10_correctHeel_0 rfl (lv_at hl 0 rfl) ?_
  refine sp_callm (va_runV (As := []) (rest := []) ⟨hx, hb, hml, hown, hts⟩ (c_X10_begins l D am cy μ _ hi ) (cwV 0 hts gX10_correctHeel_X10_begins rfl rfl rfl (by decide +kernel) ⟨Nat.le_of_ble_eq_true rfl, Nat.le_of_ble_eq_true rfl⟩) (sp_preVm hK hP (κ := 0) (by decide) mE_0 rfl) rfl rfl hl.1 rfl (lv_room (Nat.le_of_ble_eq_true rfl)) dX10_correctHeel_1 ⟨Nat.le_of_ble_eq_true rfl, Nat.le_of_ble_eq_true rfl⟩) hS (fun q h1 h2 => sp_Alt h1 h2) (sp_Ale hS.1) (fun H locs hP hle hfr hS => ?_)
  refine W.eq (g2 := F0 m 4 ls []) rfl ?_
  refine lv_aload_n hx hb dX10_correctHeel_4 rfl (lv_at hl 0 rfl) ?_
  refine lv_aload_n hx hb dX10_correctHeel_5 rfl (lv_at hl 0 rfl) ?_
  refine lv_iload_n hx hb dX10_correctHeel_6 rfl (lv_at hl 1 rfl) ?_
  refine lv_iload_n hx hb dX10_correctHeel_7 rfl (lv_at hl 2 rfl) ?_
  refine lv_iload_n hx hb dX10_correctHeel_8 rfl (lv_at hl 3 rfl) ?_
  refine sp_callm (va_runV (As := [.int (x), .int (r), .int (c1)]) (rest := [.ref (am (0))]) ⟨hx, hb, hml, hown, hts⟩ (c_X10_correctsHeel l D am cy (m_copy μ 0 10) _ hi n t (by exact hM.copy) x r c1) (cwV 3 hts gX10_correctHeel_X10_correctsHeel rfl rfl rfl (by decide +kernel) ⟨Nat.le_of_ble_eq_true rfl, Nat.le_of_ble_eq_true rfl⟩) (sp_preVm hK hP (κ := 0) (by decide) mE_0 rfl) rfl rfl hl.1 rfl (lv_room (Nat.le_of_ble_eq_true rfl)) dX10_correctHeel_9 ⟨Nat.le_of_ble_eq_true rfl, Nat.le_of_ble_eq_true rfl⟩) hS (fun q h1 h2 => sp_Alt h1 h2) (sp_Ale hS.1) (fun H locs hP hle hfr hS => ?_)
  refine W.eq (g2 := F0 m 12 ls [.int (m_corv ((m_copy μ 0 10) 1) n x r c1), .ref (am (0))]) rfl ?_
  refine lv_iconst (v := 1) hx hb dX10_correctHeel_12 (by decide) ?_
  refine lv_iconst (v := 0) hx hb dX10_correctHeel_13 (by decide) ?_
  refine lv_iconst (v := 2) hx hb dX10_correctHeel_14 (by decide) ?_
  refine sp_callm (va_runV (As := [.int (m_corv ((m_copy μ 0 10) 1) n x r c1), .int (1), .int (0), .int (2)]) (rest := []) ⟨hx, hb, hml, hown, hts⟩ (c_X10_ends l D am cy (m_cor (m_copy μ 0 10) n x r c1) _ hi (m_corv ((m_copy μ 0 10) 1) n x r c1) 1 0 2 ch (by exact ((MF_cor _ _ _ _ _) 0 2 (by decide)).trans (m_copy0.trans hC)) (by omega)) (cwV 4 hts gX10_correctHeel_X10_ends rfl rfl rfl (by decide +kernel) ⟨Nat.le_of_ble_eq_true rfl, Nat.le_of_ble_eq_true rfl⟩) (sp_preVm hK hP (κ := 0) (by decide) mE_0 rfl) rfl rfl hl.1 rfl (lv_room (Nat.le_of_ble_eq_true rfl)) dX10_correctHeel_15 ⟨Nat.le_of_ble_eq_true rfl, Nat.le_of_ble_eq_true rfl⟩) hS (fun q h1 h2 => sp_Alt h1 h2) (sp_Ale hS.1) (fun H locs hP hle hfr hS => ?_)
  refine W.eq (g2 := F0 m 18 ls [.int (m_endr (m_cor (m_copy μ 0 10) n x r c1) (m_corv ((m_copy μ 0 10) 1) n x r c1) 1 0 2)]) rfl ?_
  exact W.iret (v := m_endr (m_cor (m_copy μ 0 10) n x r c1) (m_corv ((m_copy μ 0 10) 1) n x r c1) 1 0 2) hx hb hr (fun T9 hT9 _ => ⟨congrArg (fun z9 => Outcome.returned (some (Value.int z9))) (show (m_endr (m_cor (m_copy μ 0 10) n x r c1) (m_corv ((m_copy μ 0 10) 1) n x r c1) 1 0 2 : Int32) = m_endr (m_cor (m_copy μ 0 10) n x r c1) (m_corv ((m_copy μ 0 10) 1) n x r c1) 1 0 2 from (by first | rfl | simp [b2i, b2i])), by rw [hT9]; exact hP, hS.F hT9⟩) hS.2.2 dX10_correctHeel_18

set_option maxHeartbeats 4000000 in
set_option maxRecDepth 100000 in
theorem c_X10_swapFoot (l : Launch) (D : va_G) (am : Nat → Nat) (cy : Nat → ClassId) (μ : Nat → Nat → Int32) (sz : Nat) (hi : sp_inj am 5) (n : Nat) (t : Nat) (hM : MS (μ 1) n t) (ch : Nat) (hC : μ 0 2 = nI ch) (hc8 : ch ≤ 8) (x : Int32) : Met l yX10_swapFoot wsX10_swapFoot ({ frames := 3, cells := 0, slots := 0, locals := 66 } : Room) (sp_Pm D (tyG cy) sz [.ref (am (0)), .int (x)] (mW am cy μ)) (sp_Q D (some (.int (b2i (m_endr (m_swap (m_copy μ 0 10) n x) (m_by (m_find ((m_copy μ 0 10) 1) n x)) 1 0 0 == 1)))) (mW am cy (m_ends (m_swap (m_copy μ 0 10) n x) ch (m_by (m_find ((m_copy μ 0 10) 1) n x)) 1 0 0)) (sp_A am 5 sz)) 0 0 (sp_A am 5 sz) := by
  refine Met.ofW (cc := cX10_swapFoot) (maxL := 2) (ret := (some .boolean)) (by decide) rfl ?_
  intro p e s m args below meth c s₁ B hml hv
  obtain ⟨rfl, hsz, hP, hK⟩ := hv
  have hx := B.exec
  have hb := B.bytes
  have hr := B.returns
  have hts := atoms_spec (ws := wsX10_swapFoot) B.pre
  have hown : s.vm.findClass RX10 = some m.cls := findClass_of_methodNamed B.named
  have hlocks := B.notSynchronized
  subst hsz
  have hS : va_S (sp_A am 5 s.heap.size) s.heap s.heap [] := va_S.rf
  have hAk : ∀ k, k < 5 → (sp_A am 5 s.heap.size) (am k) := fun k hk => Or.inl ⟨k, hk, rfl⟩
  skip
  have hn30 := hM.2.1
  have ht6 := hM.2.2.2
  have hl := lv_entry ([.ref (am (0)), .int (x)]) (n := 2) (Nat.le_of_ble_eq_true rfl)
  refine W.eq (lg_entry_eq _ ([.ref (am (0)), .int (x)]) _) ?_
  generalize (lg_sl ([.ref (am (0)), .int (x)]) ++ List.replicate (2 - (lg_sl ([.ref (am (0)), .int (x)])).length) Slot.unset).toArray = ls at hl ⊢
  have hl : lv_has ls 2 [(0, .ref (am (0))), (1, .int (x))] := hl
  refine lv_aload_n hx hb dX10_swapFoot_0 rfl (lv_at hl 0 rfl) ?_
  refine sp_callm (va_runV (As := []) (rest := []) ⟨hx, hb, hml, hown, hts⟩ (c_X10_begins l D am cy μ _ hi ) (cwV 0 hts gX10_swapFoot_X10_begins rfl rfl rfl (by decide +kernel) ⟨Nat.le_of_ble_eq_true rfl, Nat.le_of_ble_eq_true rfl⟩) (sp_preVm hK hP (κ := 0) (by decide) mE_0 rfl) rfl rfl hl.1 rfl (lv_room (Nat.le_of_ble_eq_true rfl)) dX10_swapFoot_1 ⟨Nat.le_of_ble_eq_true rfl, Nat.le_of_ble_eq_true rfl⟩) hS (fun q h1 h2 => sp_Alt h1 h2) (sp_Ale hS.1) (fun H locs hP hle hfr hS => ?_)
  refine W.eq (g2 := F0 m 4 ls []) rfl ?_
  refine lv_aload_n hx hb dX10_swapFoot_4 rfl (lv_at hl 0 rfl) ?_
  refine lv_aload_n hx hb dX10_swapFoot_5 rfl (lv_at hl 0 rfl) ?_
  refine lv_iload_n hx hb dX10_swapFoot_6 rfl (lv_at hl 1 rfl) ?_
  refine sp_callm (va_runV (As := [.int (x)]) (rest := [.ref (am (0))]) ⟨hx, hb, hml, hown, hts⟩ (c_X10_swapsFoot l D am cy (m_copy μ 0 10) _ hi n t (by exact hM.copy) x) (cwV 1 hts gX10_swapFoot_X10_swapsFoot rfl rfl rfl (by decide +kernel) ⟨Nat.le_of_ble_eq_true rfl, Nat.le_of_ble_eq_true rfl⟩) (sp_preVm hK hP (κ := 0) (by decide) mE_0 rfl) rfl rfl hl.1 rfl (lv_room (Nat.le_of_ble_eq_true rfl)) dX10_swapFoot_7 ⟨Nat.le_of_ble_eq_true rfl, Nat.le_of_ble_eq_true rfl⟩) hS (fun q h1 h2 => sp_Alt h1 h2) (sp_Ale hS.1) (fun H locs hP hle hfr hS => ?_)
  refine W.eq (g2 := F0 m 10 ls [.int (m_by (m_find ((m_copy μ 0 10) 1) n x)), .ref (am (0))]) rfl ?_
  refine lv_iconst (v := 1) hx hb dX10_swapFoot_10 (by decide) ?_
  refine lv_iconst (v := 0) hx hb dX10_swapFoot_11 (by decide) ?_
  refine lv_iconst (v := 0) hx hb dX10_swapFoot_12 (by decide) ?_
  refine sp_callm (va_runV (As := [.int (m_by (m_find ((m_copy μ 0 10) 1) n x)), .int (1), .int (0), .int (0)]) (rest := []) ⟨hx, hb, hml, hown, hts⟩ (c_X10_ends l D am cy (m_swap (m_copy μ 0 10) n x) _ hi (m_by (m_find ((m_copy μ 0 10) 1) n x)) 1 0 0 ch (by exact ((MF_swap _ _ _) 0 2 (by decide)).trans (m_copy0.trans hC)) (by omega)) (cwV 4 hts gX10_swapFoot_X10_ends rfl rfl rfl (by decide +kernel) ⟨Nat.le_of_ble_eq_true rfl, Nat.le_of_ble_eq_true rfl⟩) (sp_preVm hK hP (κ := 0) (by decide) mE_0 rfl) rfl rfl hl.1 rfl (lv_room (Nat.le_of_ble_eq_true rfl)) dX10_swapFoot_13 ⟨Nat.le_of_ble_eq_true rfl, Nat.le_of_ble_eq_true rfl⟩) hS (fun q h1 h2 => sp_Alt h1 h2) (sp_Ale hS.1) (fun H locs hP hle hfr hS => ?_)
  refine W.eq (g2 := F0 m 16 ls [.int (m_endr (m_swap (m_copy μ 0 10) n x) (m_by (m_find ((m_copy μ 0 10) 1) n x)) 1 0 0)]) rfl ?_
  refine lv_iconst (v := 1) hx hb dX10_swapFoot_16 (by decide) ?_
  refine lv_icmp_ne (tgt := 24) hx hb dX10_swapFoot_17 (by decide) (fun c_1 => ?_) (fun c_1 => ?_)
  · skip
    refine lv_iconst (v := 0) hx hb dX10_swapFoot_24 (by decide) ?_
    exact W.zret (v := 0) hx hb hr (by decide) (fun T9 hT9 _ => ⟨congrArg (fun z9 => Outcome.returned (some (Value.int z9))) (show (0 : Int32) = b2i (m_endr (m_swap (m_copy μ 0 10) n x) (m_by (m_find ((m_copy μ 0 10) 1) n x)) 1 0 0 == 1) from (by first | rfl | simp [b2i, b2i, c_1])), by rw [hT9]; exact hP, hS.F hT9⟩) hS.2.2 dX10_swapFoot_25
  · skip
    refine lv_iconst (v := 1) hx hb dX10_swapFoot_20 (by decide) ?_
    refine lv_goto (tgt := 25) hx hb dX10_swapFoot_21 (by decide) ?_
    exact W.zret (v := 1) hx hb hr (by decide) (fun T9 hT9 _ => ⟨congrArg (fun z9 => Outcome.returned (some (Value.int z9))) (show (1 : Int32) = b2i (m_endr (m_swap (m_copy μ 0 10) n x) (m_by (m_find ((m_copy μ 0 10) 1) n x)) 1 0 0 == 1) from (by first | rfl | simp [b2i, b2i, c_1])), by rw [hT9]; exact hP, hS.F hT9⟩) hS.2.2 dX10_swapFoot_25

set_option maxHeartbeats 4000000 in
set_option maxRecDepth 100000 in
theorem c_X10_doubtToes (l : Launch) (D : va_G) (am : Nat → Nat) (cy : Nat → ClassId) (μ : Nat → Nat → Int32) (sz : Nat) (hi : sp_inj am 5) (n : Nat) (t : Nat) (hM : MS (μ 1) n t) (ch : Nat) (hC : μ 0 2 = nI ch) (hc8 : ch ≤ 8) (x : Int32) : Met l yX10_doubtToes wsX10_doubtToes ({ frames := 3, cells := 0, slots := 0, locals := 66 } : Room) (sp_Pm D (tyG cy) sz [.ref (am (0)), .int (x)] (mW am cy μ)) (sp_Q D (some (.int (m_endr (m_doub (m_copy μ 0 10) n x) (atO (m_find ((m_copy μ 0 10) 1) n x) 1 (fun k => if gP ((m_copy μ 0 10) 1) k 7 = 3 then 3 else 0)) 1 0 2))) (mW am cy (m_ends (m_doub (m_copy μ 0 10) n x) ch (atO (m_find ((m_copy μ 0 10) 1) n x) 1 (fun k => if gP ((m_copy μ 0 10) 1) k 7 = 3 then 3 else 0)) 1 0 2)) (sp_A am 5 sz)) 0 0 (sp_A am 5 sz) := by
  refine Met.ofW (cc := cX10_doubtToes) (maxL := 2) (ret := (some .int)) (by decide) rfl ?_
  intro p e s m args below meth c s₁ B hml hv
  obtain ⟨rfl, hsz, hP, hK⟩ := hv
  have hx := B.exec
  have hb := B.bytes
  have hr := B.returns
  have hts := atoms_spec (ws := wsX10_doubtToes) B.pre
  have hown : s.vm.findClass RX10 = some m.cls := findClass_of_methodNamed B.named
  have hlocks := B.notSynchronized
  subst hsz
  have hS : va_S (sp_A am 5 s.heap.size) s.heap s.heap [] := va_S.rf
  have hAk : ∀ k, k < 5 → (sp_A am 5 s.heap.size) (am k) := fun k hk => Or.inl ⟨k, hk, rfl⟩
  skip
  have hn30 := hM.2.1
  have ht6 := hM.2.2.2
  have hl := lv_entry ([.ref (am (0)), .int (x)]) (n := 2) (Nat.le_of_ble_eq_true rfl)
  refine W.eq (lg_entry_eq _ ([.ref (am (0)), .int (x)]) _) ?_
  generalize (lg_sl ([.ref (am (0)), .int (x)]) ++ List.replicate (2 - (lg_sl ([.ref (am (0)), .int (x)])).length) Slot.unset).toArray = ls at hl ⊢
  have hl : lv_has ls 2 [(0, .ref (am (0))), (1, .int (x))] := hl
  refine lv_aload_n hx hb dX10_doubtToes_0 rfl (lv_at hl 0 rfl) ?_
  refine sp_callm (va_runV (As := []) (rest := []) ⟨hx, hb, hml, hown, hts⟩ (c_X10_begins l D am cy μ _ hi ) (cwV 0 hts gX10_doubtToes_X10_begins rfl rfl rfl (by decide +kernel) ⟨Nat.le_of_ble_eq_true rfl, Nat.le_of_ble_eq_true rfl⟩) (sp_preVm hK hP (κ := 0) (by decide) mE_0 rfl) rfl rfl hl.1 rfl (lv_room (Nat.le_of_ble_eq_true rfl)) dX10_doubtToes_1 ⟨Nat.le_of_ble_eq_true rfl, Nat.le_of_ble_eq_true rfl⟩) hS (fun q h1 h2 => sp_Alt h1 h2) (sp_Ale hS.1) (fun H locs hP hle hfr hS => ?_)
  refine W.eq (g2 := F0 m 4 ls []) rfl ?_
  refine lv_aload_n hx hb dX10_doubtToes_4 rfl (lv_at hl 0 rfl) ?_
  refine lv_aload_n hx hb dX10_doubtToes_5 rfl (lv_at hl 0 rfl) ?_
  refine lv_iload_n hx hb dX10_doubtToes_6 rfl (lv_at hl 1 rfl) ?_
  refine sp_callm (va_runV (As := [.int (x)]) (rest := [.ref (am (0))]) ⟨hx, hb, hml, hown, hts⟩ (c_X10_doubts l D am cy (m_copy μ 0 10) _ hi n t (by exact hM.copy) x) (cwV 1 hts gX10_doubtToes_X10_doubts rfl rfl rfl (by decide +kernel) ⟨Nat.le_of_ble_eq_true rfl, Nat.le_of_ble_eq_true rfl⟩) (sp_preVm hK hP (κ := 0) (by decide) mE_0 rfl) rfl rfl hl.1 rfl (lv_room (Nat.le_of_ble_eq_true rfl)) dX10_doubtToes_7 ⟨Nat.le_of_ble_eq_true rfl, Nat.le_of_ble_eq_true rfl⟩) hS (fun q h1 h2 => sp_Alt h1 h2) (sp_Ale hS.1) (fun H locs hP hle hfr hS => ?_)
  refine W.eq (g2 := F0 m 10 ls [.int (atO (m_find ((m_copy μ 0 10) 1) n x) 1 (fun k => if gP ((m_copy μ 0 10) 1) k 7 = 3 then 3 else 0)), .ref (am (0))]) rfl ?_
  refine lv_iconst (v := 1) hx hb dX10_doubtToes_10 (by decide) ?_
  refine lv_iconst (v := 0) hx hb dX10_doubtToes_11 (by decide) ?_
  refine lv_iconst (v := 2) hx hb dX10_doubtToes_12 (by decide) ?_
  refine sp_callm (va_runV (As := [.int (atO (m_find ((m_copy μ 0 10) 1) n x) 1 (fun k => if gP ((m_copy μ 0 10) 1) k 7 = 3 then 3 else 0)), .int (1), .int (0), .int (2)]) (rest := []) ⟨hx, hb, hml, hown, hts⟩ (c_X10_ends l D am cy (m_doub (m_copy μ 0 10) n x) _ hi (atO (m_find ((m_copy μ 0 10) 1) n x) 1 (fun k => if gP ((m_copy μ 0 10) 1) k 7 = 3 then 3 else 0)) 1 0 2 ch (by exact ((MF_doub _ _ _) 0 2 (by decide)).trans (m_copy0.trans hC)) (by omega)) (cwV 4 hts gX10_doubtToes_X10_ends rfl rfl rfl (by decide +kernel) ⟨Nat.le_of_ble_eq_true rfl, Nat.le_of_ble_eq_true rfl⟩) (sp_preVm hK hP (κ := 0) (by decide) mE_0 rfl) rfl rfl hl.1 rfl (lv_room (Nat.le_of_ble_eq_true rfl)) dX10_doubtToes_13 ⟨Nat.le_of_ble_eq_true rfl, Nat.le_of_ble_eq_true rfl⟩) hS (fun q h1 h2 => sp_Alt h1 h2) (sp_Ale hS.1) (fun H locs hP hle hfr hS => ?_)
  refine W.eq (g2 := F0 m 16 ls [.int (m_endr (m_doub (m_copy μ 0 10) n x) (atO (m_find ((m_copy μ 0 10) 1) n x) 1 (fun k => if gP ((m_copy μ 0 10) 1) k 7 = 3 then 3 else 0)) 1 0 2)]) rfl ?_
  exact W.iret (v := m_endr (m_doub (m_copy μ 0 10) n x) (atO (m_find ((m_copy μ 0 10) 1) n x) 1 (fun k => if gP ((m_copy μ 0 10) 1) k 7 = 3 then 3 else 0)) 1 0 2) hx hb hr (fun T9 hT9 _ => ⟨congrArg (fun z9 => Outcome.returned (some (Value.int z9))) (show (m_endr (m_doub (m_copy μ 0 10) n x) (atO (m_find ((m_copy μ 0 10) 1) n x) 1 (fun k => if gP ((m_copy μ 0 10) 1) k 7 = 3 then 3 else 0)) 1 0 2 : Int32) = m_endr (m_doub (m_copy μ 0 10) n x) (atO (m_find ((m_copy μ 0 10) 1) n x) 1 (fun k => if gP ((m_copy μ 0 10) 1) k 7 = 3 then 3 else 0)) 1 0 2 from (by first | rfl | simp [b2i, b2i])), by rw [hT9]; exact hP, hS.F hT9⟩) hS.2.2 dX10_doubtToes_16

set_option maxHeartbeats 4000000 in
set_option maxRecDepth 100000 in
theorem c_X10_confirmToes (l : Launch) (D : va_G) (am : Nat → Nat) (cy : Nat → ClassId) (μ : Nat → Nat → Int32) (sz : Nat) (hi : sp_inj am 5) (n : Nat) (t : Nat) (hM : MS (μ 1) n t) (ch : Nat) (hC : μ 0 2 = nI ch) (hc8 : ch ≤ 8) (x : Int32) : Met l yX10_confirmToes wsX10_confirmToes ({ frames := 3, cells := 0, slots := 0, locals := 66 } : Room) (sp_Pm D (tyG cy) sz [.ref (am (0)), .int (x)] (mW am cy μ)) (sp_Q D (some (.int (m_endr (m_conf (m_copy μ 0 10) n x) (atO (m_find ((m_copy μ 0 10) 1) n x) 1 (fun k => if gP ((m_copy μ 0 10) 1) k 7 = 0 then 3 else 0)) 1 0 2))) (mW am cy (m_ends (m_conf (m_copy μ 0 10) n x) ch (atO (m_find ((m_copy μ 0 10) 1) n x) 1 (fun k => if gP ((m_copy μ 0 10) 1) k 7 = 0 then 3 else 0)) 1 0 2)) (sp_A am 5 sz)) 0 0 (sp_A am 5 sz) := by
  refine Met.ofW (cc := cX10_confirmToes) (maxL := 2) (ret := (some .int)) (by decide) rfl ?_
  intro p e s m args below meth c s₁ B hml hv
  obtain ⟨rfl, hsz, hP, hK⟩ := hv
  have hx := B.exec
  have hb := B.bytes
  have hr := B.returns
  have hts := atoms_spec (ws := wsX10_confirmToes) B.pre
  have hown : s.vm.findClass RX10 = some m.cls := findClass_of_methodNamed B.named
  have hlocks := B.notSynchronized
  subst hsz
  have hS : va_S (sp_A am 5 s.heap.size) s.heap s.heap [] := va_S.rf
  have hAk : ∀ k, k < 5 → (sp_A am 5 s.heap.size) (am k) := fun k hk => Or.inl ⟨k, hk, rfl⟩
  skip
  have hn30 := hM.2.1
  have ht6 := hM.2.2.2
  have hl := lv_entry ([.ref (am (0)), .int (x)]) (n := 2) (Nat.le_of_ble_eq_true rfl)
  refine W.eq (lg_entry_eq _ ([.ref (am (0)), .int (x)]) _) ?_
  generalize (lg_sl ([.ref (am (0)), .int (x)]) ++ List.replicate (2 - (lg_sl ([.ref (am (0)), .int (x)])).length) Slot.unset).toArray = ls at hl ⊢
  have hl : lv_has ls 2 [(0, .ref (am (0))), (1, .int (x))] := hl
  refine lv_aload_n hx hb dX10_confirmToes_0 rfl (lv_at hl 0 rfl) ?_
  refine sp_callm (va_runV (As := []) (rest := []) ⟨hx, hb, hml, hown, hts⟩ (c_X10_begins l D am cy μ _ hi ) (cwV 0 hts gX10_confirmToes_X10_begins rfl rfl rfl (by decide +kernel) ⟨Nat.le_of_ble_eq_true rfl, Nat.le_of_ble_eq_true rfl⟩) (sp_preVm hK hP (κ := 0) (by decide) mE_0 rfl) rfl rfl hl.1 rfl (lv_room (Nat.le_of_ble_eq_true rfl)) dX10_confirmToes_1 ⟨Nat.le_of_ble_eq_true rfl, Nat.le_of_ble_eq_true rfl⟩) hS (fun q h1 h2 => sp_Alt h1 h2) (sp_Ale hS.1) (fun H locs hP hle hfr hS => ?_)
  refine W.eq (g2 := F0 m 4 ls []) rfl ?_
  refine lv_aload_n hx hb dX10_confirmToes_4 rfl (lv_at hl 0 rfl) ?_
  refine lv_aload_n hx hb dX10_confirmToes_5 rfl (lv_at hl 0 rfl) ?_
  refine lv_iload_n hx hb dX10_confirmToes_6 rfl (lv_at hl 1 rfl) ?_
  refine sp_callm (va_runV (As := [.int (x)]) (rest := [.ref (am (0))]) ⟨hx, hb, hml, hown, hts⟩ (c_X10_confirms l D am cy (m_copy μ 0 10) _ hi n t (by exact hM.copy) x) (cwV 1 hts gX10_confirmToes_X10_confirms rfl rfl rfl (by decide +kernel) ⟨Nat.le_of_ble_eq_true rfl, Nat.le_of_ble_eq_true rfl⟩) (sp_preVm hK hP (κ := 0) (by decide) mE_0 rfl) rfl rfl hl.1 rfl (lv_room (Nat.le_of_ble_eq_true rfl)) dX10_confirmToes_7 ⟨Nat.le_of_ble_eq_true rfl, Nat.le_of_ble_eq_true rfl⟩) hS (fun q h1 h2 => sp_Alt h1 h2) (sp_Ale hS.1) (fun H locs hP hle hfr hS => ?_)
  refine W.eq (g2 := F0 m 10 ls [.int (atO (m_find ((m_copy μ 0 10) 1) n x) 1 (fun k => if gP ((m_copy μ 0 10) 1) k 7 = 0 then 3 else 0)), .ref (am (0))]) rfl ?_
  refine lv_iconst (v := 1) hx hb dX10_confirmToes_10 (by decide) ?_
  refine lv_iconst (v := 0) hx hb dX10_confirmToes_11 (by decide) ?_
  refine lv_iconst (v := 2) hx hb dX10_confirmToes_12 (by decide) ?_
  refine sp_callm (va_runV (As := [.int (atO (m_find ((m_copy μ 0 10) 1) n x) 1 (fun k => if gP ((m_copy μ 0 10) 1) k 7 = 0 then 3 else 0)), .int (1), .int (0), .int (2)]) (rest := []) ⟨hx, hb, hml, hown, hts⟩ (c_X10_ends l D am cy (m_conf (m_copy μ 0 10) n x) _ hi (atO (m_find ((m_copy μ 0 10) 1) n x) 1 (fun k => if gP ((m_copy μ 0 10) 1) k 7 = 0 then 3 else 0)) 1 0 2 ch (by exact ((MF_conf _ _ _) 0 2 (by decide)).trans (m_copy0.trans hC)) (by omega)) (cwV 4 hts gX10_confirmToes_X10_ends rfl rfl rfl (by decide +kernel) ⟨Nat.le_of_ble_eq_true rfl, Nat.le_of_ble_eq_true rfl⟩) (sp_preVm hK hP (κ := 0) (by decide) mE_0 rfl) rfl rfl hl.1 rfl (lv_room (Nat.le_of_ble_eq_true rfl)) dX10_confirmToes_13 ⟨Nat.le_of_ble_eq_true rfl, Nat.le_of_ble_eq_true rfl⟩) hS (fun q h1 h2 => sp_Alt h1 h2) (sp_Ale hS.1) (fun H locs hP hle hfr hS => ?_)
  refine W.eq (g2 := F0 m 16 ls [.int (m_endr (m_conf (m_copy μ 0 10) n x) (atO (m_find ((m_copy μ 0 10) 1) n x) 1 (fun k => if gP ((m_copy μ 0 10) 1) k 7 = 0 then 3 else 0)) 1 0 2)]) rfl ?_
  exact W.iret (v := m_endr (m_conf (m_copy μ 0 10) n x) (atO (m_find ((m_copy μ 0 10) 1) n x) 1 (fun k => if gP ((m_copy μ 0 10) 1) k 7 = 0 then 3 else 0)) 1 0 2) hx hb hr (fun T9 hT9 _ => ⟨congrArg (fun z9 => Outcome.returned (some (Value.int z9))) (show (m_endr (m_conf (m_copy μ 0 10) n x) (atO (m_find ((m_copy μ 0 10) 1) n x) 1 (fun k => if gP ((m_copy μ 0 10) 1) k 7 = 0 then 3 else 0)) 1 0 2 : Int32) = m_endr (m_conf (m_copy μ 0 10) n x) (atO (m_find ((m_copy μ 0 10) 1) n x) 1 (fun k => if gP ((m_copy μ 0 10) 1) k 7 = 0 then 3 else 0)) 1 0 2 from (by first | rfl | simp [b2i, b2i])), by rw [hT9]; exact hP, hS.F hT9⟩) hS.2.2 dX10_confirmToes_16

set_option maxHeartbeats 4000000 in
set_option maxRecDepth 100000 in
theorem c_X10_setTide (l : Launch) (D : va_G) (am : Nat → Nat) (cy : Nat → ClassId) (μ : Nat → Nat → Int32) (sz : Nat) (hi : sp_inj am 5) (n : Nat) (t : Nat) (hM : MS (μ 1) n t) (ch : Nat) (hC : μ 0 2 = nI ch) (hc8 : ch ≤ 8) (v : Int32) : Met l yX10_setTide wsX10_setTide ({ frames := 3, cells := 0, slots := 0, locals := 68 } : Room) (sp_Pm D (tyG cy) sz [.ref (am (0)), .int (v)] (mW am cy μ)) (sp_Q D (some (.int (m_endr (m_tide (m_copy μ 0 10) n v) (m_tidev ((m_copy μ 0 10) 1) v) 0 1 2))) (mW am cy (m_ends (m_tide (m_copy μ 0 10) n v) ch (m_tidev ((m_copy μ 0 10) 1) v) 0 1 2)) (sp_A am 5 sz)) 0 0 (sp_A am 5 sz) := by
  refine Met.ofW (cc := cX10_setTide) (maxL := 2) (ret := (some .int)) (by decide) rfl ?_
  intro p e s m args below meth c s₁ B hml hv
  obtain ⟨rfl, hsz, hP, hK⟩ := hv
  have hx := B.exec
  have hb := B.bytes
  have hr := B.returns
  have hts := atoms_spec (ws := wsX10_setTide) B.pre
  have hown : s.vm.findClass RX10 = some m.cls := findClass_of_methodNamed B.named
  have hlocks := B.notSynchronized
  subst hsz
  have hS : va_S (sp_A am 5 s.heap.size) s.heap s.heap [] := va_S.rf
  have hAk : ∀ k, k < 5 → (sp_A am 5 s.heap.size) (am k) := fun k hk => Or.inl ⟨k, hk, rfl⟩
  skip
  have hn30 := hM.2.1
  have ht6 := hM.2.2.2
  have hl := lv_entry ([.ref (am (0)), .int (v)]) (n := 2) (Nat.le_of_ble_eq_true rfl)
  refine W.eq (lg_entry_eq _ ([.ref (am (0)), .int (v)]) _) ?_
  generalize (lg_sl ([.ref (am (0)), .int (v)]) ++ List.replicate (2 - (lg_sl ([.ref (am (0)), .int (v)])).length) Slot.unset).toArray = ls at hl ⊢
  have hl : lv_has ls 2 [(0, .ref (am (0))), (1, .int (v))] := hl
  refine lv_aload_n hx hb dX10_setTide_0 rfl (lv_at hl 0 rfl) ?_
  refine sp_callm (va_runV (As := []) (rest := []) ⟨hx, hb, hml, hown, hts⟩ (c_X10_begins l D am cy μ _ hi ) (cwV 0 hts gX10_setTide_X10_begins rfl rfl rfl (by decide +kernel) ⟨Nat.le_of_ble_eq_true rfl, Nat.le_of_ble_eq_true rfl⟩) (sp_preVm hK hP (κ := 0) (by decide) mE_0 rfl) rfl rfl hl.1 rfl (lv_room (Nat.le_of_ble_eq_true rfl)) dX10_setTide_1 ⟨Nat.le_of_ble_eq_true rfl, Nat.le_of_ble_eq_true rfl⟩) hS (fun q h1 h2 => sp_Alt h1 h2) (sp_Ale hS.1) (fun H locs hP hle hfr hS => ?_)
  refine W.eq (g2 := F0 m 4 ls []) rfl ?_
  refine lv_aload_n hx hb dX10_setTide_4 rfl (lv_at hl 0 rfl) ?_
  refine lv_aload_n hx hb dX10_setTide_5 rfl (lv_at hl 0 rfl) ?_
  refine lv_iload_n hx hb dX10_setTide_6 rfl (lv_at hl 1 rfl) ?_
  refine sp_callm (va_runV (As := [.int (v)]) (rest := [.ref (am (0))]) ⟨hx, hb, hml, hown, hts⟩ (c_X10_setsTide l D am cy (m_copy μ 0 10) _ hi n t (by exact hM.copy) v) (cwV 1 hts gX10_setTide_X10_setsTide rfl rfl rfl (by decide +kernel) ⟨Nat.le_of_ble_eq_true rfl, Nat.le_of_ble_eq_true rfl⟩) (sp_preVm hK hP (κ := 0) (by decide) mE_0 rfl) rfl rfl hl.1 rfl (lv_room (Nat.le_of_ble_eq_true rfl)) dX10_setTide_7 ⟨Nat.le_of_ble_eq_true rfl, Nat.le_of_ble_eq_true rfl⟩) hS (fun q h1 h2 => sp_Alt h1 h2) (sp_Ale hS.1) (fun H locs hP hle hfr hS => ?_)
  refine W.eq (g2 := F0 m 10 ls [.int (m_tidev ((m_copy μ 0 10) 1) v), .ref (am (0))]) rfl ?_
  refine lv_iconst (v := 0) hx hb dX10_setTide_10 (by decide) ?_
  refine lv_iconst (v := 1) hx hb dX10_setTide_11 (by decide) ?_
  refine lv_iconst (v := 2) hx hb dX10_setTide_12 (by decide) ?_
  refine sp_callm (va_runV (As := [.int (m_tidev ((m_copy μ 0 10) 1) v), .int (0), .int (1), .int (2)]) (rest := []) ⟨hx, hb, hml, hown, hts⟩ (c_X10_ends l D am cy (m_tide (m_copy μ 0 10) n v) _ hi (m_tidev ((m_copy μ 0 10) 1) v) 0 1 2 ch (by exact ((MF_tide _ _ _) 0 2 (by decide)).trans (m_copy0.trans hC)) (by omega)) (cwV 4 hts gX10_setTide_X10_ends rfl rfl rfl (by decide +kernel) ⟨Nat.le_of_ble_eq_true rfl, Nat.le_of_ble_eq_true rfl⟩) (sp_preVm hK hP (κ := 0) (by decide) mE_0 rfl) rfl rfl hl.1 rfl (lv_room (Nat.le_of_ble_eq_true rfl)) dX10_setTide_13 ⟨Nat.le_of_ble_eq_true rfl, Nat.le_of_ble_eq_true rfl⟩) hS (fun q h1 h2 => sp_Alt h1 h2) (sp_Ale hS.1) (fun H locs hP hle hfr hS => ?_)
  refine W.eq (g2 := F0 m 16 ls [.int (m_endr (m_tide (m_copy μ 0 10) n v) (m_tidev ((m_copy μ 0 10) 1) v) 0 1 2)]) rfl ?_
  exact W.iret (v := m_endr (m_tide (m_copy μ 0 10) n v) (m_tidev ((m_copy μ 0 10) 1) v) 0 1 2) hx hb hr (fun T9 hT9 _ => ⟨congrArg (fun z9 => Outcome.returned (some (Value.int z9))) (show (m_endr (m_tide (m_copy μ 0 10) n v) (m_tidev ((m_copy μ 0 10) 1) v) 0 1 2 : Int32) = m_endr (m_tide (m_copy μ 0 10) n v) (m_tidev ((m_copy μ 0 10) 1) v) 0 1 2 from (by first | rfl | simp [b2i, b2i])), by rw [hT9]; exact hP, hS.F hT9⟩) hS.2.2 dX10_setTide_16

set_option maxHeartbeats 4000000 in
set_option maxRecDepth 100000 in
theorem c_X10_addPrint (l : Launch) (D : va_G) (am : Nat → Nat) (cy : Nat → ClassId) (μ : Nat → Nat → Int32) (sz : Nat) (hi : sp_inj am 5) (n : Nat) (t : Nat) (hM : MS (μ 1) n t) (ch : Nat) (hC : μ 0 2 = nI ch) (hc8 : ch ≤ 8) (x : Int32) (u : Int32) (r : Int32) (c1 : Int32) (lf : Bool) (z : Int32) : Met l yX10_addPrint wsX10_addPrint ({ frames := 3, cells := 0, slots := 0, locals := 76 } : Room) (sp_Pm D (tyG cy) sz [.ref (am (0)), .int (x), .int (u), .int (r), .int (c1), .int (b2i lf), .int (z)] (mW am cy μ)) (sp_Q D (some (.int (m_endr (m_addP (m_copy μ 0 10) n t x u r c1 (b2i lf) z) (m_addPv ((m_copy μ 0 10) 1) n t x u r c1 z) 1 2 3))) (mW am cy (m_ends (m_addP (m_copy μ 0 10) n t x u r c1 (b2i lf) z) ch (m_addPv ((m_copy μ 0 10) 1) n t x u r c1 z) 1 2 3)) (sp_A am 5 sz)) 0 0 (sp_A am 5 sz) := by
  refine Met.ofW (cc := cX10_addPrint) (maxL := 7) (ret := (some .int)) (by decide) rfl ?_
  intro p e s m args below meth c s₁ B hml hv
  obtain ⟨rfl, hsz, hP, hK⟩ := hv
  have hx := B.exec
  have hb := B.bytes
  have hr := B.returns
  have hts := atoms_spec (ws := wsX10_addPrint) B.pre
  have hown : s.vm.findClass RX10 = some m.cls := findClass_of_methodNamed B.named
  have hlocks := B.notSynchronized
  subst hsz
  have hS : va_S (sp_A am 5 s.heap.size) s.heap s.heap [] := va_S.rf
  have hAk : ∀ k, k < 5 → (sp_A am 5 s.heap.size) (am k) := fun k hk => Or.inl ⟨k, hk, rfl⟩
  skip
  have hn30 := hM.2.1
  have ht6 := hM.2.2.2
  cases lf
  · skip
    have hl := lv_entry ([.ref (am (0)), .int (x), .int (u), .int (r), .int (c1), .int (0), .int (z)]) (n := 7) (Nat.le_of_ble_eq_true rfl)
    refine W.eq (lg_entry_eq _ ([.ref (am (0)), .int (x), .int (u), .int (r), .int (c1), .int (0), .int (z)]) _) ?_
    generalize (lg_sl ([.ref (am (0)), .int (x), .int (u), .int (r), .int (c1), .int (0), .int (z)]) ++ List.replicate (7 - (lg_sl ([.ref (am (0)), .int (x), .int (u), .int (r), .int (c1), .int (0), .int (z)])).length) Slot.unset).toArray = ls at hl ⊢
    have hl : lv_has ls 7 [(0, .ref (am (0))), (1, .int (x)), (2, .int (u)), (3, .int (r)), (4, .int (c1)), (5, .int (0)), (6, .int (z))] := hl
    refine lv_aload_n hx hb dX10_addPrint_0 rfl (lv_at hl 0 rfl) ?_
    refine sp_callm (va_runV (As := []) (rest := []) ⟨hx, hb, hml, hown, hts⟩ (c_X10_begins l D am cy μ _ hi ) (cwV 0 hts gX10_addPrint_X10_begins rfl rfl rfl (by decide +kernel) ⟨Nat.le_of_ble_eq_true rfl, Nat.le_of_ble_eq_true rfl⟩) (sp_preVm hK hP (κ := 0) (by decide) mE_0 rfl) rfl rfl hl.1 rfl (lv_room (Nat.le_of_ble_eq_true rfl)) dX10_addPrint_1 ⟨Nat.le_of_ble_eq_true rfl, Nat.le_of_ble_eq_true rfl⟩) hS (fun q h1 h2 => sp_Alt h1 h2) (sp_Ale hS.1) (fun H locs hP hle hfr hS => ?_)
    refine W.eq (g2 := F0 m 4 ls []) rfl ?_
    refine lv_aload_n hx hb dX10_addPrint_4 rfl (lv_at hl 0 rfl) ?_
    refine lv_aload_n hx hb dX10_addPrint_5 rfl (lv_at hl 0 rfl) ?_
    refine lv_iload_n hx hb dX10_addPrint_6 rfl (lv_at hl 1 rfl) ?_
    refine lv_iload_n hx hb dX10_addPrint_7 rfl (lv_at hl 2 rfl) ?_
    refine lv_iload_n hx hb dX10_addPrint_8 rfl (lv_at hl 3 rfl) ?_
    refine lv_iload hx hb dX10_addPrint_9 (lv_at hl 4 rfl) ?_
    refine lv_iload hx hb dX10_addPrint_11 (lv_at hl 5 rfl) ?_
    refine lv_if_eq (tgt := 20) hx hb dX10_addPrint_13 (by decide) (fun c_1 => ?_) (fun c_1 => ?_)
    · skip
      refine lv_iconst (v := 0) hx hb dX10_addPrint_20 (by decide) ?_
      refine lv_iload hx hb dX10_addPrint_21 (lv_at hl 6 rfl) ?_
      refine sp_callm (va_runV (As := [.int (x), .int (u), .int (r), .int (c1), .int (0), .int (z)]) (rest := [.ref (am (0))]) ⟨hx, hb, hml, hown, hts⟩ (c_X10_addsPrint l D am cy (m_copy μ 0 10) _ hi n t (by exact hM.copy) x u r c1 0 z) (cwV 6 hts gX10_addPrint_X10_addsPrint rfl rfl rfl (by decide +kernel) ⟨Nat.le_of_ble_eq_true rfl, Nat.le_of_ble_eq_true rfl⟩) (sp_preVm hK hP (κ := 0) (by decide) mE_0 rfl) rfl rfl hl.1 rfl (lv_room (Nat.le_of_ble_eq_true rfl)) dX10_addPrint_23 ⟨Nat.le_of_ble_eq_true rfl, Nat.le_of_ble_eq_true rfl⟩) hS (fun q h1 h2 => sp_Alt h1 h2) (sp_Ale hS.1) (fun H locs hP hle hfr hS => ?_)
      refine W.eq (g2 := F0 m 26 ls [.int (m_addPv ((m_copy μ 0 10) 1) n t x u r c1 z), .ref (am (0))]) rfl ?_
      refine lv_iconst (v := 1) hx hb dX10_addPrint_26 (by decide) ?_
      refine lv_iconst (v := 2) hx hb dX10_addPrint_27 (by decide) ?_
      refine lv_iconst (v := 3) hx hb dX10_addPrint_28 (by decide) ?_
      refine sp_callm (va_runV (As := [.int (m_addPv ((m_copy μ 0 10) 1) n t x u r c1 z), .int (1), .int (2), .int (3)]) (rest := []) ⟨hx, hb, hml, hown, hts⟩ (c_X10_ends l D am cy (m_addP (m_copy μ 0 10) n t x u r c1 0 z) _ hi (m_addPv ((m_copy μ 0 10) 1) n t x u r c1 z) 1 2 3 ch (by exact ((MF_addP _ _ _ _ _ _ _ _ _) 0 2 (by decide)).trans (m_copy0.trans hC)) (by omega)) (cwV 4 hts gX10_addPrint_X10_ends rfl rfl rfl (by decide +kernel) ⟨Nat.le_of_ble_eq_true rfl, Nat.le_of_ble_eq_true rfl⟩) (sp_preVm hK hP (κ := 0) (by decide) mE_0 rfl) rfl rfl hl.1 rfl (lv_room (Nat.le_of_ble_eq_true rfl)) dX10_addPrint_29 ⟨Nat.le_of_ble_eq_true rfl, Nat.le_of_ble_eq_true rfl⟩) hS (fun q h1 h2 => sp_Alt h1 h2) (sp_Ale hS.1) (fun H locs hP hle hfr hS => ?_)
      refine W.eq (g2 := F0 m 32 ls [.int (m_endr (m_addP (m_copy μ 0 10) n t x u r c1 0 z) (m_addPv ((m_copy μ 0 10) 1) n t x u r c1 z) 1 2 3)]) rfl ?_
      have hE9 : mW am cy (m_ends (m_addP (m_copy μ 0 10) n t x u r c1 0 z) ch (m_addPv ((m_copy μ 0 10) 1) n t x u r c1 z) 1 2 3) = mW am cy (m_ends (m_addP (m_copy μ 0 10) n t x u r c1 (b2i false) z) ch (m_addPv ((m_copy μ 0 10) 1) n t x u r c1 z) 1 2 3) := by rfl
      have hP : va_P D vwCl (mW am cy (m_ends (m_addP (m_copy μ 0 10) n t x u r c1 (b2i false) z) ch (m_addPv ((m_copy μ 0 10) 1) n t x u r c1 z) 1 2 3)) H := by rw [← hE9]; exact hP
      exact W.iret (v := m_endr (m_addP (m_copy μ 0 10) n t x u r c1 0 z) (m_addPv ((m_copy μ 0 10) 1) n t x u r c1 z) 1 2 3) hx hb hr (fun T9 hT9 _ => ⟨congrArg (fun z9 => Outcome.returned (some (Value.int z9))) (show (m_endr (m_addP (m_copy μ 0 10) n t x u r c1 0 z) (m_addPv ((m_copy μ 0 10) 1) n t x u r c1 z) 1 2 3 : Int32) = m_endr (m_addP (m_copy μ 0 10) n t x u r c1 (b2i false) z) (m_addPv ((m_copy μ 0 10) 1) n t x u r c1 z) 1 2 3 from (by first | rfl | simp [b2i, b2i])), by rw [hT9]; exact hP, hS.F hT9⟩) hS.2.2 dX10_addPrint_32
    · exact absurd c_1 (by decide)
  · skip
    have hl := lv_entry ([.ref (am (0)), .int (x), .int (u), .int (r), .int (c1), .int (1), .int (z)]) (n := 7) (Nat.le_of_ble_eq_true rfl)
    refine W.eq (lg_entry_eq _ ([.ref (am (0)), .int (x), .int (u), .int (r), .int (c1), .int (1), .int (z)]) _) ?_
    generalize (lg_sl ([.ref (am (0)), .int (x), .int (u), .int (r), .int (c1), .int (1), .int (z)]) ++ List.replicate (7 - (lg_sl ([.ref (am (0)), .int (x), .int (u), .int (r), .int (c1), .int (1), .int (z)])).length) Slot.unset).toArray = ls at hl ⊢
    have hl : lv_has ls 7 [(0, .ref (am (0))), (1, .int (x)), (2, .int (u)), (3, .int (r)), (4, .int (c1)), (5, .int (1)), (6, .int (z))] := hl
    refine lv_aload_n hx hb dX10_addPrint_0 rfl (lv_at hl 0 rfl) ?_
    refine sp_callm (va_runV (As := []) (rest := []) ⟨hx, hb, hml, hown, hts⟩ (c_X10_begins l D am cy μ _ hi ) (cwV 0 hts gX10_addPrint_X10_begins rfl rfl rfl (by decide +kernel) ⟨Nat.le_of_ble_eq_true rfl, Nat.le_of_ble_eq_true rfl⟩) (sp_preVm hK hP (κ := 0) (by decide) mE_0 rfl) rfl rfl hl.1 rfl (lv_room (Nat.le_of_ble_eq_true rfl)) dX10_addPrint_1 ⟨Nat.le_of_ble_eq_true rfl, Nat.le_of_ble_eq_true rfl⟩) hS (fun q h1 h2 => sp_Alt h1 h2) (sp_Ale hS.1) (fun H locs hP hle hfr hS => ?_)
    refine W.eq (g2 := F0 m 4 ls []) rfl ?_
    refine lv_aload_n hx hb dX10_addPrint_4 rfl (lv_at hl 0 rfl) ?_
    refine lv_aload_n hx hb dX10_addPrint_5 rfl (lv_at hl 0 rfl) ?_
    refine lv_iload_n hx hb dX10_addPrint_6 rfl (lv_at hl 1 rfl) ?_
    refine lv_iload_n hx hb dX10_addPrint_7 rfl (lv_at hl 2 rfl) ?_
    refine lv_iload_n hx hb dX10_addPrint_8 rfl (lv_at hl 3 rfl) ?_
    refine lv_iload hx hb dX10_addPrint_9 (lv_at hl 4 rfl) ?_
    refine lv_iload hx hb dX10_addPrint_11 (lv_at hl 5 rfl) ?_
    refine lv_if_eq (tgt := 20) hx hb dX10_addPrint_13 (by decide) (fun c_2 => ?_) (fun c_2 => ?_)
    · exact absurd c_2 (by decide)
    · skip
      refine lv_iconst (v := 1) hx hb dX10_addPrint_16 (by decide) ?_
      refine lv_goto (tgt := 21) hx hb dX10_addPrint_17 (by decide) ?_
      refine lv_iload hx hb dX10_addPrint_21 (lv_at hl 6 rfl) ?_
      refine sp_callm (va_runV (As := [.int (x), .int (u), .int (r), .int (c1), .int (1), .int (z)]) (rest := [.ref (am (0))]) ⟨hx, hb, hml, hown, hts⟩ (c_X10_addsPrint l D am cy (m_copy μ 0 10) _ hi n t (by exact hM.copy) x u r c1 1 z) (cwV 6 hts gX10_addPrint_X10_addsPrint rfl rfl rfl (by decide +kernel) ⟨Nat.le_of_ble_eq_true rfl, Nat.le_of_ble_eq_true rfl⟩) (sp_preVm hK hP (κ := 0) (by decide) mE_0 rfl) rfl rfl hl.1 rfl (lv_room (Nat.le_of_ble_eq_true rfl)) dX10_addPrint_23 ⟨Nat.le_of_ble_eq_true rfl, Nat.le_of_ble_eq_true rfl⟩) hS (fun q h1 h2 => sp_Alt h1 h2) (sp_Ale hS.1) (fun H locs hP hle hfr hS => ?_)
      refine W.eq (g2 := F0 m 26 ls [.int (m_addPv ((m_copy μ 0 10) 1) n t x u r c1 z), .ref (am (0))]) rfl ?_
      refine lv_iconst (v := 1) hx hb dX10_addPrint_26 (by decide) ?_
      refine lv_iconst (v := 2) hx hb dX10_addPrint_27 (by decide) ?_
      refine lv_iconst (v := 3) hx hb dX10_addPrint_28 (by decide) ?_
      refine sp_callm (va_runV (As := [.int (m_addPv ((m_copy μ 0 10) 1) n t x u r c1 z), .int (1), .int (2), .int (3)]) (rest := []) ⟨hx, hb, hml, hown, hts⟩ (c_X10_ends l D am cy (m_addP (m_copy μ 0 10) n t x u r c1 1 z) _ hi (m_addPv ((m_copy μ 0 10) 1) n t x u r c1 z) 1 2 3 ch (by exact ((MF_addP _ _ _ _ _ _ _ _ _) 0 2 (by decide)).trans (m_copy0.trans hC)) (by omega)) (cwV 4 hts gX10_addPrint_X10_ends rfl rfl rfl (by decide +kernel) ⟨Nat.le_of_ble_eq_true rfl, Nat.le_of_ble_eq_true rfl⟩) (sp_preVm hK hP (κ := 0) (by decide) mE_0 rfl) rfl rfl hl.1 rfl (lv_room (Nat.le_of_ble_eq_true rfl)) dX10_addPrint_29 ⟨Nat.le_of_ble_eq_true rfl, Nat.le_of_ble_eq_true rfl⟩) hS (fun q h1 h2 => sp_Alt h1 h2) (sp_Ale hS.1) (fun H locs hP hle hfr hS => ?_)
      refine W.eq (g2 := F0 m 32 ls [.int (m_endr (m_addP (m_copy μ 0 10) n t x u r c1 1 z) (m_addPv ((m_copy μ 0 10) 1) n t x u r c1 z) 1 2 3)]) rfl ?_
      have hE9 : mW am cy (m_ends (m_addP (m_copy μ 0 10) n t x u r c1 1 z) ch (m_addPv ((m_copy μ 0 10) 1) n t x u r c1 z) 1 2 3) = mW am cy (m_ends (m_addP (m_copy μ 0 10) n t x u r c1 (b2i true) z) ch (m_addPv ((m_copy μ 0 10) 1) n t x u r c1 z) 1 2 3) := by rfl
      have hP : va_P D vwCl (mW am cy (m_ends (m_addP (m_copy μ 0 10) n t x u r c1 (b2i true) z) ch (m_addPv ((m_copy μ 0 10) 1) n t x u r c1 z) 1 2 3)) H := by rw [← hE9]; exact hP
      exact W.iret (v := m_endr (m_addP (m_copy μ 0 10) n t x u r c1 1 z) (m_addPv ((m_copy μ 0 10) 1) n t x u r c1 z) 1 2 3) hx hb hr (fun T9 hT9 _ => ⟨congrArg (fun z9 => Outcome.returned (some (Value.int z9))) (show (m_endr (m_addP (m_copy μ 0 10) n t x u r c1 1 z) (m_addPv ((m_copy μ 0 10) 1) n t x u r c1 z) 1 2 3 : Int32) = m_endr (m_addP (m_copy μ 0 10) n t x u r c1 (b2i true) z) (m_addPv ((m_copy μ 0 10) 1) n t x u r c1 z) 1 2 3 from (by first | rfl | simp [b2i, b2i])), by rw [hT9]; exact hP, hS.F hT9⟩) hS.2.2 dX10_addPrint_32

theorem wi_X10_undo_X10 : ∀ w ∈ wsX100, w ∈ wsX10_undo := by decide +kernel
set_option maxHeartbeats 4000000 in
set_option maxRecDepth 100000 in
theorem c_X10_undo (l : Launch) (D : va_G) (am : Nat → Nat) (cy : Nat → ClassId) (μ : Nat → Nat → Int32) (sz : Nat) (hi : sp_inj am 5) (n : Nat) (t : Nat) (hM : MS (μ 1) n t) (ch : Nat) (hC : μ 0 2 = nI ch) (hc8 : ch ≤ 8) : Met l yX10_undo wsX10_undo ({ frames := 1, cells := 0, slots := 0, locals := 23 } : Room) (sp_Pm D (tyG cy) sz [.ref (am (0))] (mW am cy μ)) (sp_Q D (some (.int (if 0 < nI ch then nI ch - 1 else 0))) (mW am cy (if 0 < nI ch then sp_st (m_copy (sp_st μ 0 0 0) ch 0) 0 2 (nI ch - 1) else sp_st μ 0 0 1)) (sp_A am 5 sz)) 0 0 (sp_A am 5 sz) := by
  refine Met.ofW (cc := cX10_undo) (maxL := 1) (ret := (some .int)) (by decide) rfl ?_
  intro p e s m args below meth c s₁ B hml hv
  obtain ⟨rfl, hsz, hP, hK⟩ := hv
  have hx := B.exec
  have hb := B.bytes
  have hr := B.returns
  have hts := atoms_spec (ws := wsX10_undo) B.pre
  have hown : s.vm.findClass RX10 = some m.cls := findClass_of_methodNamed B.named
  have hlocks := B.notSynchronized
  subst hsz
  have hS : va_S (sp_A am 5 s.heap.size) s.heap s.heap [] := va_S.rf
  have hAk : ∀ k, k < 5 → (sp_A am 5 s.heap.size) (am k) := fun k hk => Or.inl ⟨k, hk, rfl⟩
  skip
  have hn30 := hM.2.1
  have ht6 := hM.2.2.2
  have hl := lv_entry ([.ref (am (0))]) (n := 1) (Nat.le_of_ble_eq_true rfl)
  refine W.eq (lg_entry_eq _ ([.ref (am (0))]) _) ?_
  generalize (lg_sl ([.ref (am (0))]) ++ List.replicate (1 - (lg_sl ([.ref (am (0))])).length) Slot.unset).toArray = ls at hl ⊢
  have hl : lv_has ls 1 [(0, .ref (am (0)))] := hl
  refine lv_aload_n hx hb dX10_undo_0 rfl (lv_at hl 0 rfl) ?_
  refine lv_aload_n hx hb dX10_undo_1 rfl (lv_at hl 0 rfl) ?_
  refine sp_get hx hb hts wi_X10_undo_X10 hown hK hP (κ := 0) (by decide) mE_0 rfl 2 (by decide) (hts _ (List.mem_of_getElem? (i := 1) rfl)) (fun _ h => h) rfl dX10_undo_2 ?_
  refine W.eq (g2 := F0 m 5 ls [.int (nI ch), .ref (am (0))]) (by rw [hC]) ?_
  refine lv_if_le (tgt := 12) hx hb dX10_undo_5 (by decide) (fun c_1 => ?_) (fun c_1 => ?_)
  · skip
    have c_1d := Int32.not_lt.mpr c_1
    refine lv_iconst (v := 0) hx hb dX10_undo_12 (by decide) ?_
    refine sp_callm (va_runV (As := [.int (0)]) (rest := []) ⟨hx, hb, hml, hown, hts⟩ (c_X10_isFine_0 l D am cy μ _ hi ) (cwV 1 hts gX10_undo_X10_isFine rfl rfl rfl (by decide +kernel) ⟨Nat.le_of_ble_eq_true rfl, Nat.le_of_ble_eq_true rfl⟩) (sp_preVm hK hP (κ := 0) (by decide) mE_0 rfl) rfl rfl hl.1 rfl (lv_room (Nat.le_of_ble_eq_true rfl)) dX10_undo_13 ⟨Nat.le_of_ble_eq_true rfl, Nat.le_of_ble_eq_true rfl⟩) hS (fun q h1 h2 => sp_Alt h1 h2) (sp_Ale hS.1) (fun H locs hP hle hfr hS => ?_)
    refine W.eq (g2 := F0 m 16 ls [.int (0)]) rfl ?_
    refine lv_if_ne (tgt := 21) hx hb dX10_undo_16 (by decide) (fun c_2 => ?_) (fun c_2 => ?_)
    · exact absurd c_2 (by decide)
    · skip
      refine lv_iconst (v := 0) hx hb dX10_undo_19 (by decide) ?_
      have hE9 : mW am cy (sp_st μ 0 0 1) = mW am cy (if 0 < nI ch then sp_st (m_copy (sp_st μ 0 0 0) ch 0) 0 2 (nI ch - 1) else sp_st μ 0 0 1) := by exact mW_eq (by simp [b2i, c_1, c_1d])
      have hP : va_P D vwCl (mW am cy (if 0 < nI ch then sp_st (m_copy (sp_st μ 0 0 0) ch 0) 0 2 (nI ch - 1) else sp_st μ 0 0 1)) H := by rw [← hE9]; exact hP
      exact W.iret (v := 0) hx hb hr (fun T9 hT9 _ => ⟨congrArg (fun z9 => Outcome.returned (some (Value.int z9))) (show (0 : Int32) = if 0 < nI ch then nI ch - 1 else 0 from (by simp [b2i, c_1, c_1d])), by rw [hT9]; exact hP, hS.F hT9⟩) hS.2.2 dX10_undo_20
  · skip
    have c_1d := Int32.not_le.mp c_1
    have hc9 : 0 < ch := nI_pos0 c_1
    refine lv_iconst (v := 1) hx hb dX10_undo_8 (by decide) ?_
    refine lv_goto (tgt := 13) hx hb dX10_undo_9 (by decide) ?_
    refine sp_callm (va_runV (As := [.int (1)]) (rest := []) ⟨hx, hb, hml, hown, hts⟩ (c_X10_isFine_1 l D am cy μ _ hi ) (cwV 1 hts gX10_undo_X10_isFine rfl rfl rfl (by decide +kernel) ⟨Nat.le_of_ble_eq_true rfl, Nat.le_of_ble_eq_true rfl⟩) (sp_preVm hK hP (κ := 0) (by decide) mE_0 rfl) rfl rfl hl.1 rfl (lv_room (Nat.le_of_ble_eq_true rfl)) dX10_undo_13 ⟨Nat.le_of_ble_eq_true rfl, Nat.le_of_ble_eq_true rfl⟩) hS (fun q h1 h2 => sp_Alt h1 h2) (sp_Ale hS.1) (fun H locs hP hle hfr hS => ?_)
    refine W.eq (g2 := F0 m 16 ls [.int (1)]) rfl ?_
    refine lv_if_ne (tgt := 21) hx hb dX10_undo_16 (by decide) (fun c_3 => ?_) (fun c_3 => ?_)
    · skip
      refine lv_aload_n hx hb dX10_undo_21 rfl (lv_at hl 0 rfl) ?_
      refine lv_aload_n hx hb dX10_undo_22 rfl (lv_at hl 0 rfl) ?_
      refine sp_get hx hb hts wi_X10_undo_X10 hown hK hP (κ := 0) (by decide) mE_0 rfl 2 (by decide) (hts _ (List.mem_of_getElem? (i := 1) rfl)) (fun _ h => h) rfl dX10_undo_23 ?_
      refine W.eq (g2 := F0 m 26 ls [.int (μ 0 2), .ref (am (0))]) (by rw [sp_st_j _ _ _ _ _ _ (by decide)]) ?_
      refine W.eq (g2 := F0 m 26 ls [.int (nI ch), .ref (am (0))]) (by rw [hC]) ?_
      refine lv_iconst (v := 0) hx hb dX10_undo_26 (by decide) ?_
      refine sp_callm (va_runV (As := [.int (nI ch), .int (0)]) (rest := []) ⟨hx, hb, hml, hown, hts⟩ (c_X10_copies l D am cy (sp_st μ 0 0 0) _ hi ch (by omega) 0 (by omega) (by omega)) (cwV 2 hts gX10_undo_X10_copies rfl rfl rfl (by decide +kernel) ⟨Nat.le_of_ble_eq_true rfl, Nat.le_of_ble_eq_true rfl⟩) (sp_preVm hK hP (κ := 0) (by decide) mE_0 rfl) rfl rfl hl.1 rfl (lv_room (Nat.le_of_ble_eq_true rfl)) dX10_undo_27 ⟨Nat.le_of_ble_eq_true rfl, Nat.le_of_ble_eq_true rfl⟩) hS (fun q h1 h2 => sp_Alt h1 h2) (sp_Ale hS.1) (fun H locs hP hle hfr hS => ?_)
      refine W.eq (g2 := F0 m 30 ls []) rfl ?_
      refine lv_aload_n hx hb dX10_undo_30 rfl (lv_at hl 0 rfl) ?_
      refine lv_dup hx hb dX10_undo_31 rfl ?_
      refine sp_get hx hb hts wi_X10_undo_X10 hown hK hP (κ := 0) (by decide) mE_0 rfl 2 (by decide) (hts _ (List.mem_of_getElem? (i := 1) rfl)) (fun _ h => h) rfl dX10_undo_32 ?_
      refine W.eq (g2 := F0 m 35 ls [.int (nI ch), .ref (am (0))]) (by rw [(show m_copy (sp_st μ 0 0 0) ch 0 0 2 = nI ch from (by rw [m_copy0, sp_st_j _ _ _ _ _ _ (by decide)]; exact hC))]) ?_
      refine lv_iconst (v := 1) hx hb dX10_undo_35 (by decide) ?_
      refine lv_isub hx hb dX10_undo_36 ?_
      refine sp_put hx hb hts wi_X10_undo_X10 tyX10 tyX10_ok nmX10 hown hK hP hi hAk hS (κ := 0) (by decide) mE_0 rfl 2 (by decide) (hts _ (List.mem_of_getElem? (i := 1) rfl)) (fun _ h => h) rfl (ty := tyX10 2) (by decide +kernel) ⟨rfl, rfl⟩ (Nat.le_of_ble_eq_true rfl) (r1 := upd ((m_copy (sp_st μ 0 0 0) ch 0) 0) 2 ((nI ch) - 1)) (cE_of mE_0 (by simp [upd])) dX10_undo_37 (fun H locs hP hS => ?_)
      have hP : va_P D vwCl (mW am cy (sp_st (m_copy (sp_st μ 0 0 0) ch 0) 0 2 ((nI ch) - 1))) H := hP
      refine lv_aload_n hx hb dX10_undo_40 rfl (lv_at hl 0 rfl) ?_
      refine sp_get hx hb hts wi_X10_undo_X10 hown hK hP (κ := 0) (by decide) mE_0 rfl 2 (by decide) (hts _ (List.mem_of_getElem? (i := 1) rfl)) (fun _ h => h) rfl dX10_undo_41 ?_
      refine W.eq (g2 := F0 m 44 ls [.int ((nI ch) - 1)]) (by rw [sp_st_s]) ?_
      have hE9 : mW am cy (sp_st (m_copy (sp_st μ 0 0 0) ch 0) 0 2 ((nI ch) - 1)) = mW am cy (if 0 < nI ch then sp_st (m_copy (sp_st μ 0 0 0) ch 0) 0 2 (nI ch - 1) else sp_st μ 0 0 1) := by exact mW_eq (by simp [b2i, c_1, c_1d])
      have hP : va_P D vwCl (mW am cy (if 0 < nI ch then sp_st (m_copy (sp_st μ 0 0 0) ch 0) 0 2 (nI ch - 1) else sp_st μ 0 0 1)) H := by rw [← hE9]; exact hP
      exact W.iret (v := (nI ch) - 1) hx hb hr (fun T9 hT9 _ => ⟨congrArg (fun z9 => Outcome.returned (some (Value.int z9))) (show ((nI ch) - 1 : Int32) = if 0 < nI ch then nI ch - 1 else 0 from (by simp [b2i, c_1, c_1d])), by rw [hT9]; exact hP, hS.F hT9⟩) hS.2.2 dX10_undo_44
    · exact absurd c_3 (by decide)

theorem wi_X10_saveSnapshot_X10 : ∀ w ∈ wsX100, w ∈ wsX10_saveSnapshot := by decide +kernel
set_option maxHeartbeats 4000000 in
set_option maxRecDepth 100000 in
theorem c_X10_saveSnapshot (l : Launch) (D : va_G) (am : Nat → Nat) (cy : Nat → ClassId) (μ : Nat → Nat → Int32) (sz : Nat) (hi : sp_inj am 5) (n : Nat) (t : Nat) (hM : MS (μ 1) n t) : Met l yX10_saveSnapshot wsX10_saveSnapshot ({ frames := 1, cells := 0, slots := 0, locals := 23 } : Room) (sp_Pm D (tyG cy) sz [.ref (am (0))] (mW am cy μ)) (sp_Q D (some (.int (nI n))) (mW am cy (m_copy (sp_st (sp_st μ 0 0 0) 0 3 1) 0 9)) (sp_A am 5 sz)) 0 0 (sp_A am 5 sz) := by
  refine Met.ofW (cc := cX10_saveSnapshot) (maxL := 1) (ret := (some .int)) (by decide) rfl ?_
  intro p e s m args below meth c s₁ B hml hv
  obtain ⟨rfl, hsz, hP, hK⟩ := hv
  have hx := B.exec
  have hb := B.bytes
  have hr := B.returns
  have hts := atoms_spec (ws := wsX10_saveSnapshot) B.pre
  have hown : s.vm.findClass RX10 = some m.cls := findClass_of_methodNamed B.named
  have hlocks := B.notSynchronized
  subst hsz
  have hS : va_S (sp_A am 5 s.heap.size) s.heap s.heap [] := va_S.rf
  have hAk : ∀ k, k < 5 → (sp_A am 5 s.heap.size) (am k) := fun k hk => Or.inl ⟨k, hk, rfl⟩
  skip
  have hn30 := hM.2.1
  have ht6 := hM.2.2.2
  have hl := lv_entry ([.ref (am (0))]) (n := 1) (Nat.le_of_ble_eq_true rfl)
  refine W.eq (lg_entry_eq _ ([.ref (am (0))]) _) ?_
  generalize (lg_sl ([.ref (am (0))]) ++ List.replicate (1 - (lg_sl ([.ref (am (0))])).length) Slot.unset).toArray = ls at hl ⊢
  have hl : lv_has ls 1 [(0, .ref (am (0)))] := hl
  refine lv_aload_n hx hb dX10_saveSnapshot_0 rfl (lv_at hl 0 rfl) ?_
  refine lv_iconst (v := 0) hx hb dX10_saveSnapshot_1 (by decide) ?_
  refine sp_put hx hb hts wi_X10_saveSnapshot_X10 tyX10 tyX10_ok nmX10 hown hK hP hi hAk hS (κ := 0) (by decide) mE_0 rfl 0 (by decide) (hts _ (List.mem_of_getElem? (i := 1) rfl)) (fun _ h => h) rfl (ty := tyX10 0) (by decide +kernel) ⟨rfl, rfl⟩ (Nat.le_of_ble_eq_true rfl) (r1 := upd (μ 0) 0 0) (cE_of mE_0 (by simp [upd])) dX10_saveSnapshot_2 (fun H locs hP hS => ?_)
  have hP : va_P D vwCl (mW am cy (sp_st μ 0 0 0)) H := hP
  refine lv_aload_n hx hb dX10_saveSnapshot_5 rfl (lv_at hl 0 rfl) ?_
  refine lv_iconst (v := 1) hx hb dX10_saveSnapshot_6 (by decide) ?_
  refine sp_put hx hb hts wi_X10_saveSnapshot_X10 tyX10 tyX10_ok nmX10 hown hK hP hi hAk hS (κ := 0) (by decide) mE_0 rfl 3 (by decide) (hts _ (List.mem_of_getElem? (i := 2) rfl)) (fun _ h => h) rfl (ty := tyX10 3) (by decide +kernel) (nz_of (show bz 1 = 1 by decide)) (Nat.le_of_ble_eq_true rfl) (r1 := upd ((sp_st μ 0 0 0) 0) 3 1) (cE_of mE_0 (by simp [upd, (show bz 1 = 1 by decide)])) dX10_saveSnapshot_7 (fun H locs hP hS => ?_)
  have hP : va_P D vwCl (mW am cy (sp_st (sp_st μ 0 0 0) 0 3 1)) H := hP
  refine lv_aload_n hx hb dX10_saveSnapshot_10 rfl (lv_at hl 0 rfl) ?_
  refine lv_iconst (v := 0) hx hb dX10_saveSnapshot_11 (by decide) ?_
  refine lv_bipush (v := 9) hx hb dX10_saveSnapshot_12 (by decide) ?_
  refine sp_callm (va_runV (As := [.int (0), .int (9)]) (rest := []) ⟨hx, hb, hml, hown, hts⟩ (c_X10_copies l D am cy (sp_st (sp_st μ 0 0 0) 0 3 1) _ hi 0 (by omega) 9 (by omega) (by omega)) (cwV 2 hts gX10_saveSnapshot_X10_copies rfl rfl rfl (by decide +kernel) ⟨Nat.le_of_ble_eq_true rfl, Nat.le_of_ble_eq_true rfl⟩) (sp_preVm hK hP (κ := 0) (by decide) mE_0 rfl) rfl rfl hl.1 rfl (lv_room (Nat.le_of_ble_eq_true rfl)) dX10_saveSnapshot_14 ⟨Nat.le_of_ble_eq_true rfl, Nat.le_of_ble_eq_true rfl⟩) hS (fun q h1 h2 => sp_Alt h1 h2) (sp_Ale hS.1) (fun H locs hP hle hfr hS => ?_)
  refine W.eq (g2 := F0 m 17 ls []) rfl ?_
  refine lv_aload_n hx hb dX10_saveSnapshot_17 rfl (lv_at hl 0 rfl) ?_
  refine sp_get hx hb hts wi_X10_saveSnapshot_X10 hown hK hP (κ := 0) (by decide) mE_0 rfl 1 (by decide) (hts _ (List.mem_of_getElem? (i := 3) rfl)) (fun _ h => h) rfl dX10_saveSnapshot_18 ?_
  refine lv_iconst (v := 1) hx hb dX10_saveSnapshot_21 (by decide) ?_
  refine sp_iald hx hb hK hP (κ := 1) (by decide) 1 mE_1 rfl 1 rfl (by omega) (by decide) dX10_saveSnapshot_22 ?_
  refine W.eq (g2 := F0 m 23 ls [.int (nI n)]) (by rw [(show m_copy (sp_st (sp_st μ 0 0 0) 0 3 1) 0 9 1 1 = nI n from (by rw [m_copy1 (by decide), sp_st_k _ _ _ _ _ _ (by decide), sp_st_k _ _ _ _ _ _ (by decide)]; exact hM.1))]) ?_
  exact W.iret (v := nI n) hx hb hr (fun T9 hT9 _ => ⟨congrArg (fun z9 => Outcome.returned (some (Value.int z9))) (show (nI n : Int32) = nI n from (by first | rfl | (simp [b2i]; done))), by rw [hT9]; exact hP, hS.F hT9⟩) hS.2.2 dX10_saveSnapshot_23

theorem wi_X10_restoreSnapshot_X10 : ∀ w ∈ wsX100, w ∈ wsX10_restoreSnapshot := by decide +kernel
set_option maxHeartbeats 4000000 in
set_option maxRecDepth 100000 in
theorem c_X10_restoreSnapshot (l : Launch) (D : va_G) (am : Nat → Nat) (cy : Nat → ClassId) (μ : Nat → Nat → Int32) (sz : Nat) (hi : sp_inj am 5) (n : Nat) (t : Nat) (hM : MS (μ 1) n t) : Met l yX10_restoreSnapshot wsX10_restoreSnapshot ({ frames := 1, cells := 0, slots := 0, locals := 23 } : Room) (sp_Pm D (tyG cy) sz [.ref (am (0))] (mW am cy μ)) (sp_Q D (some (.int (if (μ 0 3 != 0) = true then μ 1 2602 else 0))) (mW am cy (if (μ 0 3 != 0) = true then sp_st (m_copy (sp_st μ 0 0 (b2i (!(μ 0 3 != 0)))) 9 0) 0 2 0 else (sp_st μ 0 0 (b2i (!(μ 0 3 != 0)))))) (sp_A am 5 sz)) 0 0 (sp_A am 5 sz) := by
  refine Met.ofW (cc := cX10_restoreSnapshot) (maxL := 1) (ret := (some .int)) (by decide) rfl ?_
  intro p e s m args below meth c s₁ B hml hv
  obtain ⟨rfl, hsz, hP, hK⟩ := hv
  have hx := B.exec
  have hb := B.bytes
  have hr := B.returns
  have hts := atoms_spec (ws := wsX10_restoreSnapshot) B.pre
  have hown : s.vm.findClass RX10 = some m.cls := findClass_of_methodNamed B.named
  have hlocks := B.notSynchronized
  subst hsz
  have hS : va_S (sp_A am 5 s.heap.size) s.heap s.heap [] := va_S.rf
  have hAk : ∀ k, k < 5 → (sp_A am 5 s.heap.size) (am k) := fun k hk => Or.inl ⟨k, hk, rfl⟩
  skip
  have hn30 := hM.2.1
  have ht6 := hM.2.2.2
  have hl := lv_entry ([.ref (am (0))]) (n := 1) (Nat.le_of_ble_eq_true rfl)
  refine W.eq (lg_entry_eq _ ([.ref (am (0))]) _) ?_
  generalize (lg_sl ([.ref (am (0))]) ++ List.replicate (1 - (lg_sl ([.ref (am (0))])).length) Slot.unset).toArray = ls at hl ⊢
  have hl : lv_has ls 1 [(0, .ref (am (0)))] := hl
  refine lv_aload_n hx hb dX10_restoreSnapshot_0 rfl (lv_at hl 0 rfl) ?_
  refine lv_aload_n hx hb dX10_restoreSnapshot_1 rfl (lv_at hl 0 rfl) ?_
  refine sp_get hx hb hts wi_X10_restoreSnapshot_X10 hown hK hP (κ := 0) (by decide) mE_0 rfl 3 (by decide) (hts _ (List.mem_of_getElem? (i := 1) rfl)) (fun _ h => h) rfl dX10_restoreSnapshot_2 ?_
  refine W.eq (g2 := F0 m 5 ls [.int (b2i (μ 0 3 != 0)), .ref (am (0))]) (by rw [(bz_ne _)]) ?_
  refine sp_callm (va_runV (As := [.int (b2i (μ 0 3 != 0))]) (rest := []) ⟨hx, hb, hml, hown, hts⟩ (c_X10_isFine_b l D am cy μ _ hi (μ 0 3 != 0)) (cwV 1 hts gX10_restoreSnapshot_X10_isFine rfl rfl rfl (by decide +kernel) ⟨Nat.le_of_ble_eq_true rfl, Nat.le_of_ble_eq_true rfl⟩) (sp_preVm hK hP (κ := 0) (by decide) mE_0 rfl) rfl rfl hl.1 rfl (lv_room (Nat.le_of_ble_eq_true rfl)) dX10_restoreSnapshot_5 ⟨Nat.le_of_ble_eq_true rfl, Nat.le_of_ble_eq_true rfl⟩) hS (fun q h1 h2 => sp_Alt h1 h2) (sp_Ale hS.1) (fun H locs hP hle hfr hS => ?_)
  refine W.eq (g2 := F0 m 8 ls [.int (b2i (μ 0 3 != 0))]) rfl ?_
  refine lv_if_ne (tgt := 13) hx hb dX10_restoreSnapshot_8 (by decide) (fun c_1 => ?_) (fun c_1 => ?_)
  · rw [b2i_eq0] at c_1
    refine lv_aload_n hx hb dX10_restoreSnapshot_13 rfl (lv_at hl 0 rfl) ?_
    refine lv_bipush (v := 9) hx hb dX10_restoreSnapshot_14 (by decide) ?_
    refine lv_iconst (v := 0) hx hb dX10_restoreSnapshot_16 (by decide) ?_
    refine sp_callm (va_runV (As := [.int (9), .int (0)]) (rest := []) ⟨hx, hb, hml, hown, hts⟩ (c_X10_copies l D am cy (sp_st μ 0 0 (b2i (!(μ 0 3 != 0)))) _ hi 9 (by omega) 0 (by omega) (by omega)) (cwV 2 hts gX10_restoreSnapshot_X10_copies rfl rfl rfl (by decide +kernel) ⟨Nat.le_of_ble_eq_true rfl, Nat.le_of_ble_eq_true rfl⟩) (sp_preVm hK hP (κ := 0) (by decide) mE_0 rfl) rfl rfl hl.1 rfl (lv_room (Nat.le_of_ble_eq_true rfl)) dX10_restoreSnapshot_17 ⟨Nat.le_of_ble_eq_true rfl, Nat.le_of_ble_eq_true rfl⟩) hS (fun q h1 h2 => sp_Alt h1 h2) (sp_Ale hS.1) (fun H locs hP hle hfr hS => ?_)
    refine W.eq (g2 := F0 m 20 ls []) rfl ?_
    refine lv_aload_n hx hb dX10_restoreSnapshot_20 rfl (lv_at hl 0 rfl) ?_
    refine lv_iconst (v := 0) hx hb dX10_restoreSnapshot_21 (by decide) ?_
    refine sp_put hx hb hts wi_X10_restoreSnapshot_X10 tyX10 tyX10_ok nmX10 hown hK hP hi hAk hS (κ := 0) (by decide) mE_0 rfl 2 (by decide) (hts _ (List.mem_of_getElem? (i := 2) rfl)) (fun _ h => h) rfl (ty := tyX10 2) (by decide +kernel) ⟨rfl, rfl⟩ (Nat.le_of_ble_eq_true rfl) (r1 := upd ((m_copy (sp_st μ 0 0 (b2i (!(μ 0 3 != 0)))) 9 0) 0) 2 0) (cE_of mE_0 (by simp [upd])) dX10_restoreSnapshot_22 (fun H locs hP hS => ?_)
    have hP : va_P D vwCl (mW am cy (sp_st (m_copy (sp_st μ 0 0 (b2i (!(μ 0 3 != 0)))) 9 0) 0 2 0)) H := hP
    refine lv_aload_n hx hb dX10_restoreSnapshot_25 rfl (lv_at hl 0 rfl) ?_
    refine sp_get hx hb hts wi_X10_restoreSnapshot_X10 hown hK hP (κ := 0) (by decide) mE_0 rfl 1 (by decide) (hts _ (List.mem_of_getElem? (i := 3) rfl)) (fun _ h => h) rfl dX10_restoreSnapshot_26 ?_
    refine lv_iconst (v := 1) hx hb dX10_restoreSnapshot_29 (by decide) ?_
    refine sp_iald hx hb hK hP (κ := 1) (by decide) 1 mE_1 rfl 1 rfl (by omega) (by decide) dX10_restoreSnapshot_30 ?_
    refine W.eq (g2 := F0 m 31 ls [.int (m_copy (sp_st μ 0 0 (b2i (!(μ 0 3 != 0)))) 9 0 1 1)]) (by rw [sp_st_k _ _ _ _ _ _ (by decide)]) ?_
    refine W.eq (g2 := F0 m 31 ls [.int (μ 1 2602)]) (by rw [(show m_copy (sp_st μ 0 0 (b2i (!(μ 0 3 != 0)))) 9 0 1 1 = μ 1 2602 from (by rw [m_copy_at (by decide), sp_st_k _ _ _ _ _ _ (by decide)]))]) ?_
    have hE9 : mW am cy (sp_st (m_copy (sp_st μ 0 0 (b2i (!(μ 0 3 != 0)))) 9 0) 0 2 0) = mW am cy (if (μ 0 3 != 0) = true then sp_st (m_copy (sp_st μ 0 0 (b2i (!(μ 0 3 != 0)))) 9 0) 0 2 0 else (sp_st μ 0 0 (b2i (!(μ 0 3 != 0))))) := by exact mW_eq (by simp [b2i, c_1])
    have hP : va_P D vwCl (mW am cy (if (μ 0 3 != 0) = true then sp_st (m_copy (sp_st μ 0 0 (b2i (!(μ 0 3 != 0)))) 9 0) 0 2 0 else (sp_st μ 0 0 (b2i (!(μ 0 3 != 0)))))) H := by rw [← hE9]; exact hP
    exact W.iret (v := μ 1 2602) hx hb hr (fun T9 hT9 _ => ⟨congrArg (fun z9 => Outcome.returned (some (Value.int z9))) (show (μ 1 2602 : Int32) = if (μ 0 3 != 0) = true then μ 1 2602 else 0 from (by simp [b2i, c_1])), by rw [hT9]; exact hP, hS.F hT9⟩) hS.2.2 dX10_restoreSnapshot_31
  · rw [b2i_eq0] at c_1
    refine lv_iconst (v := 0) hx hb dX10_restoreSnapshot_11 (by decide) ?_
    have hE9 : mW am cy (sp_st μ 0 0 (b2i (!(μ 0 3 != 0)))) = mW am cy (if (μ 0 3 != 0) = true then sp_st (m_copy (sp_st μ 0 0 (b2i (!(μ 0 3 != 0)))) 9 0) 0 2 0 else (sp_st μ 0 0 (b2i (!(μ 0 3 != 0))))) := by exact mW_eq (by simp [b2i, c_1])
    have hP : va_P D vwCl (mW am cy (if (μ 0 3 != 0) = true then sp_st (m_copy (sp_st μ 0 0 (b2i (!(μ 0 3 != 0)))) 9 0) 0 2 0 else (sp_st μ 0 0 (b2i (!(μ 0 3 != 0)))))) H := by rw [← hE9]; exact hP
    exact W.iret (v := 0) hx hb hr (fun T9 hT9 _ => ⟨congrArg (fun z9 => Outcome.returned (some (Value.int z9))) (show (0 : Int32) = if (μ 0 3 != 0) = true then μ 1 2602 else 0 from (by simp [b2i, c_1])), by rw [hT9]; exact hP, hS.F hT9⟩) hS.2.2 dX10_restoreSnapshot_12

theorem wi_X10_confidence_X10 : ∀ w ∈ wsX100, w ∈ wsX10_confidence := by decide +kernel
set_option maxHeartbeats 4000000 in
set_option maxRecDepth 100000 in
theorem c_X10_confidence (l : Launch) (D : va_G) (am : Nat → Nat) (cy : Nat → ClassId) (μ : Nat → Nat → Int32) (sz : Nat) (hi : sp_inj am 5) (n : Nat) (t : Nat) (hM : MS (μ 1) n t) (x : Int32) (hd : ∀ k, m_find (μ 1) n x = some k → gP (μ 1) k 7 = 0 ∨ gP (μ 1) k 7 = 1 ∨ gP (μ 1) k 7 = 2 ∨ gP (μ 1) k 7 = 3) : Met l yX10_confidence wsX10_confidence ({ frames := 3, cells := 0, slots := 0, locals := 67 } : Room) (sp_Pm D (tyG cy) sz [.ref (am (0)), .int (x)] (mW am cy μ)) (sp_Q D (some (.double (atO (m_find (μ 1) n x) FP.dconst0 (fun k => FP.ddiv FP.dconst1 (FP.dadd FP.dconst1 (FP.i2d (gP (μ 1) k 7))))))) (mW am cy (sp_st μ 0 0 (atO (m_find (μ 1) n x) 1 (fun _ => 0)))) (sp_A am 5 sz)) 0 0 (sp_A am 5 sz) := by
  refine Met.ofW (cc := cX10_confidence) (maxL := 3) (ret := (some .double)) (by decide) rfl ?_
  intro p e s m args below meth c s₁ B hml hv
  obtain ⟨rfl, hsz, hP, hK⟩ := hv
  have hx := B.exec
  have hb := B.bytes
  have hr := B.returns
  have hts := atoms_spec (ws := wsX10_confidence) B.pre
  have hown : s.vm.findClass RX10 = some m.cls := findClass_of_methodNamed B.named
  have hlocks := B.notSynchronized
  subst hsz
  have hS : va_S (sp_A am 5 s.heap.size) s.heap s.heap [] := va_S.rf
  have hAk : ∀ k, k < 5 → (sp_A am 5 s.heap.size) (am k) := fun k hk => Or.inl ⟨k, hk, rfl⟩
  skip
  have hn30 := hM.2.1
  have ht6 := hM.2.2.2
  have hl := lv_entry ([.ref (am (0)), .int (x)]) (n := 3) (Nat.le_of_ble_eq_true rfl)
  refine W.eq (lg_entry_eq _ ([.ref (am (0)), .int (x)]) _) ?_
  generalize (lg_sl ([.ref (am (0)), .int (x)]) ++ List.replicate (3 - (lg_sl ([.ref (am (0)), .int (x)])).length) Slot.unset).toArray = ls at hl ⊢
  have hl : lv_has ls 3 [(0, .ref (am (0))), (1, .int (x))] := hl
  refine lv_aload_n hx hb dX10_confidence_0 rfl (lv_at hl 0 rfl) ?_
  refine lv_iload_n hx hb dX10_confidence_1 rfl (lv_at hl 1 rfl) ?_
  refine lv_bipush (v := 7) hx hb dX10_confidence_2 (by decide) ?_
  refine sp_callm (va_runV (As := [.int (x), .int (7)]) (rest := []) ⟨hx, hb, hml, hown, hts⟩ (c_X10_ofPrint l D am cy μ _ hi n t (by first | exact hM | exact hi_0 | (repeat first | exact hM | exact hi_0 | refine MS.st0 ?_ | refine MS.st ?_ (by omega))) x 7 (by omega)) (cwV 2 hts gX10_confidence_X10_ofPrint rfl rfl rfl (by decide +kernel) ⟨Nat.le_of_ble_eq_true rfl, Nat.le_of_ble_eq_true rfl⟩) (sp_preVm hK hP (κ := 0) (by decide) mE_0 rfl) rfl rfl hl.1 rfl (lv_room (Nat.le_of_ble_eq_true rfl)) dX10_confidence_4 ⟨Nat.le_of_ble_eq_true rfl, Nat.le_of_ble_eq_true rfl⟩) hS (fun q h1 h2 => sp_Alt h1 h2) (sp_Ale hS.1) (fun H locs hP hle hfr hS => ?_)
  refine W.eq (g2 := F0 m 7 ls [.int (atO (m_find (μ 1) n x) 0 (fun k => gP (μ 1) k 7))]) rfl ?_
  refine lv_istore_n (lv' := [(2, .int (atO (m_find (μ 1) n x) 0 (fun k => gP (μ 1) k 7))), (0, .ref (am (0))), (1, .int (x))]) hx hb dX10_confidence_7 rfl hl (by decide) rfl (fun ls hl => ?_)
  refine lv_aload_n hx hb dX10_confidence_8 rfl (lv_at hl 1 rfl) ?_
  refine sp_get hx hb hts wi_X10_confidence_X10 hown hK hP (κ := 0) (by decide) mE_0 rfl 0 (by decide) (hts _ (List.mem_of_getElem? (i := 1) rfl)) (fun _ h => h) rfl dX10_confidence_9 ?_
  refine W.eq (g2 := F0 m 12 ls [.int (atO (m_find (μ 1) n x) 1 (fun _ => 0))]) (by rw [sp_st_s]) ?_
  refine lv_if_ne (tgt := 24) hx hb dX10_confidence_12 (by decide) (fun c_1 => ?_) (fun c_1 => ?_)
  · skip
    refine lv_dconst0 hx hb dX10_confidence_24 ?_
    exact W.dret (v := FP.dconst0) hx hb hr (fun T9 hT9 _ => ⟨congrArg (fun z9 => Outcome.returned (some (Value.double z9))) (show (FP.dconst0 : UInt64) = atO (m_find (μ 1) n x) FP.dconst0 (fun k => FP.ddiv FP.dconst1 (FP.dadd FP.dconst1 (FP.i2d (gP (μ 1) k 7)))) from (by have h8 := c_1; rcases opt_em (m_find (μ 1) n x) with h9 | ⟨k, h9⟩ <;> simp [atO, h9] at h8 ⊢)), by rw [hT9]; exact hP, hS.F hT9⟩) hS.2.2 dX10_confidence_25
  · skip
    refine lv_dconst1 hx hb dX10_confidence_15 ?_
    refine lv_dconst1 hx hb dX10_confidence_16 ?_
    refine lv_iload_n hx hb dX10_confidence_17 rfl (lv_at hl 0 rfl) ?_
    refine lv_i2d hx hb dX10_confidence_18 ?_
    refine lv_dadd hx hb dX10_confidence_19 ((conf_o hd).1) ?_
    refine lv_ddiv hx hb dX10_confidence_20 ((conf_o hd).2) ?_
    refine lv_goto (tgt := 25) hx hb dX10_confidence_21 (by decide) ?_
    exact W.dret (v := FP.ddiv (FP.dconst1) (FP.dadd (FP.dconst1) (FP.i2d (atO (m_find (μ 1) n x) 0 (fun k => gP (μ 1) k 7))))) hx hb hr (fun T9 hT9 _ => ⟨congrArg (fun z9 => Outcome.returned (some (Value.double z9))) (show (FP.ddiv (FP.dconst1) (FP.dadd (FP.dconst1) (FP.i2d (atO (m_find (μ 1) n x) 0 (fun k => gP (μ 1) k 7)))) : UInt64) = atO (m_find (μ 1) n x) FP.dconst0 (fun k => FP.ddiv FP.dconst1 (FP.dadd FP.dconst1 (FP.i2d (gP (μ 1) k 7)))) from (by have h8 := c_1; rcases opt_em (m_find (μ 1) n x) with h9 | ⟨k, h9⟩ <;> simp [atO, h9] at h8 ⊢)), by rw [hT9]; exact hP, hS.F hT9⟩) hS.2.2 dX10_confidence_25

theorem wi_X10_averageStride_X10 : ∀ w ∈ wsX100, w ∈ wsX10_averageStride := by decide +kernel
set_option maxHeartbeats 4000000 in
set_option maxRecDepth 100000 in
theorem c_X10_averageStride (l : Launch) (D : va_G) (am : Nat → Nat) (cy : Nat → ClassId) (μ : Nat → Nat → Int32) (sz : Nat) (hi : sp_inj am 5) (n : Nat) (t : Nat) (hM : MS (μ 1) n t) (x : Int32) (hd : ¬ m_count (μ 1) n x < 2 → vf_n64 (FP.ddiv (FP.i2d (m_len (μ 1) n x)) (FP.i2d (m_count (μ 1) n x - 1)))) : Met l yX10_averageStride wsX10_averageStride ({ frames := 4, cells := 0, slots := 0, locals := 93 } : Room) (sp_Pm D (tyG cy) sz [.ref (am (0)), .int (x)] (mW am cy μ)) (sp_Q D (some (.double (atO (m_ft (μ 1) t x) FP.dconst0 (fun _ => if m_count (μ 1) n x < 2 then FP.dconst0 else FP.ddiv (FP.i2d (m_len (μ 1) n x)) (FP.i2d (m_count (μ 1) n x - 1)))))) (mW am cy (sp_st μ 0 0 (atO (m_ft (μ 1) t x) 1 (fun _ => if m_count (μ 1) n x < 2 then 2 else 0)))) (sp_A am 5 sz)) 0 0 (sp_A am 5 sz) := by
  refine Met.ofW (cc := cX10_averageStride) (maxL := 3) (ret := (some .double)) (by decide) rfl ?_
  intro p e s m args below meth c s₁ B hml hv
  obtain ⟨rfl, hsz, hP, hK⟩ := hv
  have hx := B.exec
  have hb := B.bytes
  have hr := B.returns
  have hts := atoms_spec (ws := wsX10_averageStride) B.pre
  have hown : s.vm.findClass RX10 = some m.cls := findClass_of_methodNamed B.named
  have hlocks := B.notSynchronized
  subst hsz
  have hS : va_S (sp_A am 5 s.heap.size) s.heap s.heap [] := va_S.rf
  have hAk : ∀ k, k < 5 → (sp_A am 5 s.heap.size) (am k) := fun k hk => Or.inl ⟨k, hk, rfl⟩
  skip
  have hn30 := hM.2.1
  have ht6 := hM.2.2.2
  have hl := lv_entry ([.ref (am (0)), .int (x)]) (n := 3) (Nat.le_of_ble_eq_true rfl)
  refine W.eq (lg_entry_eq _ ([.ref (am (0)), .int (x)]) _) ?_
  generalize (lg_sl ([.ref (am (0)), .int (x)]) ++ List.replicate (3 - (lg_sl ([.ref (am (0)), .int (x)])).length) Slot.unset).toArray = ls at hl ⊢
  have hl : lv_has ls 3 [(0, .ref (am (0))), (1, .int (x))] := hl
  refine lv_aload_n hx hb dX10_averageStride_0 rfl (lv_at hl 0 rfl) ?_
  refine lv_iload_n hx hb dX10_averageStride_1 rfl (lv_at hl 1 rfl) ?_
  refine sp_call (W.runV (As := [.int (x)]) (rest := []) ⟨hx, hb, hml, hown, hts⟩ (c_X10_countOf l D am cy μ n t (by first | exact hM | exact hi_0 | (repeat first | exact hM | exact hi_0 | refine MS.st0 ?_ | refine MS.st ?_ (by omega))) x) (cwV 1 hts gX10_averageStride_X10_countOf rfl rfl rfl (by decide +kernel) ⟨Nat.le_of_ble_eq_true rfl, Nat.le_of_ble_eq_true rfl⟩) (sp_preV hK hP (κ := 0) (by decide) mE_0 rfl) rfl rfl hl.1 rfl (lv_room (Nat.le_of_ble_eq_true rfl)) dX10_averageStride_2 ⟨Nat.le_of_ble_eq_true rfl, Nat.le_of_ble_eq_true rfl⟩) ?_
  refine W.eq (g2 := F0 m 5 ls [.int (m_count (μ 1) n x)]) rfl ?_
  refine lv_istore_n (lv' := [(2, .int (m_count (μ 1) n x)), (0, .ref (am (0))), (1, .int (x))]) hx hb dX10_averageStride_5 rfl hl (by decide) rfl (fun ls hl => ?_)
  refine lv_aload_n hx hb dX10_averageStride_6 rfl (lv_at hl 1 rfl) ?_
  refine lv_aload_n hx hb dX10_averageStride_7 rfl (lv_at hl 1 rfl) ?_
  refine lv_iload_n hx hb dX10_averageStride_8 rfl (lv_at hl 2 rfl) ?_
  refine sp_call (W.runV (As := [.int (x)]) (rest := [.ref (am (0))]) ⟨hx, hb, hml, hown, hts⟩ (c_X10_findTrack l D am cy μ n t (by first | exact hM | exact hi_0 | (repeat first | exact hM | exact hi_0 | refine MS.st0 ?_ | refine MS.st ?_ (by omega))) x) (cwV 1 hts gX10_averageStride_X10_findTrack rfl rfl rfl (by decide +kernel) ⟨Nat.le_of_ble_eq_true rfl, Nat.le_of_ble_eq_true rfl⟩) (sp_preV hK hP (κ := 0) (by decide) mE_0 rfl) rfl rfl hl.1 rfl (lv_room (Nat.le_of_ble_eq_true rfl)) dX10_averageStride_9 ⟨Nat.le_of_ble_eq_true rfl, Nat.le_of_ble_eq_true rfl⟩) ?_
  rcases opt_em (m_ft (μ 1) t x) with q_1 | ⟨j_2, q_1⟩
  · refine W.eq (g2 := F0 m 12 ls [.int ((-1)), .ref (am (0))]) (by rw [q_1]; rfl) ?_
    refine lv_if_ge (tgt := 19) hx hb dX10_averageStride_12 (by decide) (fun c_3 => ?_) (fun c_3 => ?_)
    · exact absurd c_3 (by decide)
    · skip
      refine lv_iconst (v := 1) hx hb dX10_averageStride_15 (by decide) ?_
      refine lv_goto (tgt := 29) hx hb dX10_averageStride_16 (by decide) ?_
      refine sp_put hx hb hts wi_X10_averageStride_X10 tyX10 tyX10_ok nmX10 hown hK hP hi hAk hS (κ := 0) (by decide) mE_0 rfl 0 (by decide) (hts _ (List.mem_of_getElem? (i := 1) rfl)) (fun _ h => h) rfl (ty := tyX10 0) (by decide +kernel) ⟨rfl, rfl⟩ (Nat.le_of_ble_eq_true rfl) (r1 := upd (μ 0) 0 1) (cE_of mE_0 (by simp [upd])) dX10_averageStride_29 (fun H locs hP hS => ?_)
      have hP : va_P D vwCl (mW am cy (sp_st μ 0 0 1)) H := hP
      refine lv_aload_n hx hb dX10_averageStride_32 rfl (lv_at hl 1 rfl) ?_
      refine sp_get hx hb hts wi_X10_averageStride_X10 hown hK hP (κ := 0) (by decide) mE_0 rfl 0 (by decide) (hts _ (List.mem_of_getElem? (i := 1) rfl)) (fun _ h => h) rfl dX10_averageStride_33 ?_
      refine W.eq (g2 := F0 m 36 ls [.int (1)]) (by rw [sp_st_s]) ?_
      refine lv_if_ne (tgt := 53) hx hb dX10_averageStride_36 (by decide) (fun c_4 => ?_) (fun c_4 => ?_)
      · skip
        refine lv_dconst0 hx hb dX10_averageStride_53 ?_
        have hE9 : mW am cy (sp_st μ 0 0 1) = mW am cy (sp_st μ 0 0 (atO (m_ft (μ 1) t x) 1 (fun _ => if m_count (μ 1) n x < 2 then 2 else 0))) := by exact mW_eq (by simp [atO, b2i, q_1])
        have hP : va_P D vwCl (mW am cy (sp_st μ 0 0 (atO (m_ft (μ 1) t x) 1 (fun _ => if m_count (μ 1) n x < 2 then 2 else 0)))) H := by rw [← hE9]; exact hP
        exact W.dret (v := FP.dconst0) hx hb hr (fun T9 hT9 _ => ⟨congrArg (fun z9 => Outcome.returned (some (Value.double z9))) (show (FP.dconst0 : UInt64) = atO (m_ft (μ 1) t x) FP.dconst0 (fun _ => if m_count (μ 1) n x < 2 then FP.dconst0 else FP.ddiv (FP.i2d (m_len (μ 1) n x)) (FP.i2d (m_count (μ 1) n x - 1))) from (by simp [atO, b2i, q_1])), by rw [hT9]; exact hP, hS.F hT9⟩) hS.2.2 dX10_averageStride_54
      · exact absurd c_4 (by decide)
  · have hj_2 := m_ft_lt q_1
    refine W.eq (g2 := F0 m 12 ls [.int (nI j_2), .ref (am (0))]) (by rw [q_1]; rfl) ?_
    refine lv_if_ge (tgt := 19) hx hb dX10_averageStride_12 (by decide) (fun c_5 => ?_) (fun c_5 => ?_)
    · skip
      have c_5d := Int32.not_lt.mpr c_5
      refine lv_iload_n hx hb dX10_averageStride_19 rfl (lv_at hl 0 rfl) ?_
      refine lv_iconst (v := 2) hx hb dX10_averageStride_20 (by decide) ?_
      refine lv_icmp_ge (tgt := 28) hx hb dX10_averageStride_21 (by decide) (fun c_6 => ?_) (fun c_6 => ?_)
      · skip
        have c_6d := Int32.not_lt.mpr c_6
        have hc9 := c_6d
        refine lv_iconst (v := 0) hx hb dX10_averageStride_28 (by decide) ?_
        refine sp_put hx hb hts wi_X10_averageStride_X10 tyX10 tyX10_ok nmX10 hown hK hP hi hAk hS (κ := 0) (by decide) mE_0 rfl 0 (by decide) (hts _ (List.mem_of_getElem? (i := 1) rfl)) (fun _ h => h) rfl (ty := tyX10 0) (by decide +kernel) ⟨rfl, rfl⟩ (Nat.le_of_ble_eq_true rfl) (r1 := upd (μ 0) 0 0) (cE_of mE_0 (by simp [upd])) dX10_averageStride_29 (fun H locs hP hS => ?_)
        have hP : va_P D vwCl (mW am cy (sp_st μ 0 0 0)) H := hP
        refine lv_aload_n hx hb dX10_averageStride_32 rfl (lv_at hl 1 rfl) ?_
        refine sp_get hx hb hts wi_X10_averageStride_X10 hown hK hP (κ := 0) (by decide) mE_0 rfl 0 (by decide) (hts _ (List.mem_of_getElem? (i := 1) rfl)) (fun _ h => h) rfl dX10_averageStride_33 ?_
        refine W.eq (g2 := F0 m 36 ls [.int (0)]) (by rw [sp_st_s]) ?_
        refine lv_if_ne (tgt := 53) hx hb dX10_averageStride_36 (by decide) (fun c_7 => ?_) (fun c_7 => ?_)
        · exact absurd c_7 (by decide)
        · skip
          refine lv_aload_n hx hb dX10_averageStride_39 rfl (lv_at hl 1 rfl) ?_
          refine lv_iload_n hx hb dX10_averageStride_40 rfl (lv_at hl 2 rfl) ?_
          refine sp_call (W.runV (As := [.int (x)]) (rest := []) ⟨hx, hb, hml, hown, hts⟩ (c_X10_lengthOf l D am cy (sp_st μ 0 0 0) n t (by first | exact hM | exact hi_0 | (repeat first | exact hM | exact hi_0 | refine MS.st0 ?_ | refine MS.st ?_ (by omega))) x) (cwV 1 hts gX10_averageStride_X10_lengthOf rfl rfl rfl (by decide +kernel) ⟨Nat.le_of_ble_eq_true rfl, Nat.le_of_ble_eq_true rfl⟩) (sp_preV hK hP (κ := 0) (by decide) mE_0 rfl) rfl rfl hl.1 rfl (lv_room (Nat.le_of_ble_eq_true rfl)) dX10_averageStride_41 ⟨Nat.le_of_ble_eq_true rfl, Nat.le_of_ble_eq_true rfl⟩) ?_
          refine W.eq (g2 := F0 m 44 ls [.int (m_len ((sp_st μ 0 0 0) 1) n x)]) rfl ?_
          refine W.eq (g2 := F0 m 44 ls [.int (m_len (μ 1) n x)]) (by rw [st0_1 μ 0 0]) ?_
          refine lv_i2d hx hb dX10_averageStride_44 ?_
          refine lv_iload_n hx hb dX10_averageStride_45 rfl (lv_at hl 0 rfl) ?_
          refine lv_iconst (v := 1) hx hb dX10_averageStride_46 (by decide) ?_
          refine lv_isub hx hb dX10_averageStride_47 ?_
          refine lv_i2d hx hb dX10_averageStride_48 ?_
          refine lv_ddiv hx hb dX10_averageStride_49 (hd hc9) ?_
          refine lv_goto (tgt := 54) hx hb dX10_averageStride_50 (by decide) ?_
          have hE9 : mW am cy (sp_st μ 0 0 0) = mW am cy (sp_st μ 0 0 (atO (m_ft (μ 1) t x) 1 (fun _ => if m_count (μ 1) n x < 2 then 2 else 0))) := by exact mW_eq (by simp [atO, b2i, q_1, c_5, c_5d, c_6, c_6d])
          have hP : va_P D vwCl (mW am cy (sp_st μ 0 0 (atO (m_ft (μ 1) t x) 1 (fun _ => if m_count (μ 1) n x < 2 then 2 else 0)))) H := by rw [← hE9]; exact hP
          exact W.dret (v := FP.ddiv (FP.i2d (m_len (μ 1) n x)) (FP.i2d ((m_count (μ 1) n x) - 1))) hx hb hr (fun T9 hT9 _ => ⟨congrArg (fun z9 => Outcome.returned (some (Value.double z9))) (show (FP.ddiv (FP.i2d (m_len (μ 1) n x)) (FP.i2d ((m_count (μ 1) n x) - 1)) : UInt64) = atO (m_ft (μ 1) t x) FP.dconst0 (fun _ => if m_count (μ 1) n x < 2 then FP.dconst0 else FP.ddiv (FP.i2d (m_len (μ 1) n x)) (FP.i2d (m_count (μ 1) n x - 1))) from (by simp [atO, b2i, q_1, c_5, c_5d, c_6, c_6d])), by rw [hT9]; exact hP, hS.F hT9⟩) hS.2.2 dX10_averageStride_54
      · skip
        have c_6d := Int32.not_le.mp c_6
        refine lv_iconst (v := 2) hx hb dX10_averageStride_24 (by decide) ?_
        refine lv_goto (tgt := 29) hx hb dX10_averageStride_25 (by decide) ?_
        refine sp_put hx hb hts wi_X10_averageStride_X10 tyX10 tyX10_ok nmX10 hown hK hP hi hAk hS (κ := 0) (by decide) mE_0 rfl 0 (by decide) (hts _ (List.mem_of_getElem? (i := 1) rfl)) (fun _ h => h) rfl (ty := tyX10 0) (by decide +kernel) ⟨rfl, rfl⟩ (Nat.le_of_ble_eq_true rfl) (r1 := upd (μ 0) 0 2) (cE_of mE_0 (by simp [upd])) dX10_averageStride_29 (fun H locs hP hS => ?_)
        have hP : va_P D vwCl (mW am cy (sp_st μ 0 0 2)) H := hP
        refine lv_aload_n hx hb dX10_averageStride_32 rfl (lv_at hl 1 rfl) ?_
        refine sp_get hx hb hts wi_X10_averageStride_X10 hown hK hP (κ := 0) (by decide) mE_0 rfl 0 (by decide) (hts _ (List.mem_of_getElem? (i := 1) rfl)) (fun _ h => h) rfl dX10_averageStride_33 ?_
        refine W.eq (g2 := F0 m 36 ls [.int (2)]) (by rw [sp_st_s]) ?_
        refine lv_if_ne (tgt := 53) hx hb dX10_averageStride_36 (by decide) (fun c_8 => ?_) (fun c_8 => ?_)
        · skip
          refine lv_dconst0 hx hb dX10_averageStride_53 ?_
          have hE9 : mW am cy (sp_st μ 0 0 2) = mW am cy (sp_st μ 0 0 (atO (m_ft (μ 1) t x) 1 (fun _ => if m_count (μ 1) n x < 2 then 2 else 0))) := by exact mW_eq (by simp [atO, b2i, q_1, c_5, c_5d, c_6, c_6d])
          have hP : va_P D vwCl (mW am cy (sp_st μ 0 0 (atO (m_ft (μ 1) t x) 1 (fun _ => if m_count (μ 1) n x < 2 then 2 else 0)))) H := by rw [← hE9]; exact hP
          exact W.dret (v := FP.dconst0) hx hb hr (fun T9 hT9 _ => ⟨congrArg (fun z9 => Outcome.returned (some (Value.double z9))) (show (FP.dconst0 : UInt64) = atO (m_ft (μ 1) t x) FP.dconst0 (fun _ => if m_count (μ 1) n x < 2 then FP.dconst0 else FP.ddiv (FP.i2d (m_len (μ 1) n x)) (FP.i2d (m_count (μ 1) n x - 1))) from (by simp [atO, b2i, q_1, c_5, c_5d, c_6, c_6d])), by rw [hT9]; exact hP, hS.F hT9⟩) hS.2.2 dX10_averageStride_54
        · exact absurd c_8 (by decide)
    · exact absurd (Int32.not_lt.mp (nI_pos (by omega))) c_5

theorem wi_X10_lateShare_X10 : ∀ w ∈ wsX100, w ∈ wsX10_lateShare := by decide +kernel
set_option maxHeartbeats 4000000 in
set_option maxRecDepth 100000 in
theorem c_X10_lateShare (l : Launch) (D : va_G) (am : Nat → Nat) (cy : Nat → ClassId) (μ : Nat → Nat → Int32) (sz : Nat) (hi : sp_inj am 5) (n : Nat) (t : Nat) (hM : MS (μ 1) n t) (hd : 0 < nI n → vf_n32 (FP.fdiv (FP.i2f (sumI (mF_late (μ 1)) n)) (FP.i2f (nI n)))) : Met l yX10_lateShare wsX10_lateShare ({ frames := 1, cells := 0, slots := 0, locals := 22 } : Room) (sp_Pm D (tyG cy) sz [.ref (am (0))] (mW am cy μ)) (sp_Q D (some (.float (if 0 < nI n then FP.fdiv (FP.i2f (sumI (mF_late (μ 1)) n)) (FP.i2f (nI n)) else FP.fconst0))) (mW am cy (sp_st μ 0 0 (if 0 < nI n then 0 else 1))) (sp_A am 5 sz)) 0 0 (sp_A am 5 sz) := by
  refine Met.ofW (cc := cX10_lateShare) (maxL := 4) (ret := (some .float)) (by decide) rfl ?_
  intro p e s m args below meth c s₁ B hml hv
  obtain ⟨rfl, hsz, hP, hK⟩ := hv
  have hx := B.exec
  have hb := B.bytes
  have hr := B.returns
  have hts := atoms_spec (ws := wsX10_lateShare) B.pre
  have hown : s.vm.findClass RX10 = some m.cls := findClass_of_methodNamed B.named
  have hlocks := B.notSynchronized
  subst hsz
  have hS : va_S (sp_A am 5 s.heap.size) s.heap s.heap [] := va_S.rf
  have hAk : ∀ k, k < 5 → (sp_A am 5 s.heap.size) (am k) := fun k hk => Or.inl ⟨k, hk, rfl⟩
  skip
  have hn30 := hM.2.1
  have ht6 := hM.2.2.2
  have hl := lv_entry ([.ref (am (0))]) (n := 4) (Nat.le_of_ble_eq_true rfl)
  refine W.eq (lg_entry_eq _ ([.ref (am (0))]) _) ?_
  generalize (lg_sl ([.ref (am (0))]) ++ List.replicate (4 - (lg_sl ([.ref (am (0))])).length) Slot.unset).toArray = ls at hl ⊢
  have hl : lv_has ls 4 [(0, .ref (am (0)))] := hl
  refine lv_aload_n hx hb dX10_lateShare_0 rfl (lv_at hl 0 rfl) ?_
  refine sp_get hx hb hts wi_X10_lateShare_X10 hown hK hP (κ := 0) (by decide) mE_0 rfl 1 (by decide) (hts _ (List.mem_of_getElem? (i := 1) rfl)) (fun _ h => h) rfl dX10_lateShare_1 ?_
  refine lv_iconst (v := 1) hx hb dX10_lateShare_4 (by decide) ?_
  refine sp_iald hx hb hK hP (κ := 1) (by decide) 1 mE_1 rfl 1 rfl (by omega) (by decide) dX10_lateShare_5 ?_
  refine W.eq (g2 := F0 m 6 ls [.int (nI n)]) (by rw [hM.1]) ?_
  refine lv_istore_n (lv' := [(1, .int (nI n)), (0, .ref (am (0)))]) hx hb dX10_lateShare_6 rfl hl (by decide) rfl (fun ls hl => ?_)
  refine lv_aload_n hx hb dX10_lateShare_7 rfl (lv_at hl 1 rfl) ?_
  refine lv_iload_n hx hb dX10_lateShare_8 rfl (lv_at hl 0 rfl) ?_
  refine lv_if_le (tgt := 16) hx hb dX10_lateShare_9 (by decide) (fun c_1 => ?_) (fun c_1 => ?_)
  · skip
    have c_1d := Int32.not_lt.mpr c_1
    refine lv_iconst (v := 0) hx hb dX10_lateShare_16 (by decide) ?_
    refine sp_callm (va_runV (As := [.int (0)]) (rest := []) ⟨hx, hb, hml, hown, hts⟩ (c_X10_isFine_0 l D am cy μ _ hi ) (cwV 1 hts gX10_lateShare_X10_isFine rfl rfl rfl (by decide +kernel) ⟨Nat.le_of_ble_eq_true rfl, Nat.le_of_ble_eq_true rfl⟩) (sp_preVm hK hP (κ := 0) (by decide) mE_0 rfl) rfl rfl hl.1 rfl (lv_room (Nat.le_of_ble_eq_true rfl)) dX10_lateShare_17 ⟨Nat.le_of_ble_eq_true rfl, Nat.le_of_ble_eq_true rfl⟩) hS (fun q h1 h2 => sp_Alt h1 h2) (sp_Ale hS.1) (fun H locs hP hle hfr hS => ?_)
    refine W.eq (g2 := F0 m 20 ls [.int (0)]) rfl ?_
    refine lv_if_ne (tgt := 25) hx hb dX10_lateShare_20 (by decide) (fun c_2 => ?_) (fun c_2 => ?_)
    · exact absurd c_2 (by decide)
    · skip
      refine lv_fconst0 hx hb dX10_lateShare_23 ?_
      have hE9 : mW am cy (sp_st μ 0 0 1) = mW am cy (sp_st μ 0 0 (if 0 < nI n then 0 else 1)) := by exact mW_eq (by simp [b2i, c_1, c_1d])
      have hP : va_P D vwCl (mW am cy (sp_st μ 0 0 (if 0 < nI n then 0 else 1))) H := by rw [← hE9]; exact hP
      exact W.fret (v := FP.fconst0) hx hb hr (fun T9 hT9 _ => ⟨congrArg (fun z9 => Outcome.returned (some (Value.float z9))) (show (FP.fconst0 : UInt32) = if 0 < nI n then FP.fdiv (FP.i2f (sumI (mF_late (μ 1)) n)) (FP.i2f (nI n)) else FP.fconst0 from (by simp [b2i, c_1, c_1d])), by rw [hT9]; exact hP, hS.F hT9⟩) hS.2.2 dX10_lateShare_24
  · skip
    have c_1d := Int32.not_le.mp c_1
    have hc9 := c_1d
    refine lv_iconst (v := 1) hx hb dX10_lateShare_12 (by decide) ?_
    refine lv_goto (tgt := 17) hx hb dX10_lateShare_13 (by decide) ?_
    refine sp_callm (va_runV (As := [.int (1)]) (rest := []) ⟨hx, hb, hml, hown, hts⟩ (c_X10_isFine_1 l D am cy μ _ hi ) (cwV 1 hts gX10_lateShare_X10_isFine rfl rfl rfl (by decide +kernel) ⟨Nat.le_of_ble_eq_true rfl, Nat.le_of_ble_eq_true rfl⟩) (sp_preVm hK hP (κ := 0) (by decide) mE_0 rfl) rfl rfl hl.1 rfl (lv_room (Nat.le_of_ble_eq_true rfl)) dX10_lateShare_17 ⟨Nat.le_of_ble_eq_true rfl, Nat.le_of_ble_eq_true rfl⟩) hS (fun q h1 h2 => sp_Alt h1 h2) (sp_Ale hS.1) (fun H locs hP hle hfr hS => ?_)
    refine W.eq (g2 := F0 m 20 ls [.int (1)]) rfl ?_
    refine lv_if_ne (tgt := 25) hx hb dX10_lateShare_20 (by decide) (fun c_3 => ?_) (fun c_3 => ?_)
    · skip
      refine lv_iconst (v := 0) hx hb dX10_lateShare_25 (by decide) ?_
      refine lv_istore_n (lv' := [(2, .int (0)), (1, .int (nI n)), (0, .ref (am (0)))]) hx hb dX10_lateShare_26 rfl hl (by decide) rfl (fun ls hl => ?_)
      refine lv_iconst (v := 0) hx hb dX10_lateShare_27 (by decide) ?_
      refine lv_istore_n (lv' := [(3, .int (0)), (2, .int (0)), (1, .int (nI n)), (0, .ref (am (0)))]) hx hb dX10_lateShare_28 rfl hl (by decide) rfl (fun ls hl => ?_)
      have loop_29 : ∀ (fu i : Nat) (y : Int32) (H : Heap) (locs : List Loc), (i ≤ n) → (n - i < fu) → (y = sumI (mF_late (μ 1)) i) → (va_P D vwCl (mW am cy (sp_st μ 0 0 0)) H) → (va_S (sp_A am 5 s.heap.size) s.heap H locs) → ∀ ls : Array Slot, lv_has ls 4 [(3, .int (nI i)), (2, .int (y)), (1, .int (nI n)), (0, .ref (am (0)))] → W p l e (headSpec wsX10_lateShare ({ frames := 1, cells := 0, slots := 0, locals := 22 } : Room)).room s m ([.ref (am (0))] : List Value).toArray below meth c H locs 0 0 (MQ below (sp_Q D (some (.float (if 0 < nI n then FP.fdiv (FP.i2f (sumI (mF_late (μ 1)) n)) (FP.i2f (nI n)) else FP.fconst0))) (mW am cy (sp_st μ 0 0 (if 0 < nI n then 0 else 1))) (sp_A am 5 s.heap.size)) ([.ref (am (0))] : List Value).toArray s 0 0 (sp_A am 5 s.heap.size)) (F0 m 29 ls []) := by
        intro fu
        induction fu with
        | zero => intro i y H locs hle hlt hi_0 hP hS ls hl; exact absurd hlt (Nat.not_lt_zero _)
        | succ fu ih =>
          intro i y H locs hle hlt hi_0 hP hS ls hl
          refine lv_iload_n hx hb dX10_lateShare_29 rfl (lv_at hl 0 rfl) ?_
          refine lv_iload_n hx hb dX10_lateShare_30 rfl (lv_at hl 2 rfl) ?_
          refine lv_icmp_ge (tgt := 50) hx hb dX10_lateShare_31 (by decide) (fun c_4 => ?_) (fun c_4 => ?_)
          · skip
            have c_4d := Int32.not_lt.mpr c_4
            have hx_i : i = n := by have := (nI_leI (a := n) (b := i) (by omega) (by omega)).mp c_4; omega
            try rw [hx_i] at hi_0
            refine lv_iload_n hx hb dX10_lateShare_50 rfl (lv_at hl 1 rfl) ?_
            refine lv_i2f hx hb dX10_lateShare_51 ?_
            refine lv_iload_n hx hb dX10_lateShare_52 rfl (lv_at hl 2 rfl) ?_
            refine lv_i2f hx hb dX10_lateShare_53 ?_
            refine lv_fdiv hx hb dX10_lateShare_54 ((by rw [hi_0]; exact hd hc9)) ?_
            have hE9 : mW am cy (sp_st μ 0 0 0) = mW am cy (sp_st μ 0 0 (if 0 < nI n then 0 else 1)) := by exact mW_eq (by simp [b2i, c_1, c_1d])
            have hP : va_P D vwCl (mW am cy (sp_st μ 0 0 (if 0 < nI n then 0 else 1))) H := by rw [← hE9]; exact hP
            exact W.fret (v := FP.fdiv (FP.i2f y) (FP.i2f (nI n))) hx hb hr (fun T9 hT9 _ => ⟨congrArg (fun z9 => Outcome.returned (some (Value.float z9))) (show (FP.fdiv (FP.i2f y) (FP.i2f (nI n)) : UInt32) = if 0 < nI n then FP.fdiv (FP.i2f (sumI (mF_late (μ 1)) n)) (FP.i2f (nI n)) else FP.fconst0 from (by rw [hi_0]; simp [b2i, c_1, c_1d])), by rw [hT9]; exact hP, hS.F hT9⟩) hS.2.2 dX10_lateShare_55
          · skip
            have c_4d := Int32.not_le.mp c_4
            have hb_i : i < n := Nat.lt_of_not_le (fun z => c_4 (nI_le z (by omega)))
            refine lv_iload_n hx hb dX10_lateShare_34 rfl (lv_at hl 1 rfl) ?_
            refine lv_aload_n hx hb dX10_lateShare_35 rfl (lv_at hl 3 rfl) ?_
            refine lv_iload_n hx hb dX10_lateShare_36 rfl (lv_at hl 0 rfl) ?_
            refine lv_bipush (v := 8) hx hb dX10_lateShare_37 (by decide) ?_
            refine sp_call (W.runV (As := [.int (nI i), .int (8)]) (rest := [.int (y)]) ⟨hx, hb, hml, hown, hts⟩ (c_X10_p l D am cy (sp_st μ 0 0 0) i (by omega) 8 (by omega)) (cwV 2 hts gX10_lateShare_X10_p rfl rfl rfl (by decide +kernel) ⟨Nat.le_of_ble_eq_true rfl, Nat.le_of_ble_eq_true rfl⟩) (sp_preV hK hP (κ := 0) (by decide) mE_0 rfl) rfl rfl hl.1 rfl (lv_room (Nat.le_of_ble_eq_true rfl)) dX10_lateShare_39 ⟨Nat.le_of_ble_eq_true rfl, Nat.le_of_ble_eq_true rfl⟩) ?_
            refine W.eq (g2 := F0 m 42 ls [.int (gP ((sp_st μ 0 0 0) 1) i 8), .int (y)]) rfl ?_
            refine W.eq (g2 := F0 m 42 ls [.int (gP (μ 1) i 8), .int (y)]) (by rw [st0_1 μ 0 0]) ?_
            refine lv_iadd hx hb dX10_lateShare_42 ?_
            refine lv_istore_n (lv' := [(2, .int (y + (gP (μ 1) i 8))), (3, .int (nI i)), (1, .int (nI n)), (0, .ref (am (0)))]) hx hb dX10_lateShare_43 rfl hl (by decide) rfl (fun ls hl => ?_)
            refine lv_iinc (v := nI (i + 1)) (lv' := [(3, .int (nI (i + 1))), (2, .int (y + (gP (μ 1) i 8))), (1, .int (nI n)), (0, .ref (am (0)))]) hx hb dX10_lateShare_44 hl (k := 1) rfl (nI_1 _) (by decide) rfl (fun ls hl => ?_)
            refine lv_goto (tgt := 29) hx hb dX10_lateShare_47 (by decide) ?_
            exact ih (i + 1) (y + (gP (μ 1) i 8))  _ _ (by omega) (by omega) (by rw [sumI_succ, ← hi_0]; rfl) hP hS ls (lv_sub hl [0, 1, 2, 3] rfl)
      exact loop_29 (n + 1) (0) (0)  _ _ (by omega) (by omega) (rfl) hP hS ls (lv_sub hl [0, 1, 2, 3] rfl)
    · exact absurd c_3 (by decide)

