theorem wi_X6_readPart_X1 : ∀ w ∈ wsX10, w ∈ wsX6_readPart := by decide +kernel
theorem wi_X6_readPart_X6 : ∀ w ∈ wsX60, w ∈ wsX6_readPart := by decide +kernel
set_option maxHeartbeats 20000000 in
set_option maxRecDepth 100000 in
theorem c_X6_readPart (l : Launch) (D : va_G) (ad : Nat → Nat) (cy : Nat → ClassId) (pm : Nat → Nat) (rj : Option Nat) (σ : Nat → Nat → Int32) (sz : Nat) (hi : sp_inj ad 459) (x : Int32) (i : Nat) (hi2 : i < 20) : Met l yX6_readPart wsX6_readPart ({ frames := 3, cells := 0, slots := 0, locals := 67 } : Room) (sp_Pm D (tyG cy) sz [.ref (ad (433)), .int (x), .ref (ad (439 + i))] (cW ad cy pm rj σ)) (sp_Q D (none) (cW ad cy (pm) (rj) (f_rdPart σ x i)) (sp_A ad 459 sz)) 0 0 (sp_A ad 459 sz) := by
  refine Met.ofW (cc := cX6_readPart) (maxL := 3) (ret := none) (by decide) rfl ?_
  intro p e s m args below meth c s₁ B hml hv
  obtain ⟨rfl, hsz, hP, hK⟩ := hv
  have hx := B.exec
  have hb := B.bytes
  have hr := B.returns
  have hts := atoms_spec (ws := wsX6_readPart) B.pre
  have hown : s.vm.findClass RX6 = some m.cls := findClass_of_methodNamed B.named
  have hlocks := B.notSynchronized
  subst hsz
  have hS : va_S (sp_A ad 459 s.heap.size) s.heap s.heap [] := va_S.rf
  have hAk : ∀ k, k < 459 → (sp_A ad 459 s.heap.size) (ad k) := fun k hk => Or.inl ⟨k, hk, rfl⟩
  skip
  have hl := lv_entry ([.ref (ad (433)), .int (x), .ref (ad (439 + i))]) (n := 3) (Nat.le_of_ble_eq_true rfl)
  refine W.eq (lg_entry_eq _ ([.ref (ad (433)), .int (x), .ref (ad (439 + i))]) _) ?_
  generalize (lg_sl ([.ref (ad (433)), .int (x), .ref (ad (439 + i))]) ++ List.replicate (3 - (lg_sl ([.ref (ad (433)), .int (x), .ref (ad (439 + i))])).length) Slot.unset).toArray = ls at hl ⊢
  have hl : lv_has ls 3 [(0, .ref (ad (433))), (1, .int (x)), (2, .ref (ad (439 + i)))] := hl
  refine lv_iload_n hx hb dX6_readPart_0 rfl (lv_at hl 1 rfl) ?_
  by_cases c_1 : x = 99
  · refine lv_tableIn (off := 123) (tgt := 124) hx hb dX6_readPart_1 (by rw [c_1]; decide +kernel) (by rw [c_1]; decide +kernel) (by rw [c_1]; decide +kernel) (by decide) ?_
    refine lv_aload_n hx hb dX6_readPart_124 rfl (lv_at hl 2 rfl) ?_
    refine lv_aload_n hx hb dX6_readPart_125 rfl (lv_at hl 0 rfl) ?_
    refine lv_iconst (v := 3) hx hb dX6_readPart_126 (by decide) ?_
    refine sp_callm (va_runV (As := [.int (3)]) (rest := [.ref (ad (439 + i))]) ⟨hx, hb, hml, hown, hts⟩ (c_X6_readNumber l D ad cy pm rj σ _ hi 3 3 (rfl) (by decide)) (cwV 1 hts gX6_readPart_X6_readNumber rfl rfl rfl (by decide +kernel) ⟨Nat.le_of_ble_eq_true rfl, Nat.le_of_ble_eq_true rfl⟩) (sp_preVm hK hP (κ := 433) (by decide) cE_script rfl) rfl rfl hl.1 rfl (lv_room (Nat.le_of_ble_eq_true rfl)) dX6_readPart_127 ⟨Nat.le_of_ble_eq_true rfl, Nat.le_of_ble_eq_true rfl⟩) hS (fun q h1 h2 => sp_Alt h1 h2) (sp_Ale hS.1) (fun H locs hP hle hfr hS => ?_)
    refine W.eq (g2 := F0 m 130 ls [.int (f_rdNumV σ 3), .ref (ad (439 + i))]) rfl ?_
    refine sp_put hx hb hts wi_X6_readPart_X1 tyX1 tyX1_ok nmX1 hown hK hP hi hAk hS (κ := 439 + i) (by omega) (cE_cmd (by omega)) rfl 4 (by decide) (hts _ (List.mem_of_getElem? (i := 4) rfl)) (fun _ h => h) rfl (ty := tyX1 4) (by decide +kernel) ⟨rfl, rfl⟩ (Nat.le_of_ble_eq_true rfl) (r1 := upd ((f_rdNum σ 3) (439 + i)) 4 (f_rdNumV σ 3)) (cE_of (cE_cmd (by omega)) (by simp [upd])) dX6_readPart_130 (fun H locs hP hS => ?_)
    have hP : va_P D vwCl (cW ad cy pm rj (sp_st (f_rdNum σ 3) (439 + i) 4 (f_rdNumV σ 3))) H := hP
    refine lv_goto (tgt := 199) hx hb dX6_readPart_133 (by decide) ?_
    have hE9 : cW ad cy (pm) (rj) (sp_st (f_rdNum σ 3) (439 + i) 4 (f_rdNumV σ 3)) = cW ad cy (pm) (rj) (f_rdPart σ x i) := by exact cW_eq rfl (by first | (rw [c_1]; simp [f_rdPart]; done) | (rw [c_1]; simp [f_rdPart, b2i, c_1]; done) | (simp only [f_rdPart]; simp [b2i, c_1]; done))
    have hP : va_P D vwCl (cW ad cy (pm) (rj) (f_rdPart σ x i)) H := by rw [← hE9]; exact hP
    exact W.vret hx hb hr (fun T9 hT9 _ => ⟨rfl, by rw [hT9]; exact hP, hS.F hT9⟩) hS.2.2 dX6_readPart_199
  · skip
    by_cases c_2 : x = 100
    · refine lv_tableIn (off := 181) (tgt := 182) hx hb dX6_readPart_1 (by rw [c_2]; decide +kernel) (by rw [c_2]; decide +kernel) (by rw [c_2]; decide +kernel) (by decide) ?_
      refine lv_aload_n hx hb dX6_readPart_182 rfl (lv_at hl 2 rfl) ?_
      refine lv_aload_n hx hb dX6_readPart_183 rfl (lv_at hl 0 rfl) ?_
      refine lv_iconst (v := 1) hx hb dX6_readPart_184 (by decide) ?_
      refine sp_callm (va_runV (As := [.int (1)]) (rest := [.ref (ad (439 + i))]) ⟨hx, hb, hml, hown, hts⟩ (c_X6_readNumber l D ad cy pm rj σ _ hi 1 1 (rfl) (by decide)) (cwV 1 hts gX6_readPart_X6_readNumber rfl rfl rfl (by decide +kernel) ⟨Nat.le_of_ble_eq_true rfl, Nat.le_of_ble_eq_true rfl⟩) (sp_preVm hK hP (κ := 433) (by decide) cE_script rfl) rfl rfl hl.1 rfl (lv_room (Nat.le_of_ble_eq_true rfl)) dX6_readPart_185 ⟨Nat.le_of_ble_eq_true rfl, Nat.le_of_ble_eq_true rfl⟩) hS (fun q h1 h2 => sp_Alt h1 h2) (sp_Ale hS.1) (fun H locs hP hle hfr hS => ?_)
      refine W.eq (g2 := F0 m 188 ls [.int (f_rdNumV σ 1), .ref (ad (439 + i))]) rfl ?_
      refine sp_put hx hb hts wi_X6_readPart_X1 tyX1 tyX1_ok nmX1 hown hK hP hi hAk hS (κ := 439 + i) (by omega) (cE_cmd (by omega)) rfl 6 (by decide) (hts _ (List.mem_of_getElem? (i := 8) rfl)) (fun _ h => h) rfl (ty := tyX1 6) (by decide +kernel) ⟨rfl, rfl⟩ (Nat.le_of_ble_eq_true rfl) (r1 := upd ((f_rdNum σ 1) (439 + i)) 6 (f_rdNumV σ 1)) (cE_of (cE_cmd (by omega)) (by simp [upd])) dX6_readPart_188 (fun H locs hP hS => ?_)
      have hP : va_P D vwCl (cW ad cy pm rj (sp_st (f_rdNum σ 1) (439 + i) 6 (f_rdNumV σ 1))) H := hP
      refine lv_goto (tgt := 199) hx hb dX6_readPart_191 (by decide) ?_
      have hE9 : cW ad cy (pm) (rj) (sp_st (f_rdNum σ 1) (439 + i) 6 (f_rdNumV σ 1)) = cW ad cy (pm) (rj) (f_rdPart σ x i) := by exact cW_eq rfl (by first | (rw [c_2]; simp [f_rdPart]; done) | (rw [c_2]; simp [f_rdPart, b2i, c_2]; done) | (simp only [f_rdPart]; simp [b2i, c_2]; done))
      have hP : va_P D vwCl (cW ad cy (pm) (rj) (f_rdPart σ x i)) H := by rw [← hE9]; exact hP
      exact W.vret hx hb hr (fun T9 hT9 _ => ⟨rfl, by rw [hT9]; exact hP, hS.F hT9⟩) hS.2.2 dX6_readPart_199
    · skip
      by_cases c_3 : x = 101
      · refine lv_tableIn (off := 193) (tgt := 194) hx hb dX6_readPart_1 (by rw [c_3]; decide +kernel) (by rw [c_3]; decide +kernel) (by rw [c_3]; decide +kernel) (by decide) ?_
        refine lv_aload_n hx hb dX6_readPart_194 rfl (lv_at hl 0 rfl) ?_
        refine lv_iload_n hx hb dX6_readPart_195 rfl (lv_at hl 1 rfl) ?_
        refine sp_callm (va_runV (As := [.int (x)]) (rest := []) ⟨hx, hb, hml, hown, hts⟩ (c_X6_readSign l D ad cy pm rj σ _ hi x) (cwV 1 hts gX6_readPart_X6_readSign rfl rfl rfl (by decide +kernel) ⟨Nat.le_of_ble_eq_true rfl, Nat.le_of_ble_eq_true rfl⟩) (sp_preVm hK hP (κ := 433) (by decide) cE_script rfl) rfl rfl hl.1 rfl (lv_room (Nat.le_of_ble_eq_true rfl)) dX6_readPart_196 ⟨Nat.le_of_ble_eq_true rfl, Nat.le_of_ble_eq_true rfl⟩) hS (fun q h1 h2 => sp_Alt h1 h2) (sp_Ale hS.1) (fun H locs hP hle hfr hS => ?_)
        refine W.eq (g2 := F0 m 199 ls []) rfl ?_
        have hE9 : cW ad cy (pm) (rj) (f_rdSign σ x) = cW ad cy (pm) (rj) (f_rdPart σ x i) := by exact cW_eq rfl (by first | (rw [c_3]; simp [f_rdPart]; done) | (rw [c_3]; simp [f_rdPart, b2i, c_3]; done) | (simp only [f_rdPart]; simp [b2i, c_3]; done))
        have hP : va_P D vwCl (cW ad cy (pm) (rj) (f_rdPart σ x i)) H := by rw [← hE9]; exact hP
        exact W.vret hx hb hr (fun T9 hT9 _ => ⟨rfl, by rw [hT9]; exact hP, hS.F hT9⟩) hS.2.2 dX6_readPart_199
      · skip
        by_cases c_4 : x = 102
        · refine lv_tableIn (off := 135) (tgt := 136) hx hb dX6_readPart_1 (by rw [c_4]; decide +kernel) (by rw [c_4]; decide +kernel) (by rw [c_4]; decide +kernel) (by decide) ?_
          refine lv_aload_n hx hb dX6_readPart_136 rfl (lv_at hl 2 rfl) ?_
          refine lv_aload_n hx hb dX6_readPart_137 rfl (lv_at hl 0 rfl) ?_
          refine sp_get hx hb hts wi_X6_readPart_X6 hown hK hP (κ := 433) (by decide) cE_script rfl 0 (by decide) (hts _ (List.mem_of_getElem? (i := 5) rfl)) (fun _ h => h) rfl dX6_readPart_138 ?_
          refine lv_aload_n hx hb dX6_readPart_141 rfl (lv_at hl 0 rfl) ?_
          refine sp_get hx hb hts wi_X6_readPart_X6 hown hK hP (κ := 433) (by decide) cE_script rfl 3 (by decide) (hts _ (List.mem_of_getElem? (i := 6) rfl)) (fun _ h => h) rfl dX6_readPart_142 ?_
          refine sp_call (W.runV (As := [.int (σ 433 3)]) (rest := [.ref (ad (439 + i))]) ⟨hx, hb, hml, hown, hts⟩ (c_X7_signAt_434 l D ad cy pm rj σ (σ 433 3)) (cwV 1 hts gX6_readPart_X7_signAt rfl rfl rfl (by decide +kernel) ⟨Nat.le_of_ble_eq_true rfl, Nat.le_of_ble_eq_true rfl⟩) (sp_preV hK hP (κ := 434) (by decide) cE_in rfl) rfl rfl hl.1 rfl (lv_room (Nat.le_of_ble_eq_true rfl)) dX6_readPart_145 ⟨Nat.le_of_ble_eq_true rfl, Nat.le_of_ble_eq_true rfl⟩) ?_
          refine W.eq (g2 := F0 m 148 ls [.int (f_signI σ (σ 433 3)), .ref (ad (439 + i))]) rfl ?_
          refine lv_bipush (v := 76) hx hb dX6_readPart_148 (by decide) ?_
          refine lv_icmp_ne (tgt := 157) hx hb dX6_readPart_150 (by decide) (fun c_5 => ?_) (fun c_5 => ?_)
          · skip
            refine lv_iconst (v := 0) hx hb dX6_readPart_157 (by decide) ?_
            refine sp_put hx hb hts wi_X6_readPart_X1 tyX1 tyX1_ok nmX1 hown hK hP hi hAk hS (κ := 439 + i) (by omega) (cE_cmd (by omega)) rfl 5 (by decide) (hts _ (List.mem_of_getElem? (i := 7) rfl)) (fun _ h => h) rfl (ty := tyX1 5) (by decide +kernel) (nz_of (show bz 0 = 0 by decide)) (Nat.le_of_ble_eq_true rfl) (r1 := upd (σ (439 + i)) 5 0) (cE_of (cE_cmd (by omega)) (by simp [upd, (show bz 0 = 0 by decide)])) dX6_readPart_158 (fun H locs hP hS => ?_)
            have hP : va_P D vwCl (cW ad cy pm rj (sp_st σ (439 + i) 5 0)) H := hP
            refine lv_aload_n hx hb dX6_readPart_161 rfl (lv_at hl 0 rfl) ?_
            refine lv_aload_n hx hb dX6_readPart_162 rfl (lv_at hl 2 rfl) ?_
            refine sp_get hx hb hts wi_X6_readPart_X1 hown hK hP (κ := 439 + i) (by omega) (cE_cmd (by omega)) rfl 5 (by decide) (hts _ (List.mem_of_getElem? (i := 7) rfl)) (fun _ h => h) rfl dX6_readPart_163 ?_
            refine W.eq (g2 := F0 m 166 ls [.int (0), .ref (ad (433))]) (by rw [sp_st_s, (show bz 0 = 0 by decide)]) ?_
            refine lv_if_eq (tgt := 174) hx hb dX6_readPart_166 (by decide) (fun c_6 => ?_) (fun c_6 => ?_)
            · skip
              refine lv_bipush (v := 82) hx hb dX6_readPart_174 (by decide) ?_
              refine sp_callm (va_runV (As := [.int (82)]) (rest := []) ⟨hx, hb, hml, hown, hts⟩ (c_X6_readSign l D ad cy pm rj (sp_st σ (439 + i) 5 0) _ hi 82) (cwV 1 hts gX6_readPart_X6_readSign rfl rfl rfl (by decide +kernel) ⟨Nat.le_of_ble_eq_true rfl, Nat.le_of_ble_eq_true rfl⟩) (sp_preVm hK hP (κ := 433) (by decide) cE_script rfl) rfl rfl hl.1 rfl (lv_room (Nat.le_of_ble_eq_true rfl)) dX6_readPart_176 ⟨Nat.le_of_ble_eq_true rfl, Nat.le_of_ble_eq_true rfl⟩) hS (fun q h1 h2 => sp_Alt h1 h2) (sp_Ale hS.1) (fun H locs hP hle hfr hS => ?_)
              refine W.eq (g2 := F0 m 179 ls []) rfl ?_
              refine lv_goto (tgt := 199) hx hb dX6_readPart_179 (by decide) ?_
              have hE9 : cW ad cy (pm) (rj) (f_rdSign (sp_st σ (439 + i) 5 0) 82) = cW ad cy (pm) (rj) (f_rdPart σ x i) := by exact cW_eq rfl (by first | (rw [c_4]; simp [f_rdPart]; done) | (rw [c_4]; simp [f_rdPart, b2i, c_4, c_5]; done) | (simp only [f_rdPart]; simp [b2i, c_4, c_5]; done))
              have hP : va_P D vwCl (cW ad cy (pm) (rj) (f_rdPart σ x i)) H := by rw [← hE9]; exact hP
              exact W.vret hx hb hr (fun T9 hT9 _ => ⟨rfl, by rw [hT9]; exact hP, hS.F hT9⟩) hS.2.2 dX6_readPart_199
            · exact absurd (by decide) c_6
          · skip
            refine lv_iconst (v := 1) hx hb dX6_readPart_153 (by decide) ?_
            refine lv_goto (tgt := 158) hx hb dX6_readPart_154 (by decide) ?_
            refine sp_put hx hb hts wi_X6_readPart_X1 tyX1 tyX1_ok nmX1 hown hK hP hi hAk hS (κ := 439 + i) (by omega) (cE_cmd (by omega)) rfl 5 (by decide) (hts _ (List.mem_of_getElem? (i := 7) rfl)) (fun _ h => h) rfl (ty := tyX1 5) (by decide +kernel) (nz_of (show bz 1 = 1 by decide)) (Nat.le_of_ble_eq_true rfl) (r1 := upd (σ (439 + i)) 5 1) (cE_of (cE_cmd (by omega)) (by simp [upd, (show bz 1 = 1 by decide)])) dX6_readPart_158 (fun H locs hP hS => ?_)
            have hP : va_P D vwCl (cW ad cy pm rj (sp_st σ (439 + i) 5 1)) H := hP
            refine lv_aload_n hx hb dX6_readPart_161 rfl (lv_at hl 0 rfl) ?_
            refine lv_aload_n hx hb dX6_readPart_162 rfl (lv_at hl 2 rfl) ?_
            refine sp_get hx hb hts wi_X6_readPart_X1 hown hK hP (κ := 439 + i) (by omega) (cE_cmd (by omega)) rfl 5 (by decide) (hts _ (List.mem_of_getElem? (i := 7) rfl)) (fun _ h => h) rfl dX6_readPart_163 ?_
            refine W.eq (g2 := F0 m 166 ls [.int (1), .ref (ad (433))]) (by rw [sp_st_s, (show bz 1 = 1 by decide)]) ?_
            refine lv_if_eq (tgt := 174) hx hb dX6_readPart_166 (by decide) (fun c_7 => ?_) (fun c_7 => ?_)
            · exact absurd c_7 (by decide)
            · skip
              refine lv_bipush (v := 76) hx hb dX6_readPart_169 (by decide) ?_
              refine lv_goto (tgt := 176) hx hb dX6_readPart_171 (by decide) ?_
              refine sp_callm (va_runV (As := [.int (76)]) (rest := []) ⟨hx, hb, hml, hown, hts⟩ (c_X6_readSign l D ad cy pm rj (sp_st σ (439 + i) 5 1) _ hi 76) (cwV 1 hts gX6_readPart_X6_readSign rfl rfl rfl (by decide +kernel) ⟨Nat.le_of_ble_eq_true rfl, Nat.le_of_ble_eq_true rfl⟩) (sp_preVm hK hP (κ := 433) (by decide) cE_script rfl) rfl rfl hl.1 rfl (lv_room (Nat.le_of_ble_eq_true rfl)) dX6_readPart_176 ⟨Nat.le_of_ble_eq_true rfl, Nat.le_of_ble_eq_true rfl⟩) hS (fun q h1 h2 => sp_Alt h1 h2) (sp_Ale hS.1) (fun H locs hP hle hfr hS => ?_)
              refine W.eq (g2 := F0 m 179 ls []) rfl ?_
              refine lv_goto (tgt := 199) hx hb dX6_readPart_179 (by decide) ?_
              have hE9 : cW ad cy (pm) (rj) (f_rdSign (sp_st σ (439 + i) 5 1) 76) = cW ad cy (pm) (rj) (f_rdPart σ x i) := by exact cW_eq rfl (by first | (rw [c_4]; simp [f_rdPart]; done) | (rw [c_4]; simp [f_rdPart, b2i, c_4, c_5]; done) | (simp only [f_rdPart]; simp [b2i, c_4, c_5]; done))
              have hP : va_P D vwCl (cW ad cy (pm) (rj) (f_rdPart σ x i)) H := by rw [← hE9]; exact hP
              exact W.vret hx hb hr (fun T9 hT9 _ => ⟨rfl, by rw [hT9]; exact hP, hS.F hT9⟩) hS.2.2 dX6_readPart_199
        · skip
          by_cases c_8 : x = 103
          · refine lv_tableIn (off := 193) (tgt := 194) hx hb dX6_readPart_1 (by rw [c_8]; decide +kernel) (by rw [c_8]; decide +kernel) (by rw [c_8]; decide +kernel) (by decide) ?_
            refine lv_aload_n hx hb dX6_readPart_194 rfl (lv_at hl 0 rfl) ?_
            refine lv_iload_n hx hb dX6_readPart_195 rfl (lv_at hl 1 rfl) ?_
            refine sp_callm (va_runV (As := [.int (x)]) (rest := []) ⟨hx, hb, hml, hown, hts⟩ (c_X6_readSign l D ad cy pm rj σ _ hi x) (cwV 1 hts gX6_readPart_X6_readSign rfl rfl rfl (by decide +kernel) ⟨Nat.le_of_ble_eq_true rfl, Nat.le_of_ble_eq_true rfl⟩) (sp_preVm hK hP (κ := 433) (by decide) cE_script rfl) rfl rfl hl.1 rfl (lv_room (Nat.le_of_ble_eq_true rfl)) dX6_readPart_196 ⟨Nat.le_of_ble_eq_true rfl, Nat.le_of_ble_eq_true rfl⟩) hS (fun q h1 h2 => sp_Alt h1 h2) (sp_Ale hS.1) (fun H locs hP hle hfr hS => ?_)
            refine W.eq (g2 := F0 m 199 ls []) rfl ?_
            have hE9 : cW ad cy (pm) (rj) (f_rdSign σ x) = cW ad cy (pm) (rj) (f_rdPart σ x i) := by exact cW_eq rfl (by first | (rw [c_8]; simp [f_rdPart]; done) | (rw [c_8]; simp [f_rdPart, b2i, c_8]; done) | (simp only [f_rdPart]; simp [b2i, c_8]; done))
            have hP : va_P D vwCl (cW ad cy (pm) (rj) (f_rdPart σ x i)) H := by rw [← hE9]; exact hP
            exact W.vret hx hb hr (fun T9 hT9 _ => ⟨rfl, by rw [hT9]; exact hP, hS.F hT9⟩) hS.2.2 dX6_readPart_199
          · skip
            by_cases c_9 : x = 104
            · refine lv_tableIn (off := 193) (tgt := 194) hx hb dX6_readPart_1 (by rw [c_9]; decide +kernel) (by rw [c_9]; decide +kernel) (by rw [c_9]; decide +kernel) (by decide) ?_
              refine lv_aload_n hx hb dX6_readPart_194 rfl (lv_at hl 0 rfl) ?_
              refine lv_iload_n hx hb dX6_readPart_195 rfl (lv_at hl 1 rfl) ?_
              refine sp_callm (va_runV (As := [.int (x)]) (rest := []) ⟨hx, hb, hml, hown, hts⟩ (c_X6_readSign l D ad cy pm rj σ _ hi x) (cwV 1 hts gX6_readPart_X6_readSign rfl rfl rfl (by decide +kernel) ⟨Nat.le_of_ble_eq_true rfl, Nat.le_of_ble_eq_true rfl⟩) (sp_preVm hK hP (κ := 433) (by decide) cE_script rfl) rfl rfl hl.1 rfl (lv_room (Nat.le_of_ble_eq_true rfl)) dX6_readPart_196 ⟨Nat.le_of_ble_eq_true rfl, Nat.le_of_ble_eq_true rfl⟩) hS (fun q h1 h2 => sp_Alt h1 h2) (sp_Ale hS.1) (fun H locs hP hle hfr hS => ?_)
              refine W.eq (g2 := F0 m 199 ls []) rfl ?_
              have hE9 : cW ad cy (pm) (rj) (f_rdSign σ x) = cW ad cy (pm) (rj) (f_rdPart σ x i) := by exact cW_eq rfl (by first | (rw [c_9]; simp [f_rdPart]; done) | (rw [c_9]; simp [f_rdPart, b2i, c_9]; done) | (simp only [f_rdPart]; simp [b2i, c_9]; done))
              have hP : va_P D vwCl (cW ad cy (pm) (rj) (f_rdPart σ x i)) H := by rw [← hE9]; exact hP
              exact W.vret hx hb hr (fun T9 hT9 _ => ⟨rfl, by rw [hT9]; exact hP, hS.F hT9⟩) hS.2.2 dX6_readPart_199
            · skip
              by_cases c_10 : x = 105
              · refine lv_tableIn (off := 87) (tgt := 88) hx hb dX6_readPart_1 (by rw [c_10]; decide +kernel) (by rw [c_10]; decide +kernel) (by rw [c_10]; decide +kernel) (by decide) ?_
                refine lv_aload_n hx hb dX6_readPart_88 rfl (lv_at hl 2 rfl) ?_
                refine lv_aload_n hx hb dX6_readPart_89 rfl (lv_at hl 0 rfl) ?_
                refine lv_iconst (v := 3) hx hb dX6_readPart_90 (by decide) ?_
                refine sp_callm (va_runV (As := [.int (3)]) (rest := [.ref (ad (439 + i))]) ⟨hx, hb, hml, hown, hts⟩ (c_X6_readNumber l D ad cy pm rj σ _ hi 3 3 (rfl) (by decide)) (cwV 1 hts gX6_readPart_X6_readNumber rfl rfl rfl (by decide +kernel) ⟨Nat.le_of_ble_eq_true rfl, Nat.le_of_ble_eq_true rfl⟩) (sp_preVm hK hP (κ := 433) (by decide) cE_script rfl) rfl rfl hl.1 rfl (lv_room (Nat.le_of_ble_eq_true rfl)) dX6_readPart_91 ⟨Nat.le_of_ble_eq_true rfl, Nat.le_of_ble_eq_true rfl⟩) hS (fun q h1 h2 => sp_Alt h1 h2) (sp_Ale hS.1) (fun H locs hP hle hfr hS => ?_)
                refine W.eq (g2 := F0 m 94 ls [.int (f_rdNumV σ 3), .ref (ad (439 + i))]) rfl ?_
                refine sp_put hx hb hts wi_X6_readPart_X1 tyX1 tyX1_ok nmX1 hown hK hP hi hAk hS (κ := 439 + i) (by omega) (cE_cmd (by omega)) rfl 1 (by decide) (hts _ (List.mem_of_getElem? (i := 1) rfl)) (fun _ h => h) rfl (ty := tyX1 1) (by decide +kernel) ⟨rfl, rfl⟩ (Nat.le_of_ble_eq_true rfl) (r1 := upd ((f_rdNum σ 3) (439 + i)) 1 (f_rdNumV σ 3)) (cE_of (cE_cmd (by omega)) (by simp [upd])) dX6_readPart_94 (fun H locs hP hS => ?_)
                have hP : va_P D vwCl (cW ad cy pm rj (sp_st (f_rdNum σ 3) (439 + i) 1 (f_rdNumV σ 3))) H := hP
                refine lv_goto (tgt := 199) hx hb dX6_readPart_97 (by decide) ?_
                have hE9 : cW ad cy (pm) (rj) (sp_st (f_rdNum σ 3) (439 + i) 1 (f_rdNumV σ 3)) = cW ad cy (pm) (rj) (f_rdPart σ x i) := by exact cW_eq rfl (by first | (rw [c_10]; simp [f_rdPart]; done) | (rw [c_10]; simp [f_rdPart, b2i, c_10]; done) | (simp only [f_rdPart]; simp [b2i, c_10]; done))
                have hP : va_P D vwCl (cW ad cy (pm) (rj) (f_rdPart σ x i)) H := by rw [← hE9]; exact hP
                exact W.vret hx hb hr (fun T9 hT9 _ => ⟨rfl, by rw [hT9]; exact hP, hS.F hT9⟩) hS.2.2 dX6_readPart_199
              · skip
                by_cases c_11 : x = 106
                · refine lv_tableIn (off := 193) (tgt := 194) hx hb dX6_readPart_1 (by rw [c_11]; decide +kernel) (by rw [c_11]; decide +kernel) (by rw [c_11]; decide +kernel) (by decide) ?_
                  refine lv_aload_n hx hb dX6_readPart_194 rfl (lv_at hl 0 rfl) ?_
                  refine lv_iload_n hx hb dX6_readPart_195 rfl (lv_at hl 1 rfl) ?_
                  refine sp_callm (va_runV (As := [.int (x)]) (rest := []) ⟨hx, hb, hml, hown, hts⟩ (c_X6_readSign l D ad cy pm rj σ _ hi x) (cwV 1 hts gX6_readPart_X6_readSign rfl rfl rfl (by decide +kernel) ⟨Nat.le_of_ble_eq_true rfl, Nat.le_of_ble_eq_true rfl⟩) (sp_preVm hK hP (κ := 433) (by decide) cE_script rfl) rfl rfl hl.1 rfl (lv_room (Nat.le_of_ble_eq_true rfl)) dX6_readPart_196 ⟨Nat.le_of_ble_eq_true rfl, Nat.le_of_ble_eq_true rfl⟩) hS (fun q h1 h2 => sp_Alt h1 h2) (sp_Ale hS.1) (fun H locs hP hle hfr hS => ?_)
                  refine W.eq (g2 := F0 m 199 ls []) rfl ?_
                  have hE9 : cW ad cy (pm) (rj) (f_rdSign σ x) = cW ad cy (pm) (rj) (f_rdPart σ x i) := by exact cW_eq rfl (by first | (rw [c_11]; simp [f_rdPart]; done) | (rw [c_11]; simp [f_rdPart, b2i, c_11]; done) | (simp only [f_rdPart]; simp [b2i, c_11]; done))
                  have hP : va_P D vwCl (cW ad cy (pm) (rj) (f_rdPart σ x i)) H := by rw [← hE9]; exact hP
                  exact W.vret hx hb hr (fun T9 hT9 _ => ⟨rfl, by rw [hT9]; exact hP, hS.F hT9⟩) hS.2.2 dX6_readPart_199
                · skip
                  by_cases c_12 : x = 107
                  · refine lv_tableIn (off := 193) (tgt := 194) hx hb dX6_readPart_1 (by rw [c_12]; decide +kernel) (by rw [c_12]; decide +kernel) (by rw [c_12]; decide +kernel) (by decide) ?_
                    refine lv_aload_n hx hb dX6_readPart_194 rfl (lv_at hl 0 rfl) ?_
                    refine lv_iload_n hx hb dX6_readPart_195 rfl (lv_at hl 1 rfl) ?_
                    refine sp_callm (va_runV (As := [.int (x)]) (rest := []) ⟨hx, hb, hml, hown, hts⟩ (c_X6_readSign l D ad cy pm rj σ _ hi x) (cwV 1 hts gX6_readPart_X6_readSign rfl rfl rfl (by decide +kernel) ⟨Nat.le_of_ble_eq_true rfl, Nat.le_of_ble_eq_true rfl⟩) (sp_preVm hK hP (κ := 433) (by decide) cE_script rfl) rfl rfl hl.1 rfl (lv_room (Nat.le_of_ble_eq_true rfl)) dX6_readPart_196 ⟨Nat.le_of_ble_eq_true rfl, Nat.le_of_ble_eq_true rfl⟩) hS (fun q h1 h2 => sp_Alt h1 h2) (sp_Ale hS.1) (fun H locs hP hle hfr hS => ?_)
                    refine W.eq (g2 := F0 m 199 ls []) rfl ?_
                    have hE9 : cW ad cy (pm) (rj) (f_rdSign σ x) = cW ad cy (pm) (rj) (f_rdPart σ x i) := by exact cW_eq rfl (by first | (rw [c_12]; simp [f_rdPart]; done) | (rw [c_12]; simp [f_rdPart, b2i, c_12]; done) | (simp only [f_rdPart]; simp [b2i, c_12]; done))
                    have hP : va_P D vwCl (cW ad cy (pm) (rj) (f_rdPart σ x i)) H := by rw [← hE9]; exact hP
                    exact W.vret hx hb hr (fun T9 hT9 _ => ⟨rfl, by rw [hT9]; exact hP, hS.F hT9⟩) hS.2.2 dX6_readPart_199
                  · skip
                    by_cases c_13 : x = 108
                    · refine lv_tableIn (off := 193) (tgt := 194) hx hb dX6_readPart_1 (by rw [c_13]; decide +kernel) (by rw [c_13]; decide +kernel) (by rw [c_13]; decide +kernel) (by decide) ?_
                      refine lv_aload_n hx hb dX6_readPart_194 rfl (lv_at hl 0 rfl) ?_
                      refine lv_iload_n hx hb dX6_readPart_195 rfl (lv_at hl 1 rfl) ?_
                      refine sp_callm (va_runV (As := [.int (x)]) (rest := []) ⟨hx, hb, hml, hown, hts⟩ (c_X6_readSign l D ad cy pm rj σ _ hi x) (cwV 1 hts gX6_readPart_X6_readSign rfl rfl rfl (by decide +kernel) ⟨Nat.le_of_ble_eq_true rfl, Nat.le_of_ble_eq_true rfl⟩) (sp_preVm hK hP (κ := 433) (by decide) cE_script rfl) rfl rfl hl.1 rfl (lv_room (Nat.le_of_ble_eq_true rfl)) dX6_readPart_196 ⟨Nat.le_of_ble_eq_true rfl, Nat.le_of_ble_eq_true rfl⟩) hS (fun q h1 h2 => sp_Alt h1 h2) (sp_Ale hS.1) (fun H locs hP hle hfr hS => ?_)
                      refine W.eq (g2 := F0 m 199 ls []) rfl ?_
                      have hE9 : cW ad cy (pm) (rj) (f_rdSign σ x) = cW ad cy (pm) (rj) (f_rdPart σ x i) := by exact cW_eq rfl (by first | (rw [c_13]; simp [f_rdPart]; done) | (rw [c_13]; simp [f_rdPart, b2i, c_13]; done) | (simp only [f_rdPart]; simp [b2i, c_13]; done))
                      have hP : va_P D vwCl (cW ad cy (pm) (rj) (f_rdPart σ x i)) H := by rw [← hE9]; exact hP
                      exact W.vret hx hb hr (fun T9 hT9 _ => ⟨rfl, by rw [hT9]; exact hP, hS.F hT9⟩) hS.2.2 dX6_readPart_199
                    · skip
                      by_cases c_14 : x = 109
                      · refine lv_tableIn (off := 193) (tgt := 194) hx hb dX6_readPart_1 (by rw [c_14]; decide +kernel) (by rw [c_14]; decide +kernel) (by rw [c_14]; decide +kernel) (by decide) ?_
                        refine lv_aload_n hx hb dX6_readPart_194 rfl (lv_at hl 0 rfl) ?_
                        refine lv_iload_n hx hb dX6_readPart_195 rfl (lv_at hl 1 rfl) ?_
                        refine sp_callm (va_runV (As := [.int (x)]) (rest := []) ⟨hx, hb, hml, hown, hts⟩ (c_X6_readSign l D ad cy pm rj σ _ hi x) (cwV 1 hts gX6_readPart_X6_readSign rfl rfl rfl (by decide +kernel) ⟨Nat.le_of_ble_eq_true rfl, Nat.le_of_ble_eq_true rfl⟩) (sp_preVm hK hP (κ := 433) (by decide) cE_script rfl) rfl rfl hl.1 rfl (lv_room (Nat.le_of_ble_eq_true rfl)) dX6_readPart_196 ⟨Nat.le_of_ble_eq_true rfl, Nat.le_of_ble_eq_true rfl⟩) hS (fun q h1 h2 => sp_Alt h1 h2) (sp_Ale hS.1) (fun H locs hP hle hfr hS => ?_)
                        refine W.eq (g2 := F0 m 199 ls []) rfl ?_
                        have hE9 : cW ad cy (pm) (rj) (f_rdSign σ x) = cW ad cy (pm) (rj) (f_rdPart σ x i) := by exact cW_eq rfl (by first | (rw [c_14]; simp [f_rdPart]; done) | (rw [c_14]; simp [f_rdPart, b2i, c_14]; done) | (simp only [f_rdPart]; simp [b2i, c_14]; done))
                        have hP : va_P D vwCl (cW ad cy (pm) (rj) (f_rdPart σ x i)) H := by rw [← hE9]; exact hP
                        exact W.vret hx hb hr (fun T9 hT9 _ => ⟨rfl, by rw [hT9]; exact hP, hS.F hT9⟩) hS.2.2 dX6_readPart_199
                      · skip
                        by_cases c_15 : x = 110
                        · refine lv_tableIn (off := 193) (tgt := 194) hx hb dX6_readPart_1 (by rw [c_15]; decide +kernel) (by rw [c_15]; decide +kernel) (by rw [c_15]; decide +kernel) (by decide) ?_
                          refine lv_aload_n hx hb dX6_readPart_194 rfl (lv_at hl 0 rfl) ?_
                          refine lv_iload_n hx hb dX6_readPart_195 rfl (lv_at hl 1 rfl) ?_
                          refine sp_callm (va_runV (As := [.int (x)]) (rest := []) ⟨hx, hb, hml, hown, hts⟩ (c_X6_readSign l D ad cy pm rj σ _ hi x) (cwV 1 hts gX6_readPart_X6_readSign rfl rfl rfl (by decide +kernel) ⟨Nat.le_of_ble_eq_true rfl, Nat.le_of_ble_eq_true rfl⟩) (sp_preVm hK hP (κ := 433) (by decide) cE_script rfl) rfl rfl hl.1 rfl (lv_room (Nat.le_of_ble_eq_true rfl)) dX6_readPart_196 ⟨Nat.le_of_ble_eq_true rfl, Nat.le_of_ble_eq_true rfl⟩) hS (fun q h1 h2 => sp_Alt h1 h2) (sp_Ale hS.1) (fun H locs hP hle hfr hS => ?_)
                          refine W.eq (g2 := F0 m 199 ls []) rfl ?_
                          have hE9 : cW ad cy (pm) (rj) (f_rdSign σ x) = cW ad cy (pm) (rj) (f_rdPart σ x i) := by exact cW_eq rfl (by first | (rw [c_15]; simp [f_rdPart]; done) | (rw [c_15]; simp [f_rdPart, b2i, c_15]; done) | (simp only [f_rdPart]; simp [b2i, c_15]; done))
                          have hP : va_P D vwCl (cW ad cy (pm) (rj) (f_rdPart σ x i)) H := by rw [← hE9]; exact hP
                          exact W.vret hx hb hr (fun T9 hT9 _ => ⟨rfl, by rw [hT9]; exact hP, hS.F hT9⟩) hS.2.2 dX6_readPart_199
                        · skip
                          by_cases c_16 : x = 111
                          · refine lv_tableIn (off := 193) (tgt := 194) hx hb dX6_readPart_1 (by rw [c_16]; decide +kernel) (by rw [c_16]; decide +kernel) (by rw [c_16]; decide +kernel) (by decide) ?_
                            refine lv_aload_n hx hb dX6_readPart_194 rfl (lv_at hl 0 rfl) ?_
                            refine lv_iload_n hx hb dX6_readPart_195 rfl (lv_at hl 1 rfl) ?_
                            refine sp_callm (va_runV (As := [.int (x)]) (rest := []) ⟨hx, hb, hml, hown, hts⟩ (c_X6_readSign l D ad cy pm rj σ _ hi x) (cwV 1 hts gX6_readPart_X6_readSign rfl rfl rfl (by decide +kernel) ⟨Nat.le_of_ble_eq_true rfl, Nat.le_of_ble_eq_true rfl⟩) (sp_preVm hK hP (κ := 433) (by decide) cE_script rfl) rfl rfl hl.1 rfl (lv_room (Nat.le_of_ble_eq_true rfl)) dX6_readPart_196 ⟨Nat.le_of_ble_eq_true rfl, Nat.le_of_ble_eq_true rfl⟩) hS (fun q h1 h2 => sp_Alt h1 h2) (sp_Ale hS.1) (fun H locs hP hle hfr hS => ?_)
                            refine W.eq (g2 := F0 m 199 ls []) rfl ?_
                            have hE9 : cW ad cy (pm) (rj) (f_rdSign σ x) = cW ad cy (pm) (rj) (f_rdPart σ x i) := by exact cW_eq rfl (by first | (rw [c_16]; simp [f_rdPart]; done) | (rw [c_16]; simp [f_rdPart, b2i, c_16]; done) | (simp only [f_rdPart]; simp [b2i, c_16]; done))
                            have hP : va_P D vwCl (cW ad cy (pm) (rj) (f_rdPart σ x i)) H := by rw [← hE9]; exact hP
                            exact W.vret hx hb hr (fun T9 hT9 _ => ⟨rfl, by rw [hT9]; exact hP, hS.F hT9⟩) hS.2.2 dX6_readPart_199
                          · skip
                            by_cases c_17 : x = 112
                            · refine lv_tableIn (off := 193) (tgt := 194) hx hb dX6_readPart_1 (by rw [c_17]; decide +kernel) (by rw [c_17]; decide +kernel) (by rw [c_17]; decide +kernel) (by decide) ?_
                              refine lv_aload_n hx hb dX6_readPart_194 rfl (lv_at hl 0 rfl) ?_
                              refine lv_iload_n hx hb dX6_readPart_195 rfl (lv_at hl 1 rfl) ?_
                              refine sp_callm (va_runV (As := [.int (x)]) (rest := []) ⟨hx, hb, hml, hown, hts⟩ (c_X6_readSign l D ad cy pm rj σ _ hi x) (cwV 1 hts gX6_readPart_X6_readSign rfl rfl rfl (by decide +kernel) ⟨Nat.le_of_ble_eq_true rfl, Nat.le_of_ble_eq_true rfl⟩) (sp_preVm hK hP (κ := 433) (by decide) cE_script rfl) rfl rfl hl.1 rfl (lv_room (Nat.le_of_ble_eq_true rfl)) dX6_readPart_196 ⟨Nat.le_of_ble_eq_true rfl, Nat.le_of_ble_eq_true rfl⟩) hS (fun q h1 h2 => sp_Alt h1 h2) (sp_Ale hS.1) (fun H locs hP hle hfr hS => ?_)
                              refine W.eq (g2 := F0 m 199 ls []) rfl ?_
                              have hE9 : cW ad cy (pm) (rj) (f_rdSign σ x) = cW ad cy (pm) (rj) (f_rdPart σ x i) := by exact cW_eq rfl (by first | (rw [c_17]; simp [f_rdPart]; done) | (rw [c_17]; simp [f_rdPart, b2i, c_17]; done) | (simp only [f_rdPart]; simp [b2i, c_17]; done))
                              have hP : va_P D vwCl (cW ad cy (pm) (rj) (f_rdPart σ x i)) H := by rw [← hE9]; exact hP
                              exact W.vret hx hb hr (fun T9 hT9 _ => ⟨rfl, by rw [hT9]; exact hP, hS.F hT9⟩) hS.2.2 dX6_readPart_199
                            · skip
                              by_cases c_18 : x = 113
                              · refine lv_tableIn (off := 193) (tgt := 194) hx hb dX6_readPart_1 (by rw [c_18]; decide +kernel) (by rw [c_18]; decide +kernel) (by rw [c_18]; decide +kernel) (by decide) ?_
                                refine lv_aload_n hx hb dX6_readPart_194 rfl (lv_at hl 0 rfl) ?_
                                refine lv_iload_n hx hb dX6_readPart_195 rfl (lv_at hl 1 rfl) ?_
                                refine sp_callm (va_runV (As := [.int (x)]) (rest := []) ⟨hx, hb, hml, hown, hts⟩ (c_X6_readSign l D ad cy pm rj σ _ hi x) (cwV 1 hts gX6_readPart_X6_readSign rfl rfl rfl (by decide +kernel) ⟨Nat.le_of_ble_eq_true rfl, Nat.le_of_ble_eq_true rfl⟩) (sp_preVm hK hP (κ := 433) (by decide) cE_script rfl) rfl rfl hl.1 rfl (lv_room (Nat.le_of_ble_eq_true rfl)) dX6_readPart_196 ⟨Nat.le_of_ble_eq_true rfl, Nat.le_of_ble_eq_true rfl⟩) hS (fun q h1 h2 => sp_Alt h1 h2) (sp_Ale hS.1) (fun H locs hP hle hfr hS => ?_)
                                refine W.eq (g2 := F0 m 199 ls []) rfl ?_
                                have hE9 : cW ad cy (pm) (rj) (f_rdSign σ x) = cW ad cy (pm) (rj) (f_rdPart σ x i) := by exact cW_eq rfl (by first | (rw [c_18]; simp [f_rdPart]; done) | (rw [c_18]; simp [f_rdPart, b2i, c_18]; done) | (simp only [f_rdPart]; simp [b2i, c_18]; done))
                                have hP : va_P D vwCl (cW ad cy (pm) (rj) (f_rdPart σ x i)) H := by rw [← hE9]; exact hP
                                exact W.vret hx hb hr (fun T9 hT9 _ => ⟨rfl, by rw [hT9]; exact hP, hS.F hT9⟩) hS.2.2 dX6_readPart_199
                              · skip
                                by_cases c_19 : x = 114
                                · refine lv_tableIn (off := 111) (tgt := 112) hx hb dX6_readPart_1 (by rw [c_19]; decide +kernel) (by rw [c_19]; decide +kernel) (by rw [c_19]; decide +kernel) (by decide) ?_
                                  refine lv_aload_n hx hb dX6_readPart_112 rfl (lv_at hl 2 rfl) ?_
                                  refine lv_aload_n hx hb dX6_readPart_113 rfl (lv_at hl 0 rfl) ?_
                                  refine lv_iconst (v := 3) hx hb dX6_readPart_114 (by decide) ?_
                                  refine sp_callm (va_runV (As := [.int (3)]) (rest := [.ref (ad (439 + i))]) ⟨hx, hb, hml, hown, hts⟩ (c_X6_readNumber l D ad cy pm rj σ _ hi 3 3 (rfl) (by decide)) (cwV 1 hts gX6_readPart_X6_readNumber rfl rfl rfl (by decide +kernel) ⟨Nat.le_of_ble_eq_true rfl, Nat.le_of_ble_eq_true rfl⟩) (sp_preVm hK hP (κ := 433) (by decide) cE_script rfl) rfl rfl hl.1 rfl (lv_room (Nat.le_of_ble_eq_true rfl)) dX6_readPart_115 ⟨Nat.le_of_ble_eq_true rfl, Nat.le_of_ble_eq_true rfl⟩) hS (fun q h1 h2 => sp_Alt h1 h2) (sp_Ale hS.1) (fun H locs hP hle hfr hS => ?_)
                                  refine W.eq (g2 := F0 m 118 ls [.int (f_rdNumV σ 3), .ref (ad (439 + i))]) rfl ?_
                                  refine sp_put hx hb hts wi_X6_readPart_X1 tyX1 tyX1_ok nmX1 hown hK hP hi hAk hS (κ := 439 + i) (by omega) (cE_cmd (by omega)) rfl 3 (by decide) (hts _ (List.mem_of_getElem? (i := 3) rfl)) (fun _ h => h) rfl (ty := tyX1 3) (by decide +kernel) ⟨rfl, rfl⟩ (Nat.le_of_ble_eq_true rfl) (r1 := upd ((f_rdNum σ 3) (439 + i)) 3 (f_rdNumV σ 3)) (cE_of (cE_cmd (by omega)) (by simp [upd])) dX6_readPart_118 (fun H locs hP hS => ?_)
                                  have hP : va_P D vwCl (cW ad cy pm rj (sp_st (f_rdNum σ 3) (439 + i) 3 (f_rdNumV σ 3))) H := hP
                                  refine lv_goto (tgt := 199) hx hb dX6_readPart_121 (by decide) ?_
                                  have hE9 : cW ad cy (pm) (rj) (sp_st (f_rdNum σ 3) (439 + i) 3 (f_rdNumV σ 3)) = cW ad cy (pm) (rj) (f_rdPart σ x i) := by exact cW_eq rfl (by first | (rw [c_19]; simp [f_rdPart]; done) | (rw [c_19]; simp [f_rdPart, b2i, c_19]; done) | (simp only [f_rdPart]; simp [b2i, c_19]; done))
                                  have hP : va_P D vwCl (cW ad cy (pm) (rj) (f_rdPart σ x i)) H := by rw [← hE9]; exact hP
                                  exact W.vret hx hb hr (fun T9 hT9 _ => ⟨rfl, by rw [hT9]; exact hP, hS.F hT9⟩) hS.2.2 dX6_readPart_199
                                · skip
                                  by_cases c_20 : x = 115
                                  · refine lv_tableIn (off := 193) (tgt := 194) hx hb dX6_readPart_1 (by rw [c_20]; decide +kernel) (by rw [c_20]; decide +kernel) (by rw [c_20]; decide +kernel) (by decide) ?_
                                    refine lv_aload_n hx hb dX6_readPart_194 rfl (lv_at hl 0 rfl) ?_
                                    refine lv_iload_n hx hb dX6_readPart_195 rfl (lv_at hl 1 rfl) ?_
                                    refine sp_callm (va_runV (As := [.int (x)]) (rest := []) ⟨hx, hb, hml, hown, hts⟩ (c_X6_readSign l D ad cy pm rj σ _ hi x) (cwV 1 hts gX6_readPart_X6_readSign rfl rfl rfl (by decide +kernel) ⟨Nat.le_of_ble_eq_true rfl, Nat.le_of_ble_eq_true rfl⟩) (sp_preVm hK hP (κ := 433) (by decide) cE_script rfl) rfl rfl hl.1 rfl (lv_room (Nat.le_of_ble_eq_true rfl)) dX6_readPart_196 ⟨Nat.le_of_ble_eq_true rfl, Nat.le_of_ble_eq_true rfl⟩) hS (fun q h1 h2 => sp_Alt h1 h2) (sp_Ale hS.1) (fun H locs hP hle hfr hS => ?_)
                                    refine W.eq (g2 := F0 m 199 ls []) rfl ?_
                                    have hE9 : cW ad cy (pm) (rj) (f_rdSign σ x) = cW ad cy (pm) (rj) (f_rdPart σ x i) := by exact cW_eq rfl (by first | (rw [c_20]; simp [f_rdPart]; done) | (rw [c_20]; simp [f_rdPart, b2i, c_20]; done) | (simp only [f_rdPart]; simp [b2i, c_20]; done))
                                    have hP : va_P D vwCl (cW ad cy (pm) (rj) (f_rdPart σ x i)) H := by rw [← hE9]; exact hP
                                    exact W.vret hx hb hr (fun T9 hT9 _ => ⟨rfl, by rw [hT9]; exact hP, hS.F hT9⟩) hS.2.2 dX6_readPart_199
                                  · skip
                                    by_cases c_21 : x = 116
                                    · refine lv_tableIn (off := 99) (tgt := 100) hx hb dX6_readPart_1 (by rw [c_21]; decide +kernel) (by rw [c_21]; decide +kernel) (by rw [c_21]; decide +kernel) (by decide) ?_
                                      refine lv_aload_n hx hb dX6_readPart_100 rfl (lv_at hl 2 rfl) ?_
                                      refine lv_aload_n hx hb dX6_readPart_101 rfl (lv_at hl 0 rfl) ?_
                                      refine lv_iconst (v := 3) hx hb dX6_readPart_102 (by decide) ?_
                                      refine sp_callm (va_runV (As := [.int (3)]) (rest := [.ref (ad (439 + i))]) ⟨hx, hb, hml, hown, hts⟩ (c_X6_readNumber l D ad cy pm rj σ _ hi 3 3 (rfl) (by decide)) (cwV 1 hts gX6_readPart_X6_readNumber rfl rfl rfl (by decide +kernel) ⟨Nat.le_of_ble_eq_true rfl, Nat.le_of_ble_eq_true rfl⟩) (sp_preVm hK hP (κ := 433) (by decide) cE_script rfl) rfl rfl hl.1 rfl (lv_room (Nat.le_of_ble_eq_true rfl)) dX6_readPart_103 ⟨Nat.le_of_ble_eq_true rfl, Nat.le_of_ble_eq_true rfl⟩) hS (fun q h1 h2 => sp_Alt h1 h2) (sp_Ale hS.1) (fun H locs hP hle hfr hS => ?_)
                                      refine W.eq (g2 := F0 m 106 ls [.int (f_rdNumV σ 3), .ref (ad (439 + i))]) rfl ?_
                                      refine sp_put hx hb hts wi_X6_readPart_X1 tyX1 tyX1_ok nmX1 hown hK hP hi hAk hS (κ := 439 + i) (by omega) (cE_cmd (by omega)) rfl 2 (by decide) (hts _ (List.mem_of_getElem? (i := 2) rfl)) (fun _ h => h) rfl (ty := tyX1 2) (by decide +kernel) ⟨rfl, rfl⟩ (Nat.le_of_ble_eq_true rfl) (r1 := upd ((f_rdNum σ 3) (439 + i)) 2 (f_rdNumV σ 3)) (cE_of (cE_cmd (by omega)) (by simp [upd])) dX6_readPart_106 (fun H locs hP hS => ?_)
                                      have hP : va_P D vwCl (cW ad cy pm rj (sp_st (f_rdNum σ 3) (439 + i) 2 (f_rdNumV σ 3))) H := hP
                                      refine lv_goto (tgt := 199) hx hb dX6_readPart_109 (by decide) ?_
                                      have hE9 : cW ad cy (pm) (rj) (sp_st (f_rdNum σ 3) (439 + i) 2 (f_rdNumV σ 3)) = cW ad cy (pm) (rj) (f_rdPart σ x i) := by exact cW_eq rfl (by first | (rw [c_21]; simp [f_rdPart]; done) | (rw [c_21]; simp [f_rdPart, b2i, c_21]; done) | (simp only [f_rdPart]; simp [b2i, c_21]; done))
                                      have hP : va_P D vwCl (cW ad cy (pm) (rj) (f_rdPart σ x i)) H := by rw [← hE9]; exact hP
                                      exact W.vret hx hb hr (fun T9 hT9 _ => ⟨rfl, by rw [hT9]; exact hP, hS.F hT9⟩) hS.2.2 dX6_readPart_199
                                    · skip
                                      have c_1T := lv_neT (a := 99) c_1 (by decide +kernel)
                                      have c_2T := lv_neT (a := 100) c_2 (by decide +kernel)
                                      have c_3T := lv_neT (a := 101) c_3 (by decide +kernel)
                                      have c_4T := lv_neT (a := 102) c_4 (by decide +kernel)
                                      have c_8T := lv_neT (a := 103) c_8 (by decide +kernel)
                                      have c_9T := lv_neT (a := 104) c_9 (by decide +kernel)
                                      have c_10T := lv_neT (a := 105) c_10 (by decide +kernel)
                                      have c_11T := lv_neT (a := 106) c_11 (by decide +kernel)
                                      have c_12T := lv_neT (a := 107) c_12 (by decide +kernel)
                                      have c_13T := lv_neT (a := 108) c_13 (by decide +kernel)
                                      have c_14T := lv_neT (a := 109) c_14 (by decide +kernel)
                                      have c_15T := lv_neT (a := 110) c_15 (by decide +kernel)
                                      have c_16T := lv_neT (a := 111) c_16 (by decide +kernel)
                                      have c_17T := lv_neT (a := 112) c_17 (by decide +kernel)
                                      have c_18T := lv_neT (a := 113) c_18 (by decide +kernel)
                                      have c_19T := lv_neT (a := 114) c_19 (by decide +kernel)
                                      have c_20T := lv_neT (a := 115) c_20 (by decide +kernel)
                                      have c_21T := lv_neT (a := 116) c_21 (by decide +kernel)
                                      refine lv_tableOut (tgt := 194) hx hb dX6_readPart_1 (by omega) (by decide) ?_
                                      refine lv_aload_n hx hb dX6_readPart_194 rfl (lv_at hl 0 rfl) ?_
                                      refine lv_iload_n hx hb dX6_readPart_195 rfl (lv_at hl 1 rfl) ?_
                                      refine sp_callm (va_runV (As := [.int (x)]) (rest := []) ⟨hx, hb, hml, hown, hts⟩ (c_X6_readSign l D ad cy pm rj σ _ hi x) (cwV 1 hts gX6_readPart_X6_readSign rfl rfl rfl (by decide +kernel) ⟨Nat.le_of_ble_eq_true rfl, Nat.le_of_ble_eq_true rfl⟩) (sp_preVm hK hP (κ := 433) (by decide) cE_script rfl) rfl rfl hl.1 rfl (lv_room (Nat.le_of_ble_eq_true rfl)) dX6_readPart_196 ⟨Nat.le_of_ble_eq_true rfl, Nat.le_of_ble_eq_true rfl⟩) hS (fun q h1 h2 => sp_Alt h1 h2) (sp_Ale hS.1) (fun H locs hP hle hfr hS => ?_)
                                      refine W.eq (g2 := F0 m 199 ls []) rfl ?_
                                      have hE9 : cW ad cy (pm) (rj) (f_rdSign σ x) = cW ad cy (pm) (rj) (f_rdPart σ x i) := by exact cW_eq rfl (by first | (rw [hl]; simp [f_rdPart]; done) | (rw [hl]; simp [f_rdPart, b2i, c_1, c_2, c_3, c_4, c_8, c_9, c_10, c_11, c_12, c_13, c_14, c_15, c_16, c_17, c_18, c_19, c_20, c_21]; done) | (simp only [f_rdPart]; simp [b2i, c_1, c_2, c_3, c_4, c_8, c_9, c_10, c_11, c_12, c_13, c_14, c_15, c_16, c_17, c_18, c_19, c_20, c_21]; done))
                                      have hP : va_P D vwCl (cW ad cy (pm) (rj) (f_rdPart σ x i)) H := by rw [← hE9]; exact hP
                                      exact W.vret hx hb hr (fun T9 hT9 _ => ⟨rfl, by rw [hT9]; exact hP, hS.F hT9⟩) hS.2.2 dX6_readPart_199

set_option maxHeartbeats 20000000 in
set_option maxRecDepth 100000 in
theorem c_X6_partsBehind (l : Launch) (D : va_G) (ad : Nat → Nat) (cy : Nat → ClassId) (pm : Nat → Nat) (rj : Option Nat) (σ : Nat → Nat → Int32) (xq : Nat → Nat) (x : Int32) : Met l yX6_partsBehind wsX6_partsBehind ({ frames := 0, cells := 0, slots := 0, locals := 0 } : Room) (sp_Px xq ad 459 D (tyG cy) [.int (x)] (cW ad cy pm rj σ)) (sp_S (some (.ref (xq (f_parts x))))) 0 0 (fun _ => False) := by
  refine Met.ofW (cc := cX6_partsBehind) (maxL := 1) (ret := (some (.object "java/lang/String"))) (by decide) rfl ?_
  intro p e s m args below meth c s₁ B hml hv
  obtain ⟨rfl, hP, hK, hE⟩ := hv
  have hx := B.exec
  have hb := B.bytes
  have hr := B.returns
  have hts := atoms_spec (ws := wsX6_partsBehind) B.pre
  have hown : s.vm.findClass RX6 = some m.cls := findClass_of_methodNamed B.named
  have hlocks := B.notSynchronized
  have hS : va_S (sp_A ad 459 s.heap.size) s.heap s.heap [] := va_S.rf
  have hl := lv_entry ([.int (x)]) (n := 1) (Nat.le_of_ble_eq_true rfl)
  refine W.eq (lg_entry_eq _ ([.int (x)]) _) ?_
  generalize (lg_sl ([.int (x)]) ++ List.replicate (1 - (lg_sl ([.int (x)])).length) Slot.unset).toArray = ls at hl ⊢
  have hl : lv_has ls 1 [(0, .int (x))] := hl
  refine lv_iload_n hx hb dX6_partsBehind_0 rfl (lv_at hl 0 rfl) ?_
  by_cases c_1 : x = 67
  · refine lv_tableIn (off := 112) (tgt := 113) hx hb dX6_partsBehind_1 (by rw [c_1]; decide +kernel) (by rw [c_1]; decide +kernel) (by rw [c_1]; decide +kernel) (by decide) ?_
    refine va_ldcS hx hb hown hE.t3 dX6_partsBehind_113 ?_
    exact W.aret (v := .ref (xq 3)) (rt := (.object "java/lang/String")) hx hb hr (Or.inl ⟨_, rfl⟩) (Or.inr ⟨_, rfl⟩) (fun T9 hT9 _ => ⟨by rw [show f_parts x = 3 from (by first | (rw [c_1]; decide +kernel) | (simp [f_parts, b2i, c_1]; done))], hT9⟩) (fun _ h => by cases h) dX6_partsBehind_115
  · skip
    by_cases c_2 : x = 68
    · refine lv_tableIn (off := 112) (tgt := 113) hx hb dX6_partsBehind_1 (by rw [c_2]; decide +kernel) (by rw [c_2]; decide +kernel) (by rw [c_2]; decide +kernel) (by decide) ?_
      refine va_ldcS hx hb hown hE.t3 dX6_partsBehind_113 ?_
      exact W.aret (v := .ref (xq 3)) (rt := (.object "java/lang/String")) hx hb hr (Or.inl ⟨_, rfl⟩) (Or.inr ⟨_, rfl⟩) (fun T9 hT9 _ => ⟨by rw [show f_parts x = 3 from (by first | (rw [c_2]; decide +kernel) | (simp [f_parts, b2i, c_2]; done))], hT9⟩) (fun _ h => by cases h) dX6_partsBehind_115
    · skip
      by_cases c_3 : x = 69
      · refine lv_tableIn (off := 115) (tgt := 116) hx hb dX6_partsBehind_1 (by rw [c_3]; decide +kernel) (by rw [c_3]; decide +kernel) (by rw [c_3]; decide +kernel) (by decide) ?_
        refine va_ldcS hx hb hown hE.t4 dX6_partsBehind_116 ?_
        exact W.aret (v := .ref (xq 4)) (rt := (.object "java/lang/String")) hx hb hr (Or.inl ⟨_, rfl⟩) (Or.inr ⟨_, rfl⟩) (fun T9 hT9 _ => ⟨by rw [show f_parts x = 4 from (by first | (rw [c_3]; decide +kernel) | (simp [f_parts, b2i, c_3]; done))], hT9⟩) (fun _ h => by cases h) dX6_partsBehind_118
      · skip
        by_cases c_4 : x = 70
        · refine lv_tableIn (off := 112) (tgt := 113) hx hb dX6_partsBehind_1 (by rw [c_4]; decide +kernel) (by rw [c_4]; decide +kernel) (by rw [c_4]; decide +kernel) (by decide) ?_
          refine va_ldcS hx hb hown hE.t3 dX6_partsBehind_113 ?_
          exact W.aret (v := .ref (xq 3)) (rt := (.object "java/lang/String")) hx hb hr (Or.inl ⟨_, rfl⟩) (Or.inr ⟨_, rfl⟩) (fun T9 hT9 _ => ⟨by rw [show f_parts x = 3 from (by first | (rw [c_4]; decide +kernel) | (simp [f_parts, b2i, c_4]; done))], hT9⟩) (fun _ h => by cases h) dX6_partsBehind_115
        · skip
          by_cases c_5 : x = 71
          · refine lv_tableIn (off := 115) (tgt := 116) hx hb dX6_partsBehind_1 (by rw [c_5]; decide +kernel) (by rw [c_5]; decide +kernel) (by rw [c_5]; decide +kernel) (by decide) ?_
            refine va_ldcS hx hb hown hE.t4 dX6_partsBehind_116 ?_
            exact W.aret (v := .ref (xq 4)) (rt := (.object "java/lang/String")) hx hb hr (Or.inl ⟨_, rfl⟩) (Or.inr ⟨_, rfl⟩) (fun T9 hT9 _ => ⟨by rw [show f_parts x = 4 from (by first | (rw [c_5]; decide +kernel) | (simp [f_parts, b2i, c_5]; done))], hT9⟩) (fun _ h => by cases h) dX6_partsBehind_118
          · skip
            by_cases c_6 : x = 72
            · refine lv_tableIn (off := 109) (tgt := 110) hx hb dX6_partsBehind_1 (by rw [c_6]; decide +kernel) (by rw [c_6]; decide +kernel) (by rw [c_6]; decide +kernel) (by decide) ?_
              refine va_ldcS hx hb hown hE.t2 dX6_partsBehind_110 ?_
              exact W.aret (v := .ref (xq 2)) (rt := (.object "java/lang/String")) hx hb hr (Or.inl ⟨_, rfl⟩) (Or.inr ⟨_, rfl⟩) (fun T9 hT9 _ => ⟨by rw [show f_parts x = 2 from (by first | (rw [c_6]; decide +kernel) | (simp [f_parts, b2i, c_6]; done))], hT9⟩) (fun _ h => by cases h) dX6_partsBehind_112
            · skip
              by_cases c_7 : x = 73
              · refine lv_tableIn (off := 115) (tgt := 116) hx hb dX6_partsBehind_1 (by rw [c_7]; decide +kernel) (by rw [c_7]; decide +kernel) (by rw [c_7]; decide +kernel) (by decide) ?_
                refine va_ldcS hx hb hown hE.t4 dX6_partsBehind_116 ?_
                exact W.aret (v := .ref (xq 4)) (rt := (.object "java/lang/String")) hx hb hr (Or.inl ⟨_, rfl⟩) (Or.inr ⟨_, rfl⟩) (fun T9 hT9 _ => ⟨by rw [show f_parts x = 4 from (by first | (rw [c_7]; decide +kernel) | (simp [f_parts, b2i, c_7]; done))], hT9⟩) (fun _ h => by cases h) dX6_partsBehind_118
              · skip
                by_cases c_8 : x = 74
                · refine lv_tableIn (off := 115) (tgt := 116) hx hb dX6_partsBehind_1 (by rw [c_8]; decide +kernel) (by rw [c_8]; decide +kernel) (by rw [c_8]; decide +kernel) (by decide) ?_
                  refine va_ldcS hx hb hown hE.t4 dX6_partsBehind_116 ?_
                  exact W.aret (v := .ref (xq 4)) (rt := (.object "java/lang/String")) hx hb hr (Or.inl ⟨_, rfl⟩) (Or.inr ⟨_, rfl⟩) (fun T9 hT9 _ => ⟨by rw [show f_parts x = 4 from (by first | (rw [c_8]; decide +kernel) | (simp [f_parts, b2i, c_8]; done))], hT9⟩) (fun _ h => by cases h) dX6_partsBehind_118
                · skip
                  by_cases c_9 : x = 75
                  · refine lv_tableIn (off := 115) (tgt := 116) hx hb dX6_partsBehind_1 (by rw [c_9]; decide +kernel) (by rw [c_9]; decide +kernel) (by rw [c_9]; decide +kernel) (by decide) ?_
                    refine va_ldcS hx hb hown hE.t4 dX6_partsBehind_116 ?_
                    exact W.aret (v := .ref (xq 4)) (rt := (.object "java/lang/String")) hx hb hr (Or.inl ⟨_, rfl⟩) (Or.inr ⟨_, rfl⟩) (fun T9 hT9 _ => ⟨by rw [show f_parts x = 4 from (by first | (rw [c_9]; decide +kernel) | (simp [f_parts, b2i, c_9]; done))], hT9⟩) (fun _ h => by cases h) dX6_partsBehind_118
                  · skip
                    by_cases c_10 : x = 76
                    · refine lv_tableIn (off := 115) (tgt := 116) hx hb dX6_partsBehind_1 (by rw [c_10]; decide +kernel) (by rw [c_10]; decide +kernel) (by rw [c_10]; decide +kernel) (by decide) ?_
                      refine va_ldcS hx hb hown hE.t4 dX6_partsBehind_116 ?_
                      exact W.aret (v := .ref (xq 4)) (rt := (.object "java/lang/String")) hx hb hr (Or.inl ⟨_, rfl⟩) (Or.inr ⟨_, rfl⟩) (fun T9 hT9 _ => ⟨by rw [show f_parts x = 4 from (by first | (rw [c_10]; decide +kernel) | (simp [f_parts, b2i, c_10]; done))], hT9⟩) (fun _ h => by cases h) dX6_partsBehind_118
                    · skip
                      by_cases c_11 : x = 77
                      · refine lv_tableIn (off := 115) (tgt := 116) hx hb dX6_partsBehind_1 (by rw [c_11]; decide +kernel) (by rw [c_11]; decide +kernel) (by rw [c_11]; decide +kernel) (by decide) ?_
                        refine va_ldcS hx hb hown hE.t4 dX6_partsBehind_116 ?_
                        exact W.aret (v := .ref (xq 4)) (rt := (.object "java/lang/String")) hx hb hr (Or.inl ⟨_, rfl⟩) (Or.inr ⟨_, rfl⟩) (fun T9 hT9 _ => ⟨by rw [show f_parts x = 4 from (by first | (rw [c_11]; decide +kernel) | (simp [f_parts, b2i, c_11]; done))], hT9⟩) (fun _ h => by cases h) dX6_partsBehind_118
                      · skip
                        by_cases c_12 : x = 78
                        · refine lv_tableIn (off := 115) (tgt := 116) hx hb dX6_partsBehind_1 (by rw [c_12]; decide +kernel) (by rw [c_12]; decide +kernel) (by rw [c_12]; decide +kernel) (by decide) ?_
                          refine va_ldcS hx hb hown hE.t4 dX6_partsBehind_116 ?_
                          exact W.aret (v := .ref (xq 4)) (rt := (.object "java/lang/String")) hx hb hr (Or.inl ⟨_, rfl⟩) (Or.inr ⟨_, rfl⟩) (fun T9 hT9 _ => ⟨by rw [show f_parts x = 4 from (by first | (rw [c_12]; decide +kernel) | (simp [f_parts, b2i, c_12]; done))], hT9⟩) (fun _ h => by cases h) dX6_partsBehind_118
                        · skip
                          by_cases c_13 : x = 79
                          · refine lv_tableIn (off := 115) (tgt := 116) hx hb dX6_partsBehind_1 (by rw [c_13]; decide +kernel) (by rw [c_13]; decide +kernel) (by rw [c_13]; decide +kernel) (by decide) ?_
                            refine va_ldcS hx hb hown hE.t4 dX6_partsBehind_116 ?_
                            exact W.aret (v := .ref (xq 4)) (rt := (.object "java/lang/String")) hx hb hr (Or.inl ⟨_, rfl⟩) (Or.inr ⟨_, rfl⟩) (fun T9 hT9 _ => ⟨by rw [show f_parts x = 4 from (by first | (rw [c_13]; decide +kernel) | (simp [f_parts, b2i, c_13]; done))], hT9⟩) (fun _ h => by cases h) dX6_partsBehind_118
                          · skip
                            by_cases c_14 : x = 80
                            · refine lv_tableIn (off := 106) (tgt := 107) hx hb dX6_partsBehind_1 (by rw [c_14]; decide +kernel) (by rw [c_14]; decide +kernel) (by rw [c_14]; decide +kernel) (by decide) ?_
                              refine va_ldcS hx hb hown hE.t1 dX6_partsBehind_107 ?_
                              exact W.aret (v := .ref (xq 1)) (rt := (.object "java/lang/String")) hx hb hr (Or.inl ⟨_, rfl⟩) (Or.inr ⟨_, rfl⟩) (fun T9 hT9 _ => ⟨by rw [show f_parts x = 1 from (by first | (rw [c_14]; decide +kernel) | (simp [f_parts, b2i, c_14]; done))], hT9⟩) (fun _ h => by cases h) dX6_partsBehind_109
                            · skip
                              by_cases c_15 : x = 81
                              · refine lv_tableIn (off := 115) (tgt := 116) hx hb dX6_partsBehind_1 (by rw [c_15]; decide +kernel) (by rw [c_15]; decide +kernel) (by rw [c_15]; decide +kernel) (by decide) ?_
                                refine va_ldcS hx hb hown hE.t4 dX6_partsBehind_116 ?_
                                exact W.aret (v := .ref (xq 4)) (rt := (.object "java/lang/String")) hx hb hr (Or.inl ⟨_, rfl⟩) (Or.inr ⟨_, rfl⟩) (fun T9 hT9 _ => ⟨by rw [show f_parts x = 4 from (by first | (rw [c_15]; decide +kernel) | (simp [f_parts, b2i, c_15]; done))], hT9⟩) (fun _ h => by cases h) dX6_partsBehind_118
                              · skip
                                by_cases c_16 : x = 82
                                · refine lv_tableIn (off := 115) (tgt := 116) hx hb dX6_partsBehind_1 (by rw [c_16]; decide +kernel) (by rw [c_16]; decide +kernel) (by rw [c_16]; decide +kernel) (by decide) ?_
                                  refine va_ldcS hx hb hown hE.t4 dX6_partsBehind_116 ?_
                                  exact W.aret (v := .ref (xq 4)) (rt := (.object "java/lang/String")) hx hb hr (Or.inl ⟨_, rfl⟩) (Or.inr ⟨_, rfl⟩) (fun T9 hT9 _ => ⟨by rw [show f_parts x = 4 from (by first | (rw [c_16]; decide +kernel) | (simp [f_parts, b2i, c_16]; done))], hT9⟩) (fun _ h => by cases h) dX6_partsBehind_118
                                · skip
                                  by_cases c_17 : x = 83
                                  · refine lv_tableIn (off := 115) (tgt := 116) hx hb dX6_partsBehind_1 (by rw [c_17]; decide +kernel) (by rw [c_17]; decide +kernel) (by rw [c_17]; decide +kernel) (by decide) ?_
                                    refine va_ldcS hx hb hown hE.t4 dX6_partsBehind_116 ?_
                                    exact W.aret (v := .ref (xq 4)) (rt := (.object "java/lang/String")) hx hb hr (Or.inl ⟨_, rfl⟩) (Or.inr ⟨_, rfl⟩) (fun T9 hT9 _ => ⟨by rw [show f_parts x = 4 from (by first | (rw [c_17]; decide +kernel) | (simp [f_parts, b2i, c_17]; done))], hT9⟩) (fun _ h => by cases h) dX6_partsBehind_118
                                  · skip
                                    by_cases c_18 : x = 84
                                    · refine lv_tableIn (off := 103) (tgt := 104) hx hb dX6_partsBehind_1 (by rw [c_18]; decide +kernel) (by rw [c_18]; decide +kernel) (by rw [c_18]; decide +kernel) (by decide) ?_
                                      refine va_ldcS hx hb hown hE.t0 dX6_partsBehind_104 ?_
                                      exact W.aret (v := .ref (xq 0)) (rt := (.object "java/lang/String")) hx hb hr (Or.inl ⟨_, rfl⟩) (Or.inr ⟨_, rfl⟩) (fun T9 hT9 _ => ⟨by rw [show f_parts x = 0 from (by first | (rw [c_18]; decide +kernel) | (simp [f_parts, b2i, c_18]; done))], hT9⟩) (fun _ h => by cases h) dX6_partsBehind_106
                                    · skip
                                      by_cases c_19 : x = 85
                                      · refine lv_tableIn (off := 115) (tgt := 116) hx hb dX6_partsBehind_1 (by rw [c_19]; decide +kernel) (by rw [c_19]; decide +kernel) (by rw [c_19]; decide +kernel) (by decide) ?_
                                        refine va_ldcS hx hb hown hE.t4 dX6_partsBehind_116 ?_
                                        exact W.aret (v := .ref (xq 4)) (rt := (.object "java/lang/String")) hx hb hr (Or.inl ⟨_, rfl⟩) (Or.inr ⟨_, rfl⟩) (fun T9 hT9 _ => ⟨by rw [show f_parts x = 4 from (by first | (rw [c_19]; decide +kernel) | (simp [f_parts, b2i, c_19]; done))], hT9⟩) (fun _ h => by cases h) dX6_partsBehind_118
                                      · skip
                                        by_cases c_20 : x = 86
                                        · refine lv_tableIn (off := 115) (tgt := 116) hx hb dX6_partsBehind_1 (by rw [c_20]; decide +kernel) (by rw [c_20]; decide +kernel) (by rw [c_20]; decide +kernel) (by decide) ?_
                                          refine va_ldcS hx hb hown hE.t4 dX6_partsBehind_116 ?_
                                          exact W.aret (v := .ref (xq 4)) (rt := (.object "java/lang/String")) hx hb hr (Or.inl ⟨_, rfl⟩) (Or.inr ⟨_, rfl⟩) (fun T9 hT9 _ => ⟨by rw [show f_parts x = 4 from (by first | (rw [c_20]; decide +kernel) | (simp [f_parts, b2i, c_20]; done))], hT9⟩) (fun _ h => by cases h) dX6_partsBehind_118
                                        · skip
                                          by_cases c_21 : x = 87
                                          · refine lv_tableIn (off := 103) (tgt := 104) hx hb dX6_partsBehind_1 (by rw [c_21]; decide +kernel) (by rw [c_21]; decide +kernel) (by rw [c_21]; decide +kernel) (by decide) ?_
                                            refine va_ldcS hx hb hown hE.t0 dX6_partsBehind_104 ?_
                                            exact W.aret (v := .ref (xq 0)) (rt := (.object "java/lang/String")) hx hb hr (Or.inl ⟨_, rfl⟩) (Or.inr ⟨_, rfl⟩) (fun T9 hT9 _ => ⟨by rw [show f_parts x = 0 from (by first | (rw [c_21]; decide +kernel) | (simp [f_parts, b2i, c_21]; done))], hT9⟩) (fun _ h => by cases h) dX6_partsBehind_106
                                          · skip
                                            by_cases c_22 : x = 88
                                            · refine lv_tableIn (off := 112) (tgt := 113) hx hb dX6_partsBehind_1 (by rw [c_22]; decide +kernel) (by rw [c_22]; decide +kernel) (by rw [c_22]; decide +kernel) (by decide) ?_
                                              refine va_ldcS hx hb hown hE.t3 dX6_partsBehind_113 ?_
                                              exact W.aret (v := .ref (xq 3)) (rt := (.object "java/lang/String")) hx hb hr (Or.inl ⟨_, rfl⟩) (Or.inr ⟨_, rfl⟩) (fun T9 hT9 _ => ⟨by rw [show f_parts x = 3 from (by first | (rw [c_22]; decide +kernel) | (simp [f_parts, b2i, c_22]; done))], hT9⟩) (fun _ h => by cases h) dX6_partsBehind_115
                                            · skip
                                              have c_1T := lv_neT (a := 67) c_1 (by decide +kernel)
                                              have c_2T := lv_neT (a := 68) c_2 (by decide +kernel)
                                              have c_3T := lv_neT (a := 69) c_3 (by decide +kernel)
                                              have c_4T := lv_neT (a := 70) c_4 (by decide +kernel)
                                              have c_5T := lv_neT (a := 71) c_5 (by decide +kernel)
                                              have c_6T := lv_neT (a := 72) c_6 (by decide +kernel)
                                              have c_7T := lv_neT (a := 73) c_7 (by decide +kernel)
                                              have c_8T := lv_neT (a := 74) c_8 (by decide +kernel)
                                              have c_9T := lv_neT (a := 75) c_9 (by decide +kernel)
                                              have c_10T := lv_neT (a := 76) c_10 (by decide +kernel)
                                              have c_11T := lv_neT (a := 77) c_11 (by decide +kernel)
                                              have c_12T := lv_neT (a := 78) c_12 (by decide +kernel)
                                              have c_13T := lv_neT (a := 79) c_13 (by decide +kernel)
                                              have c_14T := lv_neT (a := 80) c_14 (by decide +kernel)
                                              have c_15T := lv_neT (a := 81) c_15 (by decide +kernel)
                                              have c_16T := lv_neT (a := 82) c_16 (by decide +kernel)
                                              have c_17T := lv_neT (a := 83) c_17 (by decide +kernel)
                                              have c_18T := lv_neT (a := 84) c_18 (by decide +kernel)
                                              have c_19T := lv_neT (a := 85) c_19 (by decide +kernel)
                                              have c_20T := lv_neT (a := 86) c_20 (by decide +kernel)
                                              have c_21T := lv_neT (a := 87) c_21 (by decide +kernel)
                                              have c_22T := lv_neT (a := 88) c_22 (by decide +kernel)
                                              refine lv_tableOut (tgt := 116) hx hb dX6_partsBehind_1 (by omega) (by decide) ?_
                                              refine va_ldcS hx hb hown hE.t4 dX6_partsBehind_116 ?_
                                              exact W.aret (v := .ref (xq 4)) (rt := (.object "java/lang/String")) hx hb hr (Or.inl ⟨_, rfl⟩) (Or.inr ⟨_, rfl⟩) (fun T9 hT9 _ => ⟨by rw [show f_parts x = 4 from (by first | (rw [hl]; decide +kernel) | (simp [f_parts, b2i, c_1, c_2, c_3, c_4, c_5, c_6, c_7, c_8, c_9, c_10, c_11, c_12, c_13, c_14, c_15, c_16, c_17, c_18, c_19, c_20, c_21, c_22]; done))], hT9⟩) (fun _ h => by cases h) dX6_partsBehind_118

