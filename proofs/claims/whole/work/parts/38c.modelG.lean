theorem wi_X10_parse_X10 : ∀ w ∈ wsX100, w ∈ wsX10_parse := by decide +kernel
set_option maxHeartbeats 4000000 in
set_option maxRecDepth 100000 in
theorem c_X10_parse (l : Launch) (D : va_G) (am : Nat → Nat) (cy : Nat → ClassId) (μ : Nat → Nat → Int32) (sz : Nat) (hi : sp_inj am 5) (hty : MI μ) : Met l yX10_parse wsX10_parse ({ frames := 4, cells := 0, slots := 0, locals := 89 } : Room) (sp_Pm D (tyG cy) sz [.ref (am (0))] (mW am cy μ)) (sp_Q D (none) (mW am cy (m_parse μ)) (sp_A am 5 sz)) 0 0 (sp_A am 5 sz) := by
  refine Met.ofW (cc := cX10_parse) (maxL := 1) (ret := none) (by decide) rfl ?_
  intro p e s m args below meth c s₁ B hml hv
  obtain ⟨rfl, hsz, hP, hK⟩ := hv
  have hx := B.exec
  have hb := B.bytes
  have hr := B.returns
  have hts := atoms_spec (ws := wsX10_parse) B.pre
  have hown : s.vm.findClass RX10 = some m.cls := findClass_of_methodNamed B.named
  have hlocks := B.notSynchronized
  subst hsz
  have hS : va_S (sp_A am 5 s.heap.size) s.heap s.heap [] := va_S.rf
  have hAk : ∀ k, k < 5 → (sp_A am 5 s.heap.size) (am k) := fun k hk => Or.inl ⟨k, hk, rfl⟩
  skip
  have hl := lv_entry ([.ref (am (0))]) (n := 1) (Nat.le_of_ble_eq_true rfl)
  refine W.eq (lg_entry_eq _ ([.ref (am (0))]) _) ?_
  generalize (lg_sl ([.ref (am (0))]) ++ List.replicate (1 - (lg_sl ([.ref (am (0))])).length) Slot.unset).toArray = ls at hl ⊢
  have hl : lv_has ls 1 [(0, .ref (am (0)))] := hl
  refine lv_aload_n hx hb dX10_parse_0 rfl (lv_at hl 0 rfl) ?_
  refine lv_iconst (v := 0) hx hb dX10_parse_1 (by decide) ?_
  refine sp_put hx hb hts wi_X10_parse_X10 tyX10 tyX10_ok nmX10 hown hK hP hi hAk hS (κ := 0) (by decide) mE_0 rfl 13 (by decide) (hts _ (List.mem_of_getElem? (i := 1) rfl)) (fun _ h => h) rfl (ty := tyX10 13) (by decide +kernel) ⟨rfl, rfl⟩ (Nat.le_of_ble_eq_true rfl) (r1 := upd (μ 0) 13 0) (cE_of mE_0 (by simp [upd])) dX10_parse_2 (fun H locs hP hS => ?_)
  have hP : va_P D vwCl (mW am cy (sp_st μ 0 13 0)) H := hP
  refine lv_aload_n hx hb dX10_parse_5 rfl (lv_at hl 0 rfl) ?_
  refine lv_iconst (v := (-1)) hx hb dX10_parse_6 (by decide) ?_
  refine sp_put hx hb hts wi_X10_parse_X10 tyX10 tyX10_ok nmX10 hown hK hP hi hAk hS (κ := 0) (by decide) mE_0 rfl 14 (by decide) (hts _ (List.mem_of_getElem? (i := 2) rfl)) (fun _ h => h) rfl (ty := tyX10 14) (by decide +kernel) ⟨rfl, rfl⟩ (Nat.le_of_ble_eq_true rfl) (r1 := upd ((sp_st μ 0 13 0) 0) 14 (-1)) (cE_of mE_0 (by simp [upd])) dX10_parse_7 (fun H locs hP hS => ?_)
  have hP : va_P D vwCl (mW am cy (sp_st (sp_st μ 0 13 0) 0 14 (-1))) H := hP
  refine lv_aload_n hx hb dX10_parse_10 rfl (lv_at hl 0 rfl) ?_
  refine lv_iconst (v := 0) hx hb dX10_parse_11 (by decide) ?_
  refine sp_put hx hb hts wi_X10_parse_X10 tyX10 tyX10_ok nmX10 hown hK hP hi hAk hS (κ := 0) (by decide) mE_0 rfl 17 (by decide) (hts _ (List.mem_of_getElem? (i := 3) rfl)) (fun _ h => h) rfl (ty := tyX10 17) (by decide +kernel) ⟨rfl, rfl⟩ (Nat.le_of_ble_eq_true rfl) (r1 := upd ((sp_st (sp_st μ 0 13 0) 0 14 (-1)) 0) 17 0) (cE_of mE_0 (by simp [upd])) dX10_parse_12 (fun H locs hP hS => ?_)
  have hP : va_P D vwCl (mW am cy (sp_st (sp_st (sp_st μ 0 13 0) 0 14 (-1)) 0 17 0)) H := hP
  refine lv_aload_n hx hb dX10_parse_15 rfl (lv_at hl 0 rfl) ?_
  refine sp_callm (va_runV (As := []) (rest := []) ⟨hx, hb, hml, hown, hts⟩ (c_X10_command l D am cy (sp_st (sp_st (sp_st μ 0 13 0) 0 14 (-1)) 0 17 0) _ hi 0 (by rw [sp_st_s]; rfl) (by omega) (by exact MI_p0 hty)) (cwV 0 hts gX10_parse_X10_command rfl rfl rfl (by decide +kernel) ⟨Nat.le_of_ble_eq_true rfl, Nat.le_of_ble_eq_true rfl⟩) (sp_preVm hK hP (κ := 0) (by decide) mE_0 rfl) rfl rfl hl.1 rfl (lv_room (Nat.le_of_ble_eq_true rfl)) dX10_parse_16 ⟨Nat.le_of_ble_eq_true rfl, Nat.le_of_ble_eq_true rfl⟩) hS (fun q h1 h2 => sp_Alt h1 h2) (sp_Ale hS.1) (fun H locs hP hle hfr hS => ?_)
  refine W.eq (g2 := F0 m 19 ls []) rfl ?_
  have loop_19 : ∀ (fu i : Nat) (H : Heap) (locs : List Loc), (i ≤ 60) → (60 - i < fu) → (fstI (m_stp μ) i = none) → (MI (m_pl μ i)) → (m_pl μ i 0 17 = nI (i + 1)) → (i ≤ tn (m_pl μ i 0 13)) → (va_P D vwCl (mW am cy (m_pl μ i)) H) → (va_S (sp_A am 5 s.heap.size) s.heap H locs) → ∀ ls : Array Slot, lv_has ls 1 [(0, .ref (am (0)))] → W p l e (headSpec wsX10_parse ({ frames := 4, cells := 0, slots := 0, locals := 89 } : Room)).room s m ([.ref (am (0))] : List Value).toArray below meth c H locs 0 0 (MQ below (sp_Q D (none) (mW am cy (m_parse μ)) (sp_A am 5 s.heap.size)) ([.ref (am (0))] : List Value).toArray s 0 0 (sp_A am 5 s.heap.size)) (F0 m 19 ls []) := by
    intro fu
    induction fu with
    | zero => intro i H locs hle hlt hi_0 hi_1 hi_2 hi_3 hP hS ls hl; exact absurd hlt (Nat.not_lt_zero _)
    | succ fu ih =>
      intro i H locs hle hlt hi_0 hi_1 hi_2 hi_3 hP hS ls hl
      refine lv_aload_n hx hb dX10_parse_19 rfl (lv_at hl 0 rfl) ?_
      refine sp_get hx hb hts wi_X10_parse_X10 hown hK hP (κ := 0) (by decide) mE_0 rfl 14 (by decide) (hts _ (List.mem_of_getElem? (i := 2) rfl)) (fun _ h => h) rfl dX10_parse_20 ?_
      refine lv_if_ge (tgt := 52) hx hb dX10_parse_23 (by decide) (fun c_1 => ?_) (fun c_1 => ?_)
      · skip
        have c_1d := Int32.not_lt.mpr c_1
        have hf : fstI (m_stp μ) 61 = some i := fstI_hit hi_0 (by simp [m_stp, c_1, c_1d]) (by omega)
        refine lv_aload_n hx hb dX10_parse_52 rfl (lv_at hl 0 rfl) ?_
        refine sp_get hx hb hts wi_X10_parse_X10 hown hK hP (κ := 0) (by decide) mE_0 rfl 14 (by decide) (hts _ (List.mem_of_getElem? (i := 2) rfl)) (fun _ h => h) rfl dX10_parse_53 ?_
        refine lv_if_ge (tgt := 78) hx hb dX10_parse_56 (by decide) (fun c_2 => ?_) (fun c_2 => ?_)
        · skip
          have c_2d := Int32.not_lt.mpr c_2
          have hE9 : mW am cy (m_pl μ i) = mW am cy (m_parse μ) := by exact mW_eq (by unfold m_parse; rw [hf]; simp [atO, m_pend, b2i, c_1, c_1d, c_2, c_2d])
          have hP : va_P D vwCl (mW am cy (m_parse μ)) H := by rw [← hE9]; exact hP
          exact W.vret hx hb hr (fun T9 hT9 _ => ⟨rfl, by rw [hT9]; exact hP, hS.F hT9⟩) hS.2.2 dX10_parse_78
        · exact absurd c_1 c_2
      · skip
        have c_1d := Int32.not_le.mp c_1
        refine lv_aload_n hx hb dX10_parse_26 rfl (lv_at hl 0 rfl) ?_
        refine sp_call (W.runV (As := []) (rest := []) ⟨hx, hb, hml, hown, hts⟩ (c_X10_sign l D am cy (m_pl μ i) (by exact hi_1)) (cwV 0 hts gX10_parse_X10_sign rfl rfl rfl (by decide +kernel) ⟨Nat.le_of_ble_eq_true rfl, Nat.le_of_ble_eq_true rfl⟩) (sp_preV hK hP (κ := 0) (by decide) mE_0 rfl) rfl rfl hl.1 rfl (lv_room (Nat.le_of_ble_eq_true rfl)) dX10_parse_27 ⟨Nat.le_of_ble_eq_true rfl, Nat.le_of_ble_eq_true rfl⟩) ?_
        refine W.eq (g2 := F0 m 30 ls [.int (m_sign (m_pl μ i))]) rfl ?_
        refine lv_bipush (v := 59) hx hb dX10_parse_30 (by decide) ?_
        refine lv_icmp_ne (tgt := 52) hx hb dX10_parse_32 (by decide) (fun c_3 => ?_) (fun c_3 => ?_)
        · skip
          have hf : fstI (m_stp μ) 61 = some i := fstI_hit hi_0 (by simp [m_stp, c_1, c_1d, c_3]) (by omega)
          refine lv_aload_n hx hb dX10_parse_52 rfl (lv_at hl 0 rfl) ?_
          refine sp_get hx hb hts wi_X10_parse_X10 hown hK hP (κ := 0) (by decide) mE_0 rfl 14 (by decide) (hts _ (List.mem_of_getElem? (i := 2) rfl)) (fun _ h => h) rfl dX10_parse_53 ?_
          refine lv_if_ge (tgt := 78) hx hb dX10_parse_56 (by decide) (fun c_4 => ?_) (fun c_4 => ?_)
          · exact absurd c_4 c_1
          · skip
            have c_4d := Int32.not_le.mp c_4
            refine lv_aload_n hx hb dX10_parse_59 rfl (lv_at hl 0 rfl) ?_
            refine sp_get hx hb hts wi_X10_parse_X10 hown hK hP (κ := 0) (by decide) mE_0 rfl 13 (by decide) (hts _ (List.mem_of_getElem? (i := 1) rfl)) (fun _ h => h) rfl dX10_parse_60 ?_
            refine lv_aload_n hx hb dX10_parse_63 rfl (lv_at hl 0 rfl) ?_
            refine sp_get hx hb hts wi_X10_parse_X10 hown hK hP (κ := 0) (by decide) mE_0 rfl 12 (by decide) (hts _ (List.mem_of_getElem? (i := 4) rfl)) (fun _ h => h) rfl dX10_parse_64 ?_
            refine lv_icmp_ge (tgt := 78) hx hb dX10_parse_67 (by decide) (fun c_5 => ?_) (fun c_5 => ?_)
            · skip
              have c_5d := Int32.not_lt.mpr c_5
              have hE9 : mW am cy (m_pl μ i) = mW am cy (m_parse μ) := by exact mW_eq (by unfold m_parse; rw [hf]; simp [atO, m_pend, b2i, c_1, c_1d, c_3, c_4, c_4d, c_5, c_5d])
              have hP : va_P D vwCl (mW am cy (m_parse μ)) H := by rw [← hE9]; exact hP
              exact W.vret hx hb hr (fun T9 hT9 _ => ⟨rfl, by rw [hT9]; exact hP, hS.F hT9⟩) hS.2.2 dX10_parse_78
            · skip
              have c_5d := Int32.not_le.mp c_5
              refine lv_aload_n hx hb dX10_parse_70 rfl (lv_at hl 0 rfl) ?_
              refine lv_aload_n hx hb dX10_parse_71 rfl (lv_at hl 0 rfl) ?_
              refine sp_get hx hb hts wi_X10_parse_X10 hown hK hP (κ := 0) (by decide) mE_0 rfl 13 (by decide) (hts _ (List.mem_of_getElem? (i := 1) rfl)) (fun _ h => h) rfl dX10_parse_72 ?_
              refine sp_put hx hb hts wi_X10_parse_X10 tyX10 tyX10_ok nmX10 hown hK hP hi hAk hS (κ := 0) (by decide) mE_0 rfl 14 (by decide) (hts _ (List.mem_of_getElem? (i := 2) rfl)) (fun _ h => h) rfl (ty := tyX10 14) (by decide +kernel) ⟨rfl, rfl⟩ (Nat.le_of_ble_eq_true rfl) (r1 := upd ((m_pl μ i) 0) 14 (m_pl μ i 0 13)) (cE_of mE_0 (by simp [upd])) dX10_parse_75 (fun H locs hP hS => ?_)
              have hP : va_P D vwCl (mW am cy (sp_st (m_pl μ i) 0 14 (m_pl μ i 0 13))) H := hP
              have hE9 : mW am cy (sp_st (m_pl μ i) 0 14 (m_pl μ i 0 13)) = mW am cy (m_parse μ) := by exact mW_eq (by unfold m_parse; rw [hf]; simp [atO, m_pend, b2i, c_1, c_1d, c_3, c_4, c_4d, c_5, c_5d])
              have hP : va_P D vwCl (mW am cy (m_parse μ)) H := by rw [← hE9]; exact hP
              exact W.vret hx hb hr (fun T9 hT9 _ => ⟨rfl, by rw [hT9]; exact hP, hS.F hT9⟩) hS.2.2 dX10_parse_78
        · skip
          have hb_i : i < 60 := m_pl_lt hi_1 hi_3 (by rw [c_3]; decide)
          refine lv_aload_n hx hb dX10_parse_35 rfl (lv_at hl 0 rfl) ?_
          refine lv_dup hx hb dX10_parse_36 rfl ?_
          refine sp_get hx hb hts wi_X10_parse_X10 hown hK hP (κ := 0) (by decide) mE_0 rfl 13 (by decide) (hts _ (List.mem_of_getElem? (i := 1) rfl)) (fun _ h => h) rfl dX10_parse_37 ?_
          refine lv_iconst (v := 1) hx hb dX10_parse_40 (by decide) ?_
          refine lv_iadd hx hb dX10_parse_41 ?_
          refine sp_put hx hb hts wi_X10_parse_X10 tyX10 tyX10_ok nmX10 hown hK hP hi hAk hS (κ := 0) (by decide) mE_0 rfl 13 (by decide) (hts _ (List.mem_of_getElem? (i := 1) rfl)) (fun _ h => h) rfl (ty := tyX10 13) (by decide +kernel) ⟨rfl, rfl⟩ (Nat.le_of_ble_eq_true rfl) (r1 := upd ((m_pl μ i) 0) 13 ((m_pl μ i 0 13) + 1)) (cE_of mE_0 (by simp [upd])) dX10_parse_42 (fun H locs hP hS => ?_)
          have hP : va_P D vwCl (mW am cy (sp_st (m_pl μ i) 0 13 ((m_pl μ i 0 13) + 1))) H := hP
          refine lv_aload_n hx hb dX10_parse_45 rfl (lv_at hl 0 rfl) ?_
          refine sp_callm (va_runV (As := []) (rest := []) ⟨hx, hb, hml, hown, hts⟩ (c_X10_command l D am cy (sp_st (m_pl μ i) 0 13 ((m_pl μ i 0 13) + 1)) _ hi (i + 1) (by rw [sp_st_j _ _ _ _ _ _ (by decide)]; exact hi_2) (by omega) (by exact MI_inc hi_1 (by rw [c_3]; decide))) (cwV 0 hts gX10_parse_X10_command rfl rfl rfl (by decide +kernel) ⟨Nat.le_of_ble_eq_true rfl, Nat.le_of_ble_eq_true rfl⟩) (sp_preVm hK hP (κ := 0) (by decide) mE_0 rfl) rfl rfl hl.1 rfl (lv_room (Nat.le_of_ble_eq_true rfl)) dX10_parse_46 ⟨Nat.le_of_ble_eq_true rfl, Nat.le_of_ble_eq_true rfl⟩) hS (fun q h1 h2 => sp_Alt h1 h2) (sp_Ale hS.1) (fun H locs hP hle hfr hS => ?_)
          refine W.eq (g2 := F0 m 49 ls []) rfl ?_
          refine lv_goto (tgt := 19) hx hb dX10_parse_49 (by decide) ?_
          exact ih (i + 1)  _ _ (by omega) (by omega) (fstI_succ_no hi_0 (by simp [m_stp, b2i, c_1, c_1d, c_3])) (MG_cmd (MI_inc hi_1 (by rw [c_3]; decide))) (m_cmd_17) (m_pl_le hi_1 hi_3 (by rw [c_3]; decide)) ((show mW am cy (m_cmd (sp_st (m_pl μ i) 0 13 ((m_pl μ i 0 13) + 1)) (i + 1)) = mW am cy (m_pl μ (i + 1)) from (by rfl)) ▸ hP) hS ls (lv_sub hl [0] rfl)
  exact loop_19 (60 + 1) (0)  _ _ (by omega) (by omega) (rfl) (MG_cmd (MI_p0 hty)) (m_cmd_17 (cm := 0)) (Nat.zero_le _) ((show mW am cy (m_cmd (sp_st (sp_st (sp_st μ 0 13 0) 0 14 (-1)) 0 17 0) 0) = mW am cy (m_pl μ 0) from (by rfl)) ▸ hP) hS ls (lv_sub hl [0] rfl)

