theorem wi_X10_command_X10 : ∀ w ∈ wsX100, w ∈ wsX10_command := by decide +kernel
set_option maxHeartbeats 4000000 in
set_option maxRecDepth 100000 in
theorem c_X10_command (l : Launch) (D : va_G) (am : Nat → Nat) (cy : Nat → ClassId) (μ : Nat → Nat → Int32) (sz : Nat) (hi : sp_inj am 5) (cm : Nat) (hcm : μ 0 17 = nI cm) (hc60 : cm ≤ 60) (hty : MI μ) : Met l yX10_command wsX10_command ({ frames := 3, cells := 0, slots := 0, locals := 66 } : Room) (sp_Pm D (tyG cy) sz [.ref (am (0))] (mW am cy μ)) (sp_Q D (none) (mW am cy (m_cmd μ cm)) (sp_A am 5 sz)) 0 0 (sp_A am 5 sz) := by
  refine Met.ofW (cc := cX10_command) (maxL := 4) (ret := none) (by decide) rfl ?_
  intro p e s m args below meth c s₁ B hml hv
  obtain ⟨rfl, hsz, hP, hK⟩ := hv
  have hx := B.exec
  have hb := B.bytes
  have hr := B.returns
  have hts := atoms_spec (ws := wsX10_command) B.pre
  have hown : s.vm.findClass RX10 = some m.cls := findClass_of_methodNamed B.named
  have hlocks := B.notSynchronized
  subst hsz
  have hS : va_S (sp_A am 5 s.heap.size) s.heap s.heap [] := va_S.rf
  have hAk : ∀ k, k < 5 → (sp_A am 5 s.heap.size) (am k) := fun k hk => Or.inl ⟨k, hk, rfl⟩
  skip
  have hl := lv_entry ([.ref (am (0))]) (n := 4) (Nat.le_of_ble_eq_true rfl)
  refine W.eq (lg_entry_eq _ ([.ref (am (0))]) _) ?_
  generalize (lg_sl ([.ref (am (0))]) ++ List.replicate (4 - (lg_sl ([.ref (am (0))])).length) Slot.unset).toArray = ls at hl ⊢
  have hl : lv_has ls 4 [(0, .ref (am (0)))] := hl
  refine lv_bipush (v := 7) hx hb dX10_command_0 (by decide) ?_
  refine lv_aload_n hx hb dX10_command_2 rfl (lv_at hl 0 rfl) ?_
  refine sp_get hx hb hts wi_X10_command_X10 hown hK hP (κ := 0) (by decide) mE_0 rfl 17 (by decide) (hts _ (List.mem_of_getElem? (i := 1) rfl)) (fun _ h => h) rfl dX10_command_3 ?_
  refine W.eq (g2 := F0 m 6 ls [.int (nI cm), .int (7)]) (by rw [hcm]) ?_
  refine lv_imul hx hb dX10_command_6 ?_
  refine lv_istore_n (lv' := [(1, .int (7 * (nI cm))), (0, .ref (am (0)))]) hx hb dX10_command_7 rfl hl (by decide) rfl (fun ls hl => ?_)
  refine lv_aload_n hx hb dX10_command_8 rfl (lv_at hl 1 rfl) ?_
  refine lv_dup hx hb dX10_command_9 rfl ?_
  refine sp_get hx hb hts wi_X10_command_X10 hown hK hP (κ := 0) (by decide) mE_0 rfl 17 (by decide) (hts _ (List.mem_of_getElem? (i := 1) rfl)) (fun _ h => h) rfl dX10_command_10 ?_
  refine W.eq (g2 := F0 m 13 ls [.int (nI cm), .ref (am (0))]) (by rw [hcm]) ?_
  refine lv_iconst (v := 1) hx hb dX10_command_13 (by decide) ?_
  refine lv_iadd hx hb dX10_command_14 ?_
  refine sp_put hx hb hts wi_X10_command_X10 tyX10 tyX10_ok nmX10 hown hK hP hi hAk hS (κ := 0) (by decide) mE_0 rfl 17 (by decide) (hts _ (List.mem_of_getElem? (i := 1) rfl)) (fun _ h => h) rfl (ty := tyX10 17) (by decide +kernel) ⟨rfl, rfl⟩ (Nat.le_of_ble_eq_true rfl) (r1 := upd (μ 0) 17 ((nI cm) + 1)) (cE_of mE_0 (by simp [upd])) dX10_command_15 (fun H locs hP hS => ?_)
  have hP : va_P D vwCl (mW am cy (sp_st μ 0 17 ((nI cm) + 1))) H := hP
  refine lv_aload_n hx hb dX10_command_18 rfl (lv_at hl 1 rfl) ?_
  refine sp_call (W.runV (As := []) (rest := []) ⟨hx, hb, hml, hown, hts⟩ (c_X10_sign l D am cy (sp_st μ 0 17 ((nI cm) + 1)) (by first | exact hty | (repeat first | exact hty | refine MI.st ?_ (by decide)))) (cwV 0 hts gX10_command_X10_sign rfl rfl rfl (by decide +kernel) ⟨Nat.le_of_ble_eq_true rfl, Nat.le_of_ble_eq_true rfl⟩) (sp_preV hK hP (κ := 0) (by decide) mE_0 rfl) rfl rfl hl.1 rfl (lv_room (Nat.le_of_ble_eq_true rfl)) dX10_command_19 ⟨Nat.le_of_ble_eq_true rfl, Nat.le_of_ble_eq_true rfl⟩) ?_
  refine W.eq (g2 := F0 m 22 ls [.int (m_sign (sp_st μ 0 17 ((nI cm) + 1)))]) rfl ?_
  refine lv_istore_n (lv' := [(2, .int (m_sign (sp_st μ 0 17 ((nI cm) + 1)))), (1, .int (7 * (nI cm))), (0, .ref (am (0)))]) hx hb dX10_command_22 rfl hl (by decide) rfl (fun ls hl => ?_)
  refine lv_iconst (v := 0) hx hb dX10_command_23 (by decide) ?_
  refine lv_istore_n (lv' := [(3, .int (0)), (2, .int (m_sign (sp_st μ 0 17 ((nI cm) + 1)))), (1, .int (7 * (nI cm))), (0, .ref (am (0)))]) hx hb dX10_command_24 rfl hl (by decide) rfl (fun ls hl => ?_)
  have loop_25 : ∀ (fu i : Nat) (H : Heap) (locs : List Loc), (i ≤ 7) → (7 - i < fu) → (va_P D vwCl (mW am cy (m_clr (sp_st μ 0 17 (nI cm + 1)) cm i)) H) → (va_S (sp_A am 5 s.heap.size) s.heap H locs) → ∀ ls : Array Slot, lv_has ls 4 [(3, .int (nI i)), (2, .int (m_sign (sp_st μ 0 17 ((nI cm) + 1)))), (1, .int (7 * (nI cm))), (0, .ref (am (0)))] → W p l e (headSpec wsX10_command ({ frames := 3, cells := 0, slots := 0, locals := 66 } : Room)).room s m ([.ref (am (0))] : List Value).toArray below meth c H locs 0 0 (MQ below (sp_Q D (none) (mW am cy (m_cmd μ cm)) (sp_A am 5 s.heap.size)) ([.ref (am (0))] : List Value).toArray s 0 0 (sp_A am 5 s.heap.size)) (F0 m 25 ls []) := by
    intro fu
    induction fu with
    | zero => intro i H locs hle hlt hP hS ls hl; exact absurd hlt (Nat.not_lt_zero _)
    | succ fu ih =>
      intro i H locs hle hlt hP hS ls hl
      refine lv_iload_n hx hb dX10_command_25 rfl (lv_at hl 0 rfl) ?_
      refine lv_bipush (v := 7) hx hb dX10_command_26 (by decide) ?_
      refine lv_icmp_ge (tgt := 46) hx hb dX10_command_28 (by decide) (fun c_1 => ?_) (fun c_1 => ?_)
      · skip
        have c_1d := Int32.not_lt.mpr c_1
        have hx_i : i = 7 := by have := (nI_leI (a := 7) (b := i) (by omega) (by omega)).mp c_1; omega
        rw [hx_i] at hP
        refine lv_iload_n hx hb dX10_command_46 rfl (lv_at hl 1 rfl) ?_
        refine lv_bipush (v := 84) hx hb dX10_command_47 (by decide) ?_
        refine lv_icmp_eq (tgt := 103) hx hb dX10_command_49 (by decide) (fun c_2 => ?_) (fun c_2 => ?_)
        · skip
          refine lv_aload_n hx hb dX10_command_103 rfl (lv_at hl 3 rfl) ?_
          refine lv_dup hx hb dX10_command_104 rfl ?_
          refine sp_get hx hb hts wi_X10_command_X10 hown hK hP (κ := 0) (by decide) mE_0 rfl 13 (by decide) (hts _ (List.mem_of_getElem? (i := 3) rfl)) (fun _ h => h) rfl dX10_command_105 ?_
          refine W.eq (g2 := F0 m 108 ls [.int (μ 0 13), .ref (am (0))]) (by rw [m_c13]) ?_
          refine lv_iconst (v := 1) hx hb dX10_command_108 (by decide) ?_
          refine lv_iadd hx hb dX10_command_109 ?_
          refine sp_put hx hb hts wi_X10_command_X10 tyX10 tyX10_ok nmX10 hown hK hP hi hAk hS (κ := 0) (by decide) mE_0 rfl 13 (by decide) (hts _ (List.mem_of_getElem? (i := 3) rfl)) (fun _ h => h) rfl (ty := tyX10 13) (by decide +kernel) ⟨rfl, rfl⟩ (Nat.le_of_ble_eq_true rfl) (r1 := upd ((m_clr (sp_st μ 0 17 (nI cm + 1)) cm 7) 0) 13 ((μ 0 13) + 1)) (cE_of mE_0 (by simp [upd])) dX10_command_110 (fun H locs hP hS => ?_)
          have hP : va_P D vwCl (mW am cy (sp_st (m_clr (sp_st μ 0 17 (nI cm + 1)) cm 7) 0 13 ((μ 0 13) + 1))) H := hP
          have hm9 : MI (sp_st (m_clr (sp_st μ 0 17 (nI cm + 1)) cm 7) 0 13 (μ 0 13 + 1)) := MI_go hty (by rw [c_2]; decide)
          refine lv_aload_n hx hb dX10_command_113 rfl (lv_at hl 3 rfl) ?_
          refine sp_get hx hb hts wi_X10_command_X10 hown hK hP (κ := 0) (by decide) mE_0 rfl 16 (by decide) (hts _ (List.mem_of_getElem? (i := 2) rfl)) (fun _ h => h) rfl dX10_command_114 ?_
          refine lv_iload_n hx hb dX10_command_117 rfl (lv_at hl 2 rfl) ?_
          refine lv_iload_n hx hb dX10_command_118 rfl (lv_at hl 1 rfl) ?_
          refine sp_iast hx hb hK hP hi hAk hS (κ := 4) (by decide) 1 mE_4 rfl (7 * cm) (nI_mulE rfl rfl) (by omega) (by decide) (r1 := upd ((sp_st (m_clr (sp_st μ 0 17 (nI cm + 1)) cm 7) 0 13 ((μ 0 13) + 1)) 4) (7 * cm) (m_sign (sp_st μ 0 17 ((nI cm) + 1)))) mE_4 dX10_command_119 (fun H locs hP hS => ?_)
          have hP : va_P D vwCl (mW am cy (sp_st (sp_st (m_clr (sp_st μ 0 17 (nI cm + 1)) cm 7) 0 13 ((μ 0 13) + 1)) 4 (7 * cm) (m_sign (sp_st μ 0 17 ((nI cm) + 1))))) H := hP
          refine lv_aload_n hx hb dX10_command_120 rfl (lv_at hl 3 rfl) ?_
          refine sp_get hx hb hts wi_X10_command_X10 hown hK hP (κ := 0) (by decide) mE_0 rfl 16 (by decide) (hts _ (List.mem_of_getElem? (i := 2) rfl)) (fun _ h => h) rfl dX10_command_121 ?_
          refine lv_iload_n hx hb dX10_command_124 rfl (lv_at hl 2 rfl) ?_
          refine lv_iconst (v := 1) hx hb dX10_command_125 (by decide) ?_
          refine lv_iadd hx hb dX10_command_126 ?_
          refine lv_aload_n hx hb dX10_command_127 rfl (lv_at hl 3 rfl) ?_
          refine lv_iload_n hx hb dX10_command_128 rfl (lv_at hl 1 rfl) ?_
          refine lv_bipush (v := 84) hx hb dX10_command_129 (by decide) ?_
          refine lv_icmp_eq (tgt := 140) hx hb dX10_command_131 (by decide) (fun c_3 => ?_) (fun c_3 => ?_)
          · skip
            refine lv_iconst (v := 1) hx hb dX10_command_140 (by decide) ?_
            refine lv_goto (tgt := 145) hx hb dX10_command_141 (by decide) ?_
            refine sp_callm (va_runV (As := [.int (1)]) (rest := [.int ((7 * (nI cm)) + 1), .ref (am (4))]) ⟨hx, hb, hml, hown, hts⟩ (c_X10_number l D am cy (sp_st (sp_st (m_clr (sp_st μ 0 17 (nI cm + 1)) cm 7) 0 13 ((μ 0 13) + 1)) 4 (7 * cm) (m_sign (sp_st μ 0 17 ((nI cm) + 1)))) _ hi 1 (by first | omega | decide) (MI.st hm9 (by omega))) (cwV 1 hts gX10_command_X10_number rfl rfl rfl (by decide +kernel) ⟨Nat.le_of_ble_eq_true rfl, Nat.le_of_ble_eq_true rfl⟩) (sp_preVm hK hP (κ := 0) (by decide) mE_0 rfl) rfl rfl hl.1 rfl (lv_room (Nat.le_of_ble_eq_true rfl)) dX10_command_145 ⟨Nat.le_of_ble_eq_true rfl, Nat.le_of_ble_eq_true rfl⟩) hS (fun q h1 h2 => sp_Alt h1 h2) (sp_Ale hS.1) (fun H locs hP hle hfr hS => ?_)
            refine W.eq (g2 := F0 m 148 ls [.int (m_numv (sp_st (sp_st (m_clr (sp_st μ 0 17 (nI cm + 1)) cm 7) 0 13 ((μ 0 13) + 1)) 4 (7 * cm) (m_sign (sp_st μ 0 17 ((nI cm) + 1)))) 1), .int ((7 * (nI cm)) + 1), .ref (am (4))]) rfl ?_
            refine sp_iast hx hb hK hP hi hAk hS (κ := 4) (by decide) 1 mE_4 rfl ((7 * cm) + 1) (nI_addE (nI_mulE rfl rfl) rfl) (by omega) (by decide) (r1 := upd ((m_nums (sp_st (sp_st (m_clr (sp_st μ 0 17 (nI cm + 1)) cm 7) 0 13 ((μ 0 13) + 1)) 4 (7 * cm) (m_sign (sp_st μ 0 17 ((nI cm) + 1)))) 1) 4) ((7 * cm) + 1) (m_numv (sp_st (sp_st (m_clr (sp_st μ 0 17 (nI cm + 1)) cm 7) 0 13 ((μ 0 13) + 1)) 4 (7 * cm) (m_sign (sp_st μ 0 17 ((nI cm) + 1)))) 1)) mE_4 dX10_command_148 (fun H locs hP hS => ?_)
            have hP : va_P D vwCl (mW am cy (sp_st (m_nums (sp_st (sp_st (m_clr (sp_st μ 0 17 (nI cm + 1)) cm 7) 0 13 ((μ 0 13) + 1)) 4 (7 * cm) (m_sign (sp_st μ 0 17 ((nI cm) + 1)))) 1) 4 ((7 * cm) + 1) (m_numv (sp_st (sp_st (m_clr (sp_st μ 0 17 (nI cm + 1)) cm 7) 0 13 ((μ 0 13) + 1)) 4 (7 * cm) (m_sign (sp_st μ 0 17 ((nI cm) + 1)))) 1))) H := hP
            have hP : va_P D vwCl (mW am cy (m_sn (sp_st (sp_st (m_clr (sp_st μ 0 17 (nI cm + 1)) cm 7) 0 13 ((μ 0 13) + 1)) 4 (7 * cm) (m_sign (sp_st μ 0 17 ((nI cm) + 1)))) ((7 * cm) + 1) 1)) H := hP
            refine lv_iload_n hx hb dX10_command_149 rfl (lv_at hl 1 rfl) ?_
            refine lv_lookup (off := 128) (tgt := 278) hx hb dX10_command_150 (by decide) (by rw [c_2]; decide +kernel) (by decide) ?_
            have hE9 : mW am cy (m_sn (sp_st (sp_st (m_clr (sp_st μ 0 17 (nI cm + 1)) cm 7) 0 13 ((μ 0 13) + 1)) 4 (7 * cm) (m_sign (sp_st μ 0 17 ((nI cm) + 1)))) ((7 * cm) + 1) 1) = mW am cy (m_cmd μ cm) := by exact mW_eq (by simp [m_cmd, m_cmdK, b2i, c_2, c_3])
            have hP : va_P D vwCl (mW am cy (m_cmd μ cm)) H := by rw [← hE9]; exact hP
            exact W.vret hx hb hr (fun T9 hT9 _ => ⟨rfl, by rw [hT9]; exact hP, hS.F hT9⟩) hS.2.2 dX10_command_278
          · exact absurd c_2 c_3
        · skip
          refine lv_iload_n hx hb dX10_command_52 rfl (lv_at hl 1 rfl) ?_
          refine lv_bipush (v := 80) hx hb dX10_command_53 (by decide) ?_
          refine lv_icmp_eq (tgt := 103) hx hb dX10_command_55 (by decide) (fun c_4 => ?_) (fun c_4 => ?_)
          · skip
            refine lv_aload_n hx hb dX10_command_103 rfl (lv_at hl 3 rfl) ?_
            refine lv_dup hx hb dX10_command_104 rfl ?_
            refine sp_get hx hb hts wi_X10_command_X10 hown hK hP (κ := 0) (by decide) mE_0 rfl 13 (by decide) (hts _ (List.mem_of_getElem? (i := 3) rfl)) (fun _ h => h) rfl dX10_command_105 ?_
            refine W.eq (g2 := F0 m 108 ls [.int (μ 0 13), .ref (am (0))]) (by rw [m_c13]) ?_
            refine lv_iconst (v := 1) hx hb dX10_command_108 (by decide) ?_
            refine lv_iadd hx hb dX10_command_109 ?_
            refine sp_put hx hb hts wi_X10_command_X10 tyX10 tyX10_ok nmX10 hown hK hP hi hAk hS (κ := 0) (by decide) mE_0 rfl 13 (by decide) (hts _ (List.mem_of_getElem? (i := 3) rfl)) (fun _ h => h) rfl (ty := tyX10 13) (by decide +kernel) ⟨rfl, rfl⟩ (Nat.le_of_ble_eq_true rfl) (r1 := upd ((m_clr (sp_st μ 0 17 (nI cm + 1)) cm 7) 0) 13 ((μ 0 13) + 1)) (cE_of mE_0 (by simp [upd])) dX10_command_110 (fun H locs hP hS => ?_)
            have hP : va_P D vwCl (mW am cy (sp_st (m_clr (sp_st μ 0 17 (nI cm + 1)) cm 7) 0 13 ((μ 0 13) + 1))) H := hP
            have hm9 : MI (sp_st (m_clr (sp_st μ 0 17 (nI cm + 1)) cm 7) 0 13 (μ 0 13 + 1)) := MI_go hty (by rw [c_4]; decide)
            refine lv_aload_n hx hb dX10_command_113 rfl (lv_at hl 3 rfl) ?_
            refine sp_get hx hb hts wi_X10_command_X10 hown hK hP (κ := 0) (by decide) mE_0 rfl 16 (by decide) (hts _ (List.mem_of_getElem? (i := 2) rfl)) (fun _ h => h) rfl dX10_command_114 ?_
            refine lv_iload_n hx hb dX10_command_117 rfl (lv_at hl 2 rfl) ?_
            refine lv_iload_n hx hb dX10_command_118 rfl (lv_at hl 1 rfl) ?_
            refine sp_iast hx hb hK hP hi hAk hS (κ := 4) (by decide) 1 mE_4 rfl (7 * cm) (nI_mulE rfl rfl) (by omega) (by decide) (r1 := upd ((sp_st (m_clr (sp_st μ 0 17 (nI cm + 1)) cm 7) 0 13 ((μ 0 13) + 1)) 4) (7 * cm) (m_sign (sp_st μ 0 17 ((nI cm) + 1)))) mE_4 dX10_command_119 (fun H locs hP hS => ?_)
            have hP : va_P D vwCl (mW am cy (sp_st (sp_st (m_clr (sp_st μ 0 17 (nI cm + 1)) cm 7) 0 13 ((μ 0 13) + 1)) 4 (7 * cm) (m_sign (sp_st μ 0 17 ((nI cm) + 1))))) H := hP
            refine lv_aload_n hx hb dX10_command_120 rfl (lv_at hl 3 rfl) ?_
            refine sp_get hx hb hts wi_X10_command_X10 hown hK hP (κ := 0) (by decide) mE_0 rfl 16 (by decide) (hts _ (List.mem_of_getElem? (i := 2) rfl)) (fun _ h => h) rfl dX10_command_121 ?_
            refine lv_iload_n hx hb dX10_command_124 rfl (lv_at hl 2 rfl) ?_
            refine lv_iconst (v := 1) hx hb dX10_command_125 (by decide) ?_
            refine lv_iadd hx hb dX10_command_126 ?_
            refine lv_aload_n hx hb dX10_command_127 rfl (lv_at hl 3 rfl) ?_
            refine lv_iload_n hx hb dX10_command_128 rfl (lv_at hl 1 rfl) ?_
            refine lv_bipush (v := 84) hx hb dX10_command_129 (by decide) ?_
            refine lv_icmp_eq (tgt := 140) hx hb dX10_command_131 (by decide) (fun c_5 => ?_) (fun c_5 => ?_)
            · exact absurd c_5 c_2
            · skip
              refine lv_iload_n hx hb dX10_command_134 rfl (lv_at hl 1 rfl) ?_
              refine lv_bipush (v := 87) hx hb dX10_command_135 (by decide) ?_
              refine lv_icmp_ne (tgt := 144) hx hb dX10_command_137 (by decide) (fun c_6 => ?_) (fun c_6 => ?_)
              · skip
                refine lv_iconst (v := 3) hx hb dX10_command_144 (by decide) ?_
                refine sp_callm (va_runV (As := [.int (3)]) (rest := [.int ((7 * (nI cm)) + 1), .ref (am (4))]) ⟨hx, hb, hml, hown, hts⟩ (c_X10_number l D am cy (sp_st (sp_st (m_clr (sp_st μ 0 17 (nI cm + 1)) cm 7) 0 13 ((μ 0 13) + 1)) 4 (7 * cm) (m_sign (sp_st μ 0 17 ((nI cm) + 1)))) _ hi 3 (by first | omega | decide) (MI.st hm9 (by omega))) (cwV 1 hts gX10_command_X10_number rfl rfl rfl (by decide +kernel) ⟨Nat.le_of_ble_eq_true rfl, Nat.le_of_ble_eq_true rfl⟩) (sp_preVm hK hP (κ := 0) (by decide) mE_0 rfl) rfl rfl hl.1 rfl (lv_room (Nat.le_of_ble_eq_true rfl)) dX10_command_145 ⟨Nat.le_of_ble_eq_true rfl, Nat.le_of_ble_eq_true rfl⟩) hS (fun q h1 h2 => sp_Alt h1 h2) (sp_Ale hS.1) (fun H locs hP hle hfr hS => ?_)
                refine W.eq (g2 := F0 m 148 ls [.int (m_numv (sp_st (sp_st (m_clr (sp_st μ 0 17 (nI cm + 1)) cm 7) 0 13 ((μ 0 13) + 1)) 4 (7 * cm) (m_sign (sp_st μ 0 17 ((nI cm) + 1)))) 3), .int ((7 * (nI cm)) + 1), .ref (am (4))]) rfl ?_
                refine sp_iast hx hb hK hP hi hAk hS (κ := 4) (by decide) 1 mE_4 rfl ((7 * cm) + 1) (nI_addE (nI_mulE rfl rfl) rfl) (by omega) (by decide) (r1 := upd ((m_nums (sp_st (sp_st (m_clr (sp_st μ 0 17 (nI cm + 1)) cm 7) 0 13 ((μ 0 13) + 1)) 4 (7 * cm) (m_sign (sp_st μ 0 17 ((nI cm) + 1)))) 3) 4) ((7 * cm) + 1) (m_numv (sp_st (sp_st (m_clr (sp_st μ 0 17 (nI cm + 1)) cm 7) 0 13 ((μ 0 13) + 1)) 4 (7 * cm) (m_sign (sp_st μ 0 17 ((nI cm) + 1)))) 3)) mE_4 dX10_command_148 (fun H locs hP hS => ?_)
                have hP : va_P D vwCl (mW am cy (sp_st (m_nums (sp_st (sp_st (m_clr (sp_st μ 0 17 (nI cm + 1)) cm 7) 0 13 ((μ 0 13) + 1)) 4 (7 * cm) (m_sign (sp_st μ 0 17 ((nI cm) + 1)))) 3) 4 ((7 * cm) + 1) (m_numv (sp_st (sp_st (m_clr (sp_st μ 0 17 (nI cm + 1)) cm 7) 0 13 ((μ 0 13) + 1)) 4 (7 * cm) (m_sign (sp_st μ 0 17 ((nI cm) + 1)))) 3))) H := hP
                have hP : va_P D vwCl (mW am cy (m_sn (sp_st (sp_st (m_clr (sp_st μ 0 17 (nI cm + 1)) cm 7) 0 13 ((μ 0 13) + 1)) 4 (7 * cm) (m_sign (sp_st μ 0 17 ((nI cm) + 1)))) ((7 * cm) + 1) 3)) H := hP
                refine lv_iload_n hx hb dX10_command_149 rfl (lv_at hl 1 rfl) ?_
                refine lv_lookup (off := 26) (tgt := 176) hx hb dX10_command_150 (by decide) (by rw [c_4]; decide +kernel) (by decide) ?_
                refine lv_aload_n hx hb dX10_command_176 rfl (lv_at hl 3 rfl) ?_
                refine sp_get hx hb hts wi_X10_command_X10 hown hK hP (κ := 0) (by decide) mE_0 rfl 16 (by decide) (hts _ (List.mem_of_getElem? (i := 2) rfl)) (fun _ h => h) rfl dX10_command_177 ?_
                refine lv_iload_n hx hb dX10_command_180 rfl (lv_at hl 2 rfl) ?_
                refine lv_iconst (v := 2) hx hb dX10_command_181 (by decide) ?_
                refine lv_iadd hx hb dX10_command_182 ?_
                refine lv_aload_n hx hb dX10_command_183 rfl (lv_at hl 3 rfl) ?_
                refine lv_bipush (v := 64) hx hb dX10_command_184 (by decide) ?_
                refine sp_callm (va_runV (As := [.int (64)]) (rest := [.int ((7 * (nI cm)) + 2), .ref (am (4))]) ⟨hx, hb, hml, hown, hts⟩ (c_X10_behind l D am cy (m_sn (sp_st (sp_st (m_clr (sp_st μ 0 17 (nI cm + 1)) cm 7) 0 13 ((μ 0 13) + 1)) 4 (7 * cm) (m_sign (sp_st μ 0 17 ((nI cm) + 1)))) ((7 * cm) + 1) 3) _ hi 64 (by decide) (MI_sn (MI.st hm9 (by omega)) (by decide))) (cwV 1 hts gX10_command_X10_behind rfl rfl rfl (by decide +kernel) ⟨Nat.le_of_ble_eq_true rfl, Nat.le_of_ble_eq_true rfl⟩) (sp_preVm hK hP (κ := 0) (by decide) mE_0 rfl) rfl rfl hl.1 rfl (lv_room (Nat.le_of_ble_eq_true rfl)) dX10_command_186 ⟨Nat.le_of_ble_eq_true rfl, Nat.le_of_ble_eq_true rfl⟩) hS (fun q h1 h2 => sp_Alt h1 h2) (sp_Ale hS.1) (fun H locs hP hle hfr hS => ?_)
                refine W.eq (g2 := F0 m 189 ls [.int (m_numv (m_needs (m_sn (sp_st (sp_st (m_clr (sp_st μ 0 17 (nI cm + 1)) cm 7) 0 13 ((μ 0 13) + 1)) 4 (7 * cm) (m_sign (sp_st μ 0 17 ((nI cm) + 1)))) ((7 * cm) + 1) 3) 64) 3), .int ((7 * (nI cm)) + 2), .ref (am (4))]) rfl ?_
                refine sp_iast hx hb hK hP hi hAk hS (κ := 4) (by decide) 1 mE_4 rfl ((7 * cm) + 2) (nI_addE (nI_mulE rfl rfl) rfl) (by omega) (by decide) (r1 := upd ((m_nums (m_needs (m_sn (sp_st (sp_st (m_clr (sp_st μ 0 17 (nI cm + 1)) cm 7) 0 13 ((μ 0 13) + 1)) 4 (7 * cm) (m_sign (sp_st μ 0 17 ((nI cm) + 1)))) ((7 * cm) + 1) 3) 64) 3) 4) ((7 * cm) + 2) (m_numv (m_needs (m_sn (sp_st (sp_st (m_clr (sp_st μ 0 17 (nI cm + 1)) cm 7) 0 13 ((μ 0 13) + 1)) 4 (7 * cm) (m_sign (sp_st μ 0 17 ((nI cm) + 1)))) ((7 * cm) + 1) 3) 64) 3)) mE_4 dX10_command_189 (fun H locs hP hS => ?_)
                have hP : va_P D vwCl (mW am cy (sp_st (m_nums (m_needs (m_sn (sp_st (sp_st (m_clr (sp_st μ 0 17 (nI cm + 1)) cm 7) 0 13 ((μ 0 13) + 1)) 4 (7 * cm) (m_sign (sp_st μ 0 17 ((nI cm) + 1)))) ((7 * cm) + 1) 3) 64) 3) 4 ((7 * cm) + 2) (m_numv (m_needs (m_sn (sp_st (sp_st (m_clr (sp_st μ 0 17 (nI cm + 1)) cm 7) 0 13 ((μ 0 13) + 1)) 4 (7 * cm) (m_sign (sp_st μ 0 17 ((nI cm) + 1)))) ((7 * cm) + 1) 3) 64) 3))) H := hP
                have hP : va_P D vwCl (mW am cy (m_sb (m_sn (sp_st (sp_st (m_clr (sp_st μ 0 17 (nI cm + 1)) cm 7) 0 13 ((μ 0 13) + 1)) 4 (7 * cm) (m_sign (sp_st μ 0 17 ((nI cm) + 1)))) ((7 * cm) + 1) 3) ((7 * cm) + 2) 64)) H := hP
                refine lv_aload_n hx hb dX10_command_190 rfl (lv_at hl 3 rfl) ?_
                refine sp_get hx hb hts wi_X10_command_X10 hown hK hP (κ := 0) (by decide) mE_0 rfl 16 (by decide) (hts _ (List.mem_of_getElem? (i := 2) rfl)) (fun _ h => h) rfl dX10_command_191 ?_
                refine lv_iload_n hx hb dX10_command_194 rfl (lv_at hl 2 rfl) ?_
                refine lv_iconst (v := 3) hx hb dX10_command_195 (by decide) ?_
                refine lv_iadd hx hb dX10_command_196 ?_
                refine lv_aload_n hx hb dX10_command_197 rfl (lv_at hl 3 rfl) ?_
                refine lv_bipush (v := 58) hx hb dX10_command_198 (by decide) ?_
                refine sp_callm (va_runV (As := [.int (58)]) (rest := [.int ((7 * (nI cm)) + 3), .ref (am (4))]) ⟨hx, hb, hml, hown, hts⟩ (c_X10_behind l D am cy (m_sb (m_sn (sp_st (sp_st (m_clr (sp_st μ 0 17 (nI cm + 1)) cm 7) 0 13 ((μ 0 13) + 1)) 4 (7 * cm) (m_sign (sp_st μ 0 17 ((nI cm) + 1)))) ((7 * cm) + 1) 3) ((7 * cm) + 2) 64) _ hi 58 (by decide) (MI_sb (MI_sn (MI.st hm9 (by omega)) (by decide)) (by decide))) (cwV 1 hts gX10_command_X10_behind rfl rfl rfl (by decide +kernel) ⟨Nat.le_of_ble_eq_true rfl, Nat.le_of_ble_eq_true rfl⟩) (sp_preVm hK hP (κ := 0) (by decide) mE_0 rfl) rfl rfl hl.1 rfl (lv_room (Nat.le_of_ble_eq_true rfl)) dX10_command_200 ⟨Nat.le_of_ble_eq_true rfl, Nat.le_of_ble_eq_true rfl⟩) hS (fun q h1 h2 => sp_Alt h1 h2) (sp_Ale hS.1) (fun H locs hP hle hfr hS => ?_)
                refine W.eq (g2 := F0 m 203 ls [.int (m_numv (m_needs (m_sb (m_sn (sp_st (sp_st (m_clr (sp_st μ 0 17 (nI cm + 1)) cm 7) 0 13 ((μ 0 13) + 1)) 4 (7 * cm) (m_sign (sp_st μ 0 17 ((nI cm) + 1)))) ((7 * cm) + 1) 3) ((7 * cm) + 2) 64) 58) 3), .int ((7 * (nI cm)) + 3), .ref (am (4))]) rfl ?_
                refine sp_iast hx hb hK hP hi hAk hS (κ := 4) (by decide) 1 mE_4 rfl ((7 * cm) + 3) (nI_addE (nI_mulE rfl rfl) rfl) (by omega) (by decide) (r1 := upd ((m_nums (m_needs (m_sb (m_sn (sp_st (sp_st (m_clr (sp_st μ 0 17 (nI cm + 1)) cm 7) 0 13 ((μ 0 13) + 1)) 4 (7 * cm) (m_sign (sp_st μ 0 17 ((nI cm) + 1)))) ((7 * cm) + 1) 3) ((7 * cm) + 2) 64) 58) 3) 4) ((7 * cm) + 3) (m_numv (m_needs (m_sb (m_sn (sp_st (sp_st (m_clr (sp_st μ 0 17 (nI cm + 1)) cm 7) 0 13 ((μ 0 13) + 1)) 4 (7 * cm) (m_sign (sp_st μ 0 17 ((nI cm) + 1)))) ((7 * cm) + 1) 3) ((7 * cm) + 2) 64) 58) 3)) mE_4 dX10_command_203 (fun H locs hP hS => ?_)
                have hP : va_P D vwCl (mW am cy (sp_st (m_nums (m_needs (m_sb (m_sn (sp_st (sp_st (m_clr (sp_st μ 0 17 (nI cm + 1)) cm 7) 0 13 ((μ 0 13) + 1)) 4 (7 * cm) (m_sign (sp_st μ 0 17 ((nI cm) + 1)))) ((7 * cm) + 1) 3) ((7 * cm) + 2) 64) 58) 3) 4 ((7 * cm) + 3) (m_numv (m_needs (m_sb (m_sn (sp_st (sp_st (m_clr (sp_st μ 0 17 (nI cm + 1)) cm 7) 0 13 ((μ 0 13) + 1)) 4 (7 * cm) (m_sign (sp_st μ 0 17 ((nI cm) + 1)))) ((7 * cm) + 1) 3) ((7 * cm) + 2) 64) 58) 3))) H := hP
                have hP : va_P D vwCl (mW am cy (m_sb (m_sb (m_sn (sp_st (sp_st (m_clr (sp_st μ 0 17 (nI cm + 1)) cm 7) 0 13 ((μ 0 13) + 1)) 4 (7 * cm) (m_sign (sp_st μ 0 17 ((nI cm) + 1)))) ((7 * cm) + 1) 3) ((7 * cm) + 2) 64) ((7 * cm) + 3) 58)) H := hP
                refine lv_aload_n hx hb dX10_command_204 rfl (lv_at hl 3 rfl) ?_
                refine sp_get hx hb hts wi_X10_command_X10 hown hK hP (κ := 0) (by decide) mE_0 rfl 16 (by decide) (hts _ (List.mem_of_getElem? (i := 2) rfl)) (fun _ h => h) rfl dX10_command_205 ?_
                refine lv_iload_n hx hb dX10_command_208 rfl (lv_at hl 2 rfl) ?_
                refine lv_iconst (v := 4) hx hb dX10_command_209 (by decide) ?_
                refine lv_iadd hx hb dX10_command_210 ?_
                refine lv_aload_n hx hb dX10_command_211 rfl (lv_at hl 3 rfl) ?_
                refine lv_bipush (v := 44) hx hb dX10_command_212 (by decide) ?_
                refine sp_callm (va_runV (As := [.int (44)]) (rest := [.int ((7 * (nI cm)) + 4), .ref (am (4))]) ⟨hx, hb, hml, hown, hts⟩ (c_X10_behind l D am cy (m_sb (m_sb (m_sn (sp_st (sp_st (m_clr (sp_st μ 0 17 (nI cm + 1)) cm 7) 0 13 ((μ 0 13) + 1)) 4 (7 * cm) (m_sign (sp_st μ 0 17 ((nI cm) + 1)))) ((7 * cm) + 1) 3) ((7 * cm) + 2) 64) ((7 * cm) + 3) 58) _ hi 44 (by decide) (MI_sb (MI_sb (MI_sn (MI.st hm9 (by omega)) (by decide)) (by decide)) (by decide))) (cwV 1 hts gX10_command_X10_behind rfl rfl rfl (by decide +kernel) ⟨Nat.le_of_ble_eq_true rfl, Nat.le_of_ble_eq_true rfl⟩) (sp_preVm hK hP (κ := 0) (by decide) mE_0 rfl) rfl rfl hl.1 rfl (lv_room (Nat.le_of_ble_eq_true rfl)) dX10_command_214 ⟨Nat.le_of_ble_eq_true rfl, Nat.le_of_ble_eq_true rfl⟩) hS (fun q h1 h2 => sp_Alt h1 h2) (sp_Ale hS.1) (fun H locs hP hle hfr hS => ?_)
                refine W.eq (g2 := F0 m 217 ls [.int (m_numv (m_needs (m_sb (m_sb (m_sn (sp_st (sp_st (m_clr (sp_st μ 0 17 (nI cm + 1)) cm 7) 0 13 ((μ 0 13) + 1)) 4 (7 * cm) (m_sign (sp_st μ 0 17 ((nI cm) + 1)))) ((7 * cm) + 1) 3) ((7 * cm) + 2) 64) ((7 * cm) + 3) 58) 44) 3), .int ((7 * (nI cm)) + 4), .ref (am (4))]) rfl ?_
                refine sp_iast hx hb hK hP hi hAk hS (κ := 4) (by decide) 1 mE_4 rfl ((7 * cm) + 4) (nI_addE (nI_mulE rfl rfl) rfl) (by omega) (by decide) (r1 := upd ((m_nums (m_needs (m_sb (m_sb (m_sn (sp_st (sp_st (m_clr (sp_st μ 0 17 (nI cm + 1)) cm 7) 0 13 ((μ 0 13) + 1)) 4 (7 * cm) (m_sign (sp_st μ 0 17 ((nI cm) + 1)))) ((7 * cm) + 1) 3) ((7 * cm) + 2) 64) ((7 * cm) + 3) 58) 44) 3) 4) ((7 * cm) + 4) (m_numv (m_needs (m_sb (m_sb (m_sn (sp_st (sp_st (m_clr (sp_st μ 0 17 (nI cm + 1)) cm 7) 0 13 ((μ 0 13) + 1)) 4 (7 * cm) (m_sign (sp_st μ 0 17 ((nI cm) + 1)))) ((7 * cm) + 1) 3) ((7 * cm) + 2) 64) ((7 * cm) + 3) 58) 44) 3)) mE_4 dX10_command_217 (fun H locs hP hS => ?_)
                have hP : va_P D vwCl (mW am cy (sp_st (m_nums (m_needs (m_sb (m_sb (m_sn (sp_st (sp_st (m_clr (sp_st μ 0 17 (nI cm + 1)) cm 7) 0 13 ((μ 0 13) + 1)) 4 (7 * cm) (m_sign (sp_st μ 0 17 ((nI cm) + 1)))) ((7 * cm) + 1) 3) ((7 * cm) + 2) 64) ((7 * cm) + 3) 58) 44) 3) 4 ((7 * cm) + 4) (m_numv (m_needs (m_sb (m_sb (m_sn (sp_st (sp_st (m_clr (sp_st μ 0 17 (nI cm + 1)) cm 7) 0 13 ((μ 0 13) + 1)) 4 (7 * cm) (m_sign (sp_st μ 0 17 ((nI cm) + 1)))) ((7 * cm) + 1) 3) ((7 * cm) + 2) 64) ((7 * cm) + 3) 58) 44) 3))) H := hP
                have hP : va_P D vwCl (mW am cy (m_sb (m_sb (m_sb (m_sn (sp_st (sp_st (m_clr (sp_st μ 0 17 (nI cm + 1)) cm 7) 0 13 ((μ 0 13) + 1)) 4 (7 * cm) (m_sign (sp_st μ 0 17 ((nI cm) + 1)))) ((7 * cm) + 1) 3) ((7 * cm) + 2) 64) ((7 * cm) + 3) 58) ((7 * cm) + 4) 44)) H := hP
                refine lv_aload_n hx hb dX10_command_218 rfl (lv_at hl 3 rfl) ?_
                refine sp_get hx hb hts wi_X10_command_X10 hown hK hP (κ := 0) (by decide) mE_0 rfl 16 (by decide) (hts _ (List.mem_of_getElem? (i := 2) rfl)) (fun _ h => h) rfl dX10_command_219 ?_
                refine lv_iload_n hx hb dX10_command_222 rfl (lv_at hl 2 rfl) ?_
                refine lv_iconst (v := 5) hx hb dX10_command_223 (by decide) ?_
                refine lv_iadd hx hb dX10_command_224 ?_
                refine lv_aload_n hx hb dX10_command_225 rfl (lv_at hl 3 rfl) ?_
                refine sp_callm (va_runV (As := []) (rest := [.int ((7 * (nI cm)) + 5), .ref (am (4))]) ⟨hx, hb, hml, hown, hts⟩ (c_X10_foot l D am cy (m_sb (m_sb (m_sb (m_sn (sp_st (sp_st (m_clr (sp_st μ 0 17 (nI cm + 1)) cm 7) 0 13 ((μ 0 13) + 1)) 4 (7 * cm) (m_sign (sp_st μ 0 17 ((nI cm) + 1)))) ((7 * cm) + 1) 3) ((7 * cm) + 2) 64) ((7 * cm) + 3) 58) ((7 * cm) + 4) 44) _ hi (MI_sb (MI_sb (MI_sb (MI_sn (MI.st hm9 (by omega)) (by decide)) (by decide)) (by decide)) (by decide))) (cwV 0 hts gX10_command_X10_foot rfl rfl rfl (by decide +kernel) ⟨Nat.le_of_ble_eq_true rfl, Nat.le_of_ble_eq_true rfl⟩) (sp_preVm hK hP (κ := 0) (by decide) mE_0 rfl) rfl rfl hl.1 rfl (lv_room (Nat.le_of_ble_eq_true rfl)) dX10_command_226 ⟨Nat.le_of_ble_eq_true rfl, Nat.le_of_ble_eq_true rfl⟩) hS (fun q h1 h2 => sp_Alt h1 h2) (sp_Ale hS.1) (fun H locs hP hle hfr hS => ?_)
                refine W.eq (g2 := F0 m 229 ls [.int (m_ftv (m_sb (m_sb (m_sb (m_sn (sp_st (sp_st (m_clr (sp_st μ 0 17 (nI cm + 1)) cm 7) 0 13 ((μ 0 13) + 1)) 4 (7 * cm) (m_sign (sp_st μ 0 17 ((nI cm) + 1)))) ((7 * cm) + 1) 3) ((7 * cm) + 2) 64) ((7 * cm) + 3) 58) ((7 * cm) + 4) 44)), .int ((7 * (nI cm)) + 5), .ref (am (4))]) rfl ?_
                refine sp_iast hx hb hK hP hi hAk hS (κ := 4) (by decide) 1 mE_4 rfl ((7 * cm) + 5) (nI_addE (nI_mulE rfl rfl) rfl) (by omega) (by decide) (r1 := upd ((m_fts (m_sb (m_sb (m_sb (m_sn (sp_st (sp_st (m_clr (sp_st μ 0 17 (nI cm + 1)) cm 7) 0 13 ((μ 0 13) + 1)) 4 (7 * cm) (m_sign (sp_st μ 0 17 ((nI cm) + 1)))) ((7 * cm) + 1) 3) ((7 * cm) + 2) 64) ((7 * cm) + 3) 58) ((7 * cm) + 4) 44)) 4) ((7 * cm) + 5) (m_ftv (m_sb (m_sb (m_sb (m_sn (sp_st (sp_st (m_clr (sp_st μ 0 17 (nI cm + 1)) cm 7) 0 13 ((μ 0 13) + 1)) 4 (7 * cm) (m_sign (sp_st μ 0 17 ((nI cm) + 1)))) ((7 * cm) + 1) 3) ((7 * cm) + 2) 64) ((7 * cm) + 3) 58) ((7 * cm) + 4) 44))) mE_4 dX10_command_229 (fun H locs hP hS => ?_)
                have hP : va_P D vwCl (mW am cy (sp_st (m_fts (m_sb (m_sb (m_sb (m_sn (sp_st (sp_st (m_clr (sp_st μ 0 17 (nI cm + 1)) cm 7) 0 13 ((μ 0 13) + 1)) 4 (7 * cm) (m_sign (sp_st μ 0 17 ((nI cm) + 1)))) ((7 * cm) + 1) 3) ((7 * cm) + 2) 64) ((7 * cm) + 3) 58) ((7 * cm) + 4) 44)) 4 ((7 * cm) + 5) (m_ftv (m_sb (m_sb (m_sb (m_sn (sp_st (sp_st (m_clr (sp_st μ 0 17 (nI cm + 1)) cm 7) 0 13 ((μ 0 13) + 1)) 4 (7 * cm) (m_sign (sp_st μ 0 17 ((nI cm) + 1)))) ((7 * cm) + 1) 3) ((7 * cm) + 2) 64) ((7 * cm) + 3) 58) ((7 * cm) + 4) 44)))) H := hP
                have hP : va_P D vwCl (mW am cy (m_sf (m_sb (m_sb (m_sb (m_sn (sp_st (sp_st (m_clr (sp_st μ 0 17 (nI cm + 1)) cm 7) 0 13 ((μ 0 13) + 1)) 4 (7 * cm) (m_sign (sp_st μ 0 17 ((nI cm) + 1)))) ((7 * cm) + 1) 3) ((7 * cm) + 2) 64) ((7 * cm) + 3) 58) ((7 * cm) + 4) 44) ((7 * cm) + 5))) H := hP
                refine lv_aload_n hx hb dX10_command_230 rfl (lv_at hl 3 rfl) ?_
                refine sp_get hx hb hts wi_X10_command_X10 hown hK hP (κ := 0) (by decide) mE_0 rfl 16 (by decide) (hts _ (List.mem_of_getElem? (i := 2) rfl)) (fun _ h => h) rfl dX10_command_231 ?_
                refine lv_iload_n hx hb dX10_command_234 rfl (lv_at hl 2 rfl) ?_
                refine lv_bipush (v := 6) hx hb dX10_command_235 (by decide) ?_
                refine lv_iadd hx hb dX10_command_237 ?_
                refine lv_aload_n hx hb dX10_command_238 rfl (lv_at hl 3 rfl) ?_
                refine lv_iconst (v := 1) hx hb dX10_command_239 (by decide) ?_
                refine sp_callm (va_runV (As := [.int (1)]) (rest := [.int ((7 * (nI cm)) + 6), .ref (am (4))]) ⟨hx, hb, hml, hown, hts⟩ (c_X10_number l D am cy (m_sf (m_sb (m_sb (m_sb (m_sn (sp_st (sp_st (m_clr (sp_st μ 0 17 (nI cm + 1)) cm 7) 0 13 ((μ 0 13) + 1)) 4 (7 * cm) (m_sign (sp_st μ 0 17 ((nI cm) + 1)))) ((7 * cm) + 1) 3) ((7 * cm) + 2) 64) ((7 * cm) + 3) 58) ((7 * cm) + 4) 44) ((7 * cm) + 5)) _ hi 1 (by first | omega | decide) (MI_sf (MI_sb (MI_sb (MI_sb (MI_sn (MI.st hm9 (by omega)) (by decide)) (by decide)) (by decide)) (by decide)))) (cwV 1 hts gX10_command_X10_number rfl rfl rfl (by decide +kernel) ⟨Nat.le_of_ble_eq_true rfl, Nat.le_of_ble_eq_true rfl⟩) (sp_preVm hK hP (κ := 0) (by decide) mE_0 rfl) rfl rfl hl.1 rfl (lv_room (Nat.le_of_ble_eq_true rfl)) dX10_command_240 ⟨Nat.le_of_ble_eq_true rfl, Nat.le_of_ble_eq_true rfl⟩) hS (fun q h1 h2 => sp_Alt h1 h2) (sp_Ale hS.1) (fun H locs hP hle hfr hS => ?_)
                refine W.eq (g2 := F0 m 243 ls [.int (m_numv (m_sf (m_sb (m_sb (m_sb (m_sn (sp_st (sp_st (m_clr (sp_st μ 0 17 (nI cm + 1)) cm 7) 0 13 ((μ 0 13) + 1)) 4 (7 * cm) (m_sign (sp_st μ 0 17 ((nI cm) + 1)))) ((7 * cm) + 1) 3) ((7 * cm) + 2) 64) ((7 * cm) + 3) 58) ((7 * cm) + 4) 44) ((7 * cm) + 5)) 1), .int ((7 * (nI cm)) + 6), .ref (am (4))]) rfl ?_
                refine sp_iast hx hb hK hP hi hAk hS (κ := 4) (by decide) 1 mE_4 rfl ((7 * cm) + 6) (nI_addE (nI_mulE rfl rfl) rfl) (by omega) (by decide) (r1 := upd ((m_nums (m_sf (m_sb (m_sb (m_sb (m_sn (sp_st (sp_st (m_clr (sp_st μ 0 17 (nI cm + 1)) cm 7) 0 13 ((μ 0 13) + 1)) 4 (7 * cm) (m_sign (sp_st μ 0 17 ((nI cm) + 1)))) ((7 * cm) + 1) 3) ((7 * cm) + 2) 64) ((7 * cm) + 3) 58) ((7 * cm) + 4) 44) ((7 * cm) + 5)) 1) 4) ((7 * cm) + 6) (m_numv (m_sf (m_sb (m_sb (m_sb (m_sn (sp_st (sp_st (m_clr (sp_st μ 0 17 (nI cm + 1)) cm 7) 0 13 ((μ 0 13) + 1)) 4 (7 * cm) (m_sign (sp_st μ 0 17 ((nI cm) + 1)))) ((7 * cm) + 1) 3) ((7 * cm) + 2) 64) ((7 * cm) + 3) 58) ((7 * cm) + 4) 44) ((7 * cm) + 5)) 1)) mE_4 dX10_command_243 (fun H locs hP hS => ?_)
                have hP : va_P D vwCl (mW am cy (sp_st (m_nums (m_sf (m_sb (m_sb (m_sb (m_sn (sp_st (sp_st (m_clr (sp_st μ 0 17 (nI cm + 1)) cm 7) 0 13 ((μ 0 13) + 1)) 4 (7 * cm) (m_sign (sp_st μ 0 17 ((nI cm) + 1)))) ((7 * cm) + 1) 3) ((7 * cm) + 2) 64) ((7 * cm) + 3) 58) ((7 * cm) + 4) 44) ((7 * cm) + 5)) 1) 4 ((7 * cm) + 6) (m_numv (m_sf (m_sb (m_sb (m_sb (m_sn (sp_st (sp_st (m_clr (sp_st μ 0 17 (nI cm + 1)) cm 7) 0 13 ((μ 0 13) + 1)) 4 (7 * cm) (m_sign (sp_st μ 0 17 ((nI cm) + 1)))) ((7 * cm) + 1) 3) ((7 * cm) + 2) 64) ((7 * cm) + 3) 58) ((7 * cm) + 4) 44) ((7 * cm) + 5)) 1))) H := hP
                have hP : va_P D vwCl (mW am cy (m_sn (m_sf (m_sb (m_sb (m_sb (m_sn (sp_st (sp_st (m_clr (sp_st μ 0 17 (nI cm + 1)) cm 7) 0 13 ((μ 0 13) + 1)) 4 (7 * cm) (m_sign (sp_st μ 0 17 ((nI cm) + 1)))) ((7 * cm) + 1) 3) ((7 * cm) + 2) 64) ((7 * cm) + 3) 58) ((7 * cm) + 4) 44) ((7 * cm) + 5)) ((7 * cm) + 6) 1)) H := hP
                refine lv_goto (tgt := 278) hx hb dX10_command_244 (by decide) ?_
                have hE9 : mW am cy (m_sn (m_sf (m_sb (m_sb (m_sb (m_sn (sp_st (sp_st (m_clr (sp_st μ 0 17 (nI cm + 1)) cm 7) 0 13 ((μ 0 13) + 1)) 4 (7 * cm) (m_sign (sp_st μ 0 17 ((nI cm) + 1)))) ((7 * cm) + 1) 3) ((7 * cm) + 2) 64) ((7 * cm) + 3) 58) ((7 * cm) + 4) 44) ((7 * cm) + 5)) ((7 * cm) + 6) 1) = mW am cy (m_cmd μ cm) := by exact mW_eq (by simp [m_cmd, m_cmdK, b2i, c_2, c_4, c_5, c_6])
                have hP : va_P D vwCl (mW am cy (m_cmd μ cm)) H := by rw [← hE9]; exact hP
                exact W.vret hx hb hr (fun T9 hT9 _ => ⟨rfl, by rw [hT9]; exact hP, hS.F hT9⟩) hS.2.2 dX10_command_278
              · exact absurd (c_4.symm.trans c_6) (by decide)
          · skip
            refine lv_iload_n hx hb dX10_command_58 rfl (lv_at hl 1 rfl) ?_
            refine lv_bipush (v := 72) hx hb dX10_command_59 (by decide) ?_
            refine lv_icmp_eq (tgt := 103) hx hb dX10_command_61 (by decide) (fun c_7 => ?_) (fun c_7 => ?_)
            · skip
              refine lv_aload_n hx hb dX10_command_103 rfl (lv_at hl 3 rfl) ?_
              refine lv_dup hx hb dX10_command_104 rfl ?_
              refine sp_get hx hb hts wi_X10_command_X10 hown hK hP (κ := 0) (by decide) mE_0 rfl 13 (by decide) (hts _ (List.mem_of_getElem? (i := 3) rfl)) (fun _ h => h) rfl dX10_command_105 ?_
              refine W.eq (g2 := F0 m 108 ls [.int (μ 0 13), .ref (am (0))]) (by rw [m_c13]) ?_
              refine lv_iconst (v := 1) hx hb dX10_command_108 (by decide) ?_
              refine lv_iadd hx hb dX10_command_109 ?_
              refine sp_put hx hb hts wi_X10_command_X10 tyX10 tyX10_ok nmX10 hown hK hP hi hAk hS (κ := 0) (by decide) mE_0 rfl 13 (by decide) (hts _ (List.mem_of_getElem? (i := 3) rfl)) (fun _ h => h) rfl (ty := tyX10 13) (by decide +kernel) ⟨rfl, rfl⟩ (Nat.le_of_ble_eq_true rfl) (r1 := upd ((m_clr (sp_st μ 0 17 (nI cm + 1)) cm 7) 0) 13 ((μ 0 13) + 1)) (cE_of mE_0 (by simp [upd])) dX10_command_110 (fun H locs hP hS => ?_)
              have hP : va_P D vwCl (mW am cy (sp_st (m_clr (sp_st μ 0 17 (nI cm + 1)) cm 7) 0 13 ((μ 0 13) + 1))) H := hP
              have hm9 : MI (sp_st (m_clr (sp_st μ 0 17 (nI cm + 1)) cm 7) 0 13 (μ 0 13 + 1)) := MI_go hty (by rw [c_7]; decide)
              refine lv_aload_n hx hb dX10_command_113 rfl (lv_at hl 3 rfl) ?_
              refine sp_get hx hb hts wi_X10_command_X10 hown hK hP (κ := 0) (by decide) mE_0 rfl 16 (by decide) (hts _ (List.mem_of_getElem? (i := 2) rfl)) (fun _ h => h) rfl dX10_command_114 ?_
              refine lv_iload_n hx hb dX10_command_117 rfl (lv_at hl 2 rfl) ?_
              refine lv_iload_n hx hb dX10_command_118 rfl (lv_at hl 1 rfl) ?_
              refine sp_iast hx hb hK hP hi hAk hS (κ := 4) (by decide) 1 mE_4 rfl (7 * cm) (nI_mulE rfl rfl) (by omega) (by decide) (r1 := upd ((sp_st (m_clr (sp_st μ 0 17 (nI cm + 1)) cm 7) 0 13 ((μ 0 13) + 1)) 4) (7 * cm) (m_sign (sp_st μ 0 17 ((nI cm) + 1)))) mE_4 dX10_command_119 (fun H locs hP hS => ?_)
              have hP : va_P D vwCl (mW am cy (sp_st (sp_st (m_clr (sp_st μ 0 17 (nI cm + 1)) cm 7) 0 13 ((μ 0 13) + 1)) 4 (7 * cm) (m_sign (sp_st μ 0 17 ((nI cm) + 1))))) H := hP
              refine lv_aload_n hx hb dX10_command_120 rfl (lv_at hl 3 rfl) ?_
              refine sp_get hx hb hts wi_X10_command_X10 hown hK hP (κ := 0) (by decide) mE_0 rfl 16 (by decide) (hts _ (List.mem_of_getElem? (i := 2) rfl)) (fun _ h => h) rfl dX10_command_121 ?_
              refine lv_iload_n hx hb dX10_command_124 rfl (lv_at hl 2 rfl) ?_
              refine lv_iconst (v := 1) hx hb dX10_command_125 (by decide) ?_
              refine lv_iadd hx hb dX10_command_126 ?_
              refine lv_aload_n hx hb dX10_command_127 rfl (lv_at hl 3 rfl) ?_
              refine lv_iload_n hx hb dX10_command_128 rfl (lv_at hl 1 rfl) ?_
              refine lv_bipush (v := 84) hx hb dX10_command_129 (by decide) ?_
              refine lv_icmp_eq (tgt := 140) hx hb dX10_command_131 (by decide) (fun c_8 => ?_) (fun c_8 => ?_)
              · exact absurd c_8 c_2
              · skip
                refine lv_iload_n hx hb dX10_command_134 rfl (lv_at hl 1 rfl) ?_
                refine lv_bipush (v := 87) hx hb dX10_command_135 (by decide) ?_
                refine lv_icmp_ne (tgt := 144) hx hb dX10_command_137 (by decide) (fun c_9 => ?_) (fun c_9 => ?_)
                · skip
                  refine lv_iconst (v := 3) hx hb dX10_command_144 (by decide) ?_
                  refine sp_callm (va_runV (As := [.int (3)]) (rest := [.int ((7 * (nI cm)) + 1), .ref (am (4))]) ⟨hx, hb, hml, hown, hts⟩ (c_X10_number l D am cy (sp_st (sp_st (m_clr (sp_st μ 0 17 (nI cm + 1)) cm 7) 0 13 ((μ 0 13) + 1)) 4 (7 * cm) (m_sign (sp_st μ 0 17 ((nI cm) + 1)))) _ hi 3 (by first | omega | decide) (MI.st hm9 (by omega))) (cwV 1 hts gX10_command_X10_number rfl rfl rfl (by decide +kernel) ⟨Nat.le_of_ble_eq_true rfl, Nat.le_of_ble_eq_true rfl⟩) (sp_preVm hK hP (κ := 0) (by decide) mE_0 rfl) rfl rfl hl.1 rfl (lv_room (Nat.le_of_ble_eq_true rfl)) dX10_command_145 ⟨Nat.le_of_ble_eq_true rfl, Nat.le_of_ble_eq_true rfl⟩) hS (fun q h1 h2 => sp_Alt h1 h2) (sp_Ale hS.1) (fun H locs hP hle hfr hS => ?_)
                  refine W.eq (g2 := F0 m 148 ls [.int (m_numv (sp_st (sp_st (m_clr (sp_st μ 0 17 (nI cm + 1)) cm 7) 0 13 ((μ 0 13) + 1)) 4 (7 * cm) (m_sign (sp_st μ 0 17 ((nI cm) + 1)))) 3), .int ((7 * (nI cm)) + 1), .ref (am (4))]) rfl ?_
                  refine sp_iast hx hb hK hP hi hAk hS (κ := 4) (by decide) 1 mE_4 rfl ((7 * cm) + 1) (nI_addE (nI_mulE rfl rfl) rfl) (by omega) (by decide) (r1 := upd ((m_nums (sp_st (sp_st (m_clr (sp_st μ 0 17 (nI cm + 1)) cm 7) 0 13 ((μ 0 13) + 1)) 4 (7 * cm) (m_sign (sp_st μ 0 17 ((nI cm) + 1)))) 3) 4) ((7 * cm) + 1) (m_numv (sp_st (sp_st (m_clr (sp_st μ 0 17 (nI cm + 1)) cm 7) 0 13 ((μ 0 13) + 1)) 4 (7 * cm) (m_sign (sp_st μ 0 17 ((nI cm) + 1)))) 3)) mE_4 dX10_command_148 (fun H locs hP hS => ?_)
                  have hP : va_P D vwCl (mW am cy (sp_st (m_nums (sp_st (sp_st (m_clr (sp_st μ 0 17 (nI cm + 1)) cm 7) 0 13 ((μ 0 13) + 1)) 4 (7 * cm) (m_sign (sp_st μ 0 17 ((nI cm) + 1)))) 3) 4 ((7 * cm) + 1) (m_numv (sp_st (sp_st (m_clr (sp_st μ 0 17 (nI cm + 1)) cm 7) 0 13 ((μ 0 13) + 1)) 4 (7 * cm) (m_sign (sp_st μ 0 17 ((nI cm) + 1)))) 3))) H := hP
                  have hP : va_P D vwCl (mW am cy (m_sn (sp_st (sp_st (m_clr (sp_st μ 0 17 (nI cm + 1)) cm 7) 0 13 ((μ 0 13) + 1)) 4 (7 * cm) (m_sign (sp_st μ 0 17 ((nI cm) + 1)))) ((7 * cm) + 1) 3)) H := hP
                  refine lv_iload_n hx hb dX10_command_149 rfl (lv_at hl 1 rfl) ?_
                  refine lv_lookup (off := 97) (tgt := 247) hx hb dX10_command_150 (by decide) (by rw [c_7]; decide +kernel) (by decide) ?_
                  refine lv_aload_n hx hb dX10_command_247 rfl (lv_at hl 3 rfl) ?_
                  refine sp_get hx hb hts wi_X10_command_X10 hown hK hP (κ := 0) (by decide) mE_0 rfl 16 (by decide) (hts _ (List.mem_of_getElem? (i := 2) rfl)) (fun _ h => h) rfl dX10_command_248 ?_
                  refine lv_iload_n hx hb dX10_command_251 rfl (lv_at hl 2 rfl) ?_
                  refine lv_iconst (v := 2) hx hb dX10_command_252 (by decide) ?_
                  refine lv_iadd hx hb dX10_command_253 ?_
                  refine lv_aload_n hx hb dX10_command_254 rfl (lv_at hl 3 rfl) ?_
                  refine lv_bipush (v := 58) hx hb dX10_command_255 (by decide) ?_
                  refine sp_callm (va_runV (As := [.int (58)]) (rest := [.int ((7 * (nI cm)) + 2), .ref (am (4))]) ⟨hx, hb, hml, hown, hts⟩ (c_X10_behind l D am cy (m_sn (sp_st (sp_st (m_clr (sp_st μ 0 17 (nI cm + 1)) cm 7) 0 13 ((μ 0 13) + 1)) 4 (7 * cm) (m_sign (sp_st μ 0 17 ((nI cm) + 1)))) ((7 * cm) + 1) 3) _ hi 58 (by decide) (MI_sn (MI.st hm9 (by omega)) (by decide))) (cwV 1 hts gX10_command_X10_behind rfl rfl rfl (by decide +kernel) ⟨Nat.le_of_ble_eq_true rfl, Nat.le_of_ble_eq_true rfl⟩) (sp_preVm hK hP (κ := 0) (by decide) mE_0 rfl) rfl rfl hl.1 rfl (lv_room (Nat.le_of_ble_eq_true rfl)) dX10_command_257 ⟨Nat.le_of_ble_eq_true rfl, Nat.le_of_ble_eq_true rfl⟩) hS (fun q h1 h2 => sp_Alt h1 h2) (sp_Ale hS.1) (fun H locs hP hle hfr hS => ?_)
                  refine W.eq (g2 := F0 m 260 ls [.int (m_numv (m_needs (m_sn (sp_st (sp_st (m_clr (sp_st μ 0 17 (nI cm + 1)) cm 7) 0 13 ((μ 0 13) + 1)) 4 (7 * cm) (m_sign (sp_st μ 0 17 ((nI cm) + 1)))) ((7 * cm) + 1) 3) 58) 3), .int ((7 * (nI cm)) + 2), .ref (am (4))]) rfl ?_
                  refine sp_iast hx hb hK hP hi hAk hS (κ := 4) (by decide) 1 mE_4 rfl ((7 * cm) + 2) (nI_addE (nI_mulE rfl rfl) rfl) (by omega) (by decide) (r1 := upd ((m_nums (m_needs (m_sn (sp_st (sp_st (m_clr (sp_st μ 0 17 (nI cm + 1)) cm 7) 0 13 ((μ 0 13) + 1)) 4 (7 * cm) (m_sign (sp_st μ 0 17 ((nI cm) + 1)))) ((7 * cm) + 1) 3) 58) 3) 4) ((7 * cm) + 2) (m_numv (m_needs (m_sn (sp_st (sp_st (m_clr (sp_st μ 0 17 (nI cm + 1)) cm 7) 0 13 ((μ 0 13) + 1)) 4 (7 * cm) (m_sign (sp_st μ 0 17 ((nI cm) + 1)))) ((7 * cm) + 1) 3) 58) 3)) mE_4 dX10_command_260 (fun H locs hP hS => ?_)
                  have hP : va_P D vwCl (mW am cy (sp_st (m_nums (m_needs (m_sn (sp_st (sp_st (m_clr (sp_st μ 0 17 (nI cm + 1)) cm 7) 0 13 ((μ 0 13) + 1)) 4 (7 * cm) (m_sign (sp_st μ 0 17 ((nI cm) + 1)))) ((7 * cm) + 1) 3) 58) 3) 4 ((7 * cm) + 2) (m_numv (m_needs (m_sn (sp_st (sp_st (m_clr (sp_st μ 0 17 (nI cm + 1)) cm 7) 0 13 ((μ 0 13) + 1)) 4 (7 * cm) (m_sign (sp_st μ 0 17 ((nI cm) + 1)))) ((7 * cm) + 1) 3) 58) 3))) H := hP
                  have hP : va_P D vwCl (mW am cy (m_sb (m_sn (sp_st (sp_st (m_clr (sp_st μ 0 17 (nI cm + 1)) cm 7) 0 13 ((μ 0 13) + 1)) 4 (7 * cm) (m_sign (sp_st μ 0 17 ((nI cm) + 1)))) ((7 * cm) + 1) 3) ((7 * cm) + 2) 58)) H := hP
                  refine lv_aload_n hx hb dX10_command_261 rfl (lv_at hl 3 rfl) ?_
                  refine sp_get hx hb hts wi_X10_command_X10 hown hK hP (κ := 0) (by decide) mE_0 rfl 16 (by decide) (hts _ (List.mem_of_getElem? (i := 2) rfl)) (fun _ h => h) rfl dX10_command_262 ?_
                  refine lv_iload_n hx hb dX10_command_265 rfl (lv_at hl 2 rfl) ?_
                  refine lv_iconst (v := 3) hx hb dX10_command_266 (by decide) ?_
                  refine lv_iadd hx hb dX10_command_267 ?_
                  refine lv_aload_n hx hb dX10_command_268 rfl (lv_at hl 3 rfl) ?_
                  refine lv_bipush (v := 44) hx hb dX10_command_269 (by decide) ?_
                  refine sp_callm (va_runV (As := [.int (44)]) (rest := [.int ((7 * (nI cm)) + 3), .ref (am (4))]) ⟨hx, hb, hml, hown, hts⟩ (c_X10_behind l D am cy (m_sb (m_sn (sp_st (sp_st (m_clr (sp_st μ 0 17 (nI cm + 1)) cm 7) 0 13 ((μ 0 13) + 1)) 4 (7 * cm) (m_sign (sp_st μ 0 17 ((nI cm) + 1)))) ((7 * cm) + 1) 3) ((7 * cm) + 2) 58) _ hi 44 (by decide) (MI_sb (MI_sn (MI.st hm9 (by omega)) (by decide)) (by decide))) (cwV 1 hts gX10_command_X10_behind rfl rfl rfl (by decide +kernel) ⟨Nat.le_of_ble_eq_true rfl, Nat.le_of_ble_eq_true rfl⟩) (sp_preVm hK hP (κ := 0) (by decide) mE_0 rfl) rfl rfl hl.1 rfl (lv_room (Nat.le_of_ble_eq_true rfl)) dX10_command_271 ⟨Nat.le_of_ble_eq_true rfl, Nat.le_of_ble_eq_true rfl⟩) hS (fun q h1 h2 => sp_Alt h1 h2) (sp_Ale hS.1) (fun H locs hP hle hfr hS => ?_)
                  refine W.eq (g2 := F0 m 274 ls [.int (m_numv (m_needs (m_sb (m_sn (sp_st (sp_st (m_clr (sp_st μ 0 17 (nI cm + 1)) cm 7) 0 13 ((μ 0 13) + 1)) 4 (7 * cm) (m_sign (sp_st μ 0 17 ((nI cm) + 1)))) ((7 * cm) + 1) 3) ((7 * cm) + 2) 58) 44) 3), .int ((7 * (nI cm)) + 3), .ref (am (4))]) rfl ?_
                  refine sp_iast hx hb hK hP hi hAk hS (κ := 4) (by decide) 1 mE_4 rfl ((7 * cm) + 3) (nI_addE (nI_mulE rfl rfl) rfl) (by omega) (by decide) (r1 := upd ((m_nums (m_needs (m_sb (m_sn (sp_st (sp_st (m_clr (sp_st μ 0 17 (nI cm + 1)) cm 7) 0 13 ((μ 0 13) + 1)) 4 (7 * cm) (m_sign (sp_st μ 0 17 ((nI cm) + 1)))) ((7 * cm) + 1) 3) ((7 * cm) + 2) 58) 44) 3) 4) ((7 * cm) + 3) (m_numv (m_needs (m_sb (m_sn (sp_st (sp_st (m_clr (sp_st μ 0 17 (nI cm + 1)) cm 7) 0 13 ((μ 0 13) + 1)) 4 (7 * cm) (m_sign (sp_st μ 0 17 ((nI cm) + 1)))) ((7 * cm) + 1) 3) ((7 * cm) + 2) 58) 44) 3)) mE_4 dX10_command_274 (fun H locs hP hS => ?_)
                  have hP : va_P D vwCl (mW am cy (sp_st (m_nums (m_needs (m_sb (m_sn (sp_st (sp_st (m_clr (sp_st μ 0 17 (nI cm + 1)) cm 7) 0 13 ((μ 0 13) + 1)) 4 (7 * cm) (m_sign (sp_st μ 0 17 ((nI cm) + 1)))) ((7 * cm) + 1) 3) ((7 * cm) + 2) 58) 44) 3) 4 ((7 * cm) + 3) (m_numv (m_needs (m_sb (m_sn (sp_st (sp_st (m_clr (sp_st μ 0 17 (nI cm + 1)) cm 7) 0 13 ((μ 0 13) + 1)) 4 (7 * cm) (m_sign (sp_st μ 0 17 ((nI cm) + 1)))) ((7 * cm) + 1) 3) ((7 * cm) + 2) 58) 44) 3))) H := hP
                  have hP : va_P D vwCl (mW am cy (m_sb (m_sb (m_sn (sp_st (sp_st (m_clr (sp_st μ 0 17 (nI cm + 1)) cm 7) 0 13 ((μ 0 13) + 1)) 4 (7 * cm) (m_sign (sp_st μ 0 17 ((nI cm) + 1)))) ((7 * cm) + 1) 3) ((7 * cm) + 2) 58) ((7 * cm) + 3) 44)) H := hP
                  refine lv_goto (tgt := 278) hx hb dX10_command_275 (by decide) ?_
                  have hE9 : mW am cy (m_sb (m_sb (m_sn (sp_st (sp_st (m_clr (sp_st μ 0 17 (nI cm + 1)) cm 7) 0 13 ((μ 0 13) + 1)) 4 (7 * cm) (m_sign (sp_st μ 0 17 ((nI cm) + 1)))) ((7 * cm) + 1) 3) ((7 * cm) + 2) 58) ((7 * cm) + 3) 44) = mW am cy (m_cmd μ cm) := by exact mW_eq (by simp [m_cmd, m_cmdK, b2i, c_2, c_4, c_7, c_8, c_9])
                  have hP : va_P D vwCl (mW am cy (m_cmd μ cm)) H := by rw [← hE9]; exact hP
                  exact W.vret hx hb hr (fun T9 hT9 _ => ⟨rfl, by rw [hT9]; exact hP, hS.F hT9⟩) hS.2.2 dX10_command_278
                · exact absurd (c_7.symm.trans c_9) (by decide)
            · skip
              refine lv_iload_n hx hb dX10_command_64 rfl (lv_at hl 1 rfl) ?_
              refine lv_bipush (v := 70) hx hb dX10_command_65 (by decide) ?_
              refine lv_icmp_eq (tgt := 103) hx hb dX10_command_67 (by decide) (fun c_10 => ?_) (fun c_10 => ?_)
              · skip
                refine lv_aload_n hx hb dX10_command_103 rfl (lv_at hl 3 rfl) ?_
                refine lv_dup hx hb dX10_command_104 rfl ?_
                refine sp_get hx hb hts wi_X10_command_X10 hown hK hP (κ := 0) (by decide) mE_0 rfl 13 (by decide) (hts _ (List.mem_of_getElem? (i := 3) rfl)) (fun _ h => h) rfl dX10_command_105 ?_
                refine W.eq (g2 := F0 m 108 ls [.int (μ 0 13), .ref (am (0))]) (by rw [m_c13]) ?_
                refine lv_iconst (v := 1) hx hb dX10_command_108 (by decide) ?_
                refine lv_iadd hx hb dX10_command_109 ?_
                refine sp_put hx hb hts wi_X10_command_X10 tyX10 tyX10_ok nmX10 hown hK hP hi hAk hS (κ := 0) (by decide) mE_0 rfl 13 (by decide) (hts _ (List.mem_of_getElem? (i := 3) rfl)) (fun _ h => h) rfl (ty := tyX10 13) (by decide +kernel) ⟨rfl, rfl⟩ (Nat.le_of_ble_eq_true rfl) (r1 := upd ((m_clr (sp_st μ 0 17 (nI cm + 1)) cm 7) 0) 13 ((μ 0 13) + 1)) (cE_of mE_0 (by simp [upd])) dX10_command_110 (fun H locs hP hS => ?_)
                have hP : va_P D vwCl (mW am cy (sp_st (m_clr (sp_st μ 0 17 (nI cm + 1)) cm 7) 0 13 ((μ 0 13) + 1))) H := hP
                have hm9 : MI (sp_st (m_clr (sp_st μ 0 17 (nI cm + 1)) cm 7) 0 13 (μ 0 13 + 1)) := MI_go hty (by rw [c_10]; decide)
                refine lv_aload_n hx hb dX10_command_113 rfl (lv_at hl 3 rfl) ?_
                refine sp_get hx hb hts wi_X10_command_X10 hown hK hP (κ := 0) (by decide) mE_0 rfl 16 (by decide) (hts _ (List.mem_of_getElem? (i := 2) rfl)) (fun _ h => h) rfl dX10_command_114 ?_
                refine lv_iload_n hx hb dX10_command_117 rfl (lv_at hl 2 rfl) ?_
                refine lv_iload_n hx hb dX10_command_118 rfl (lv_at hl 1 rfl) ?_
                refine sp_iast hx hb hK hP hi hAk hS (κ := 4) (by decide) 1 mE_4 rfl (7 * cm) (nI_mulE rfl rfl) (by omega) (by decide) (r1 := upd ((sp_st (m_clr (sp_st μ 0 17 (nI cm + 1)) cm 7) 0 13 ((μ 0 13) + 1)) 4) (7 * cm) (m_sign (sp_st μ 0 17 ((nI cm) + 1)))) mE_4 dX10_command_119 (fun H locs hP hS => ?_)
                have hP : va_P D vwCl (mW am cy (sp_st (sp_st (m_clr (sp_st μ 0 17 (nI cm + 1)) cm 7) 0 13 ((μ 0 13) + 1)) 4 (7 * cm) (m_sign (sp_st μ 0 17 ((nI cm) + 1))))) H := hP
                refine lv_aload_n hx hb dX10_command_120 rfl (lv_at hl 3 rfl) ?_
                refine sp_get hx hb hts wi_X10_command_X10 hown hK hP (κ := 0) (by decide) mE_0 rfl 16 (by decide) (hts _ (List.mem_of_getElem? (i := 2) rfl)) (fun _ h => h) rfl dX10_command_121 ?_
                refine lv_iload_n hx hb dX10_command_124 rfl (lv_at hl 2 rfl) ?_
                refine lv_iconst (v := 1) hx hb dX10_command_125 (by decide) ?_
                refine lv_iadd hx hb dX10_command_126 ?_
                refine lv_aload_n hx hb dX10_command_127 rfl (lv_at hl 3 rfl) ?_
                refine lv_iload_n hx hb dX10_command_128 rfl (lv_at hl 1 rfl) ?_
                refine lv_bipush (v := 84) hx hb dX10_command_129 (by decide) ?_
                refine lv_icmp_eq (tgt := 140) hx hb dX10_command_131 (by decide) (fun c_11 => ?_) (fun c_11 => ?_)
                · exact absurd c_11 c_2
                · skip
                  refine lv_iload_n hx hb dX10_command_134 rfl (lv_at hl 1 rfl) ?_
                  refine lv_bipush (v := 87) hx hb dX10_command_135 (by decide) ?_
                  refine lv_icmp_ne (tgt := 144) hx hb dX10_command_137 (by decide) (fun c_12 => ?_) (fun c_12 => ?_)
                  · skip
                    refine lv_iconst (v := 3) hx hb dX10_command_144 (by decide) ?_
                    refine sp_callm (va_runV (As := [.int (3)]) (rest := [.int ((7 * (nI cm)) + 1), .ref (am (4))]) ⟨hx, hb, hml, hown, hts⟩ (c_X10_number l D am cy (sp_st (sp_st (m_clr (sp_st μ 0 17 (nI cm + 1)) cm 7) 0 13 ((μ 0 13) + 1)) 4 (7 * cm) (m_sign (sp_st μ 0 17 ((nI cm) + 1)))) _ hi 3 (by first | omega | decide) (MI.st hm9 (by omega))) (cwV 1 hts gX10_command_X10_number rfl rfl rfl (by decide +kernel) ⟨Nat.le_of_ble_eq_true rfl, Nat.le_of_ble_eq_true rfl⟩) (sp_preVm hK hP (κ := 0) (by decide) mE_0 rfl) rfl rfl hl.1 rfl (lv_room (Nat.le_of_ble_eq_true rfl)) dX10_command_145 ⟨Nat.le_of_ble_eq_true rfl, Nat.le_of_ble_eq_true rfl⟩) hS (fun q h1 h2 => sp_Alt h1 h2) (sp_Ale hS.1) (fun H locs hP hle hfr hS => ?_)
                    refine W.eq (g2 := F0 m 148 ls [.int (m_numv (sp_st (sp_st (m_clr (sp_st μ 0 17 (nI cm + 1)) cm 7) 0 13 ((μ 0 13) + 1)) 4 (7 * cm) (m_sign (sp_st μ 0 17 ((nI cm) + 1)))) 3), .int ((7 * (nI cm)) + 1), .ref (am (4))]) rfl ?_
                    refine sp_iast hx hb hK hP hi hAk hS (κ := 4) (by decide) 1 mE_4 rfl ((7 * cm) + 1) (nI_addE (nI_mulE rfl rfl) rfl) (by omega) (by decide) (r1 := upd ((m_nums (sp_st (sp_st (m_clr (sp_st μ 0 17 (nI cm + 1)) cm 7) 0 13 ((μ 0 13) + 1)) 4 (7 * cm) (m_sign (sp_st μ 0 17 ((nI cm) + 1)))) 3) 4) ((7 * cm) + 1) (m_numv (sp_st (sp_st (m_clr (sp_st μ 0 17 (nI cm + 1)) cm 7) 0 13 ((μ 0 13) + 1)) 4 (7 * cm) (m_sign (sp_st μ 0 17 ((nI cm) + 1)))) 3)) mE_4 dX10_command_148 (fun H locs hP hS => ?_)
                    have hP : va_P D vwCl (mW am cy (sp_st (m_nums (sp_st (sp_st (m_clr (sp_st μ 0 17 (nI cm + 1)) cm 7) 0 13 ((μ 0 13) + 1)) 4 (7 * cm) (m_sign (sp_st μ 0 17 ((nI cm) + 1)))) 3) 4 ((7 * cm) + 1) (m_numv (sp_st (sp_st (m_clr (sp_st μ 0 17 (nI cm + 1)) cm 7) 0 13 ((μ 0 13) + 1)) 4 (7 * cm) (m_sign (sp_st μ 0 17 ((nI cm) + 1)))) 3))) H := hP
                    have hP : va_P D vwCl (mW am cy (m_sn (sp_st (sp_st (m_clr (sp_st μ 0 17 (nI cm + 1)) cm 7) 0 13 ((μ 0 13) + 1)) 4 (7 * cm) (m_sign (sp_st μ 0 17 ((nI cm) + 1)))) ((7 * cm) + 1) 3)) H := hP
                    refine lv_iload_n hx hb dX10_command_149 rfl (lv_at hl 1 rfl) ?_
                    refine lv_lookup (off := 128) (tgt := 278) hx hb dX10_command_150 (by decide) (by rw [c_10]; decide +kernel) (by decide) ?_
                    have hE9 : mW am cy (m_sn (sp_st (sp_st (m_clr (sp_st μ 0 17 (nI cm + 1)) cm 7) 0 13 ((μ 0 13) + 1)) 4 (7 * cm) (m_sign (sp_st μ 0 17 ((nI cm) + 1)))) ((7 * cm) + 1) 3) = mW am cy (m_cmd μ cm) := by exact mW_eq (by simp [m_cmd, m_cmdK, b2i, c_2, c_4, c_7, c_10, c_11, c_12])
                    have hP : va_P D vwCl (mW am cy (m_cmd μ cm)) H := by rw [← hE9]; exact hP
                    exact W.vret hx hb hr (fun T9 hT9 _ => ⟨rfl, by rw [hT9]; exact hP, hS.F hT9⟩) hS.2.2 dX10_command_278
                  · exact absurd (c_10.symm.trans c_12) (by decide)
              · skip
                refine lv_iload_n hx hb dX10_command_70 rfl (lv_at hl 1 rfl) ?_
                refine lv_bipush (v := 68) hx hb dX10_command_71 (by decide) ?_
                refine lv_icmp_eq (tgt := 103) hx hb dX10_command_73 (by decide) (fun c_13 => ?_) (fun c_13 => ?_)
                · skip
                  refine lv_aload_n hx hb dX10_command_103 rfl (lv_at hl 3 rfl) ?_
                  refine lv_dup hx hb dX10_command_104 rfl ?_
                  refine sp_get hx hb hts wi_X10_command_X10 hown hK hP (κ := 0) (by decide) mE_0 rfl 13 (by decide) (hts _ (List.mem_of_getElem? (i := 3) rfl)) (fun _ h => h) rfl dX10_command_105 ?_
                  refine W.eq (g2 := F0 m 108 ls [.int (μ 0 13), .ref (am (0))]) (by rw [m_c13]) ?_
                  refine lv_iconst (v := 1) hx hb dX10_command_108 (by decide) ?_
                  refine lv_iadd hx hb dX10_command_109 ?_
                  refine sp_put hx hb hts wi_X10_command_X10 tyX10 tyX10_ok nmX10 hown hK hP hi hAk hS (κ := 0) (by decide) mE_0 rfl 13 (by decide) (hts _ (List.mem_of_getElem? (i := 3) rfl)) (fun _ h => h) rfl (ty := tyX10 13) (by decide +kernel) ⟨rfl, rfl⟩ (Nat.le_of_ble_eq_true rfl) (r1 := upd ((m_clr (sp_st μ 0 17 (nI cm + 1)) cm 7) 0) 13 ((μ 0 13) + 1)) (cE_of mE_0 (by simp [upd])) dX10_command_110 (fun H locs hP hS => ?_)
                  have hP : va_P D vwCl (mW am cy (sp_st (m_clr (sp_st μ 0 17 (nI cm + 1)) cm 7) 0 13 ((μ 0 13) + 1))) H := hP
                  have hm9 : MI (sp_st (m_clr (sp_st μ 0 17 (nI cm + 1)) cm 7) 0 13 (μ 0 13 + 1)) := MI_go hty (by rw [c_13]; decide)
                  refine lv_aload_n hx hb dX10_command_113 rfl (lv_at hl 3 rfl) ?_
                  refine sp_get hx hb hts wi_X10_command_X10 hown hK hP (κ := 0) (by decide) mE_0 rfl 16 (by decide) (hts _ (List.mem_of_getElem? (i := 2) rfl)) (fun _ h => h) rfl dX10_command_114 ?_
                  refine lv_iload_n hx hb dX10_command_117 rfl (lv_at hl 2 rfl) ?_
                  refine lv_iload_n hx hb dX10_command_118 rfl (lv_at hl 1 rfl) ?_
                  refine sp_iast hx hb hK hP hi hAk hS (κ := 4) (by decide) 1 mE_4 rfl (7 * cm) (nI_mulE rfl rfl) (by omega) (by decide) (r1 := upd ((sp_st (m_clr (sp_st μ 0 17 (nI cm + 1)) cm 7) 0 13 ((μ 0 13) + 1)) 4) (7 * cm) (m_sign (sp_st μ 0 17 ((nI cm) + 1)))) mE_4 dX10_command_119 (fun H locs hP hS => ?_)
                  have hP : va_P D vwCl (mW am cy (sp_st (sp_st (m_clr (sp_st μ 0 17 (nI cm + 1)) cm 7) 0 13 ((μ 0 13) + 1)) 4 (7 * cm) (m_sign (sp_st μ 0 17 ((nI cm) + 1))))) H := hP
                  refine lv_aload_n hx hb dX10_command_120 rfl (lv_at hl 3 rfl) ?_
                  refine sp_get hx hb hts wi_X10_command_X10 hown hK hP (κ := 0) (by decide) mE_0 rfl 16 (by decide) (hts _ (List.mem_of_getElem? (i := 2) rfl)) (fun _ h => h) rfl dX10_command_121 ?_
                  refine lv_iload_n hx hb dX10_command_124 rfl (lv_at hl 2 rfl) ?_
                  refine lv_iconst (v := 1) hx hb dX10_command_125 (by decide) ?_
                  refine lv_iadd hx hb dX10_command_126 ?_
                  refine lv_aload_n hx hb dX10_command_127 rfl (lv_at hl 3 rfl) ?_
                  refine lv_iload_n hx hb dX10_command_128 rfl (lv_at hl 1 rfl) ?_
                  refine lv_bipush (v := 84) hx hb dX10_command_129 (by decide) ?_
                  refine lv_icmp_eq (tgt := 140) hx hb dX10_command_131 (by decide) (fun c_14 => ?_) (fun c_14 => ?_)
                  · exact absurd c_14 c_2
                  · skip
                    refine lv_iload_n hx hb dX10_command_134 rfl (lv_at hl 1 rfl) ?_
                    refine lv_bipush (v := 87) hx hb dX10_command_135 (by decide) ?_
                    refine lv_icmp_ne (tgt := 144) hx hb dX10_command_137 (by decide) (fun c_15 => ?_) (fun c_15 => ?_)
                    · skip
                      refine lv_iconst (v := 3) hx hb dX10_command_144 (by decide) ?_
                      refine sp_callm (va_runV (As := [.int (3)]) (rest := [.int ((7 * (nI cm)) + 1), .ref (am (4))]) ⟨hx, hb, hml, hown, hts⟩ (c_X10_number l D am cy (sp_st (sp_st (m_clr (sp_st μ 0 17 (nI cm + 1)) cm 7) 0 13 ((μ 0 13) + 1)) 4 (7 * cm) (m_sign (sp_st μ 0 17 ((nI cm) + 1)))) _ hi 3 (by first | omega | decide) (MI.st hm9 (by omega))) (cwV 1 hts gX10_command_X10_number rfl rfl rfl (by decide +kernel) ⟨Nat.le_of_ble_eq_true rfl, Nat.le_of_ble_eq_true rfl⟩) (sp_preVm hK hP (κ := 0) (by decide) mE_0 rfl) rfl rfl hl.1 rfl (lv_room (Nat.le_of_ble_eq_true rfl)) dX10_command_145 ⟨Nat.le_of_ble_eq_true rfl, Nat.le_of_ble_eq_true rfl⟩) hS (fun q h1 h2 => sp_Alt h1 h2) (sp_Ale hS.1) (fun H locs hP hle hfr hS => ?_)
                      refine W.eq (g2 := F0 m 148 ls [.int (m_numv (sp_st (sp_st (m_clr (sp_st μ 0 17 (nI cm + 1)) cm 7) 0 13 ((μ 0 13) + 1)) 4 (7 * cm) (m_sign (sp_st μ 0 17 ((nI cm) + 1)))) 3), .int ((7 * (nI cm)) + 1), .ref (am (4))]) rfl ?_
                      refine sp_iast hx hb hK hP hi hAk hS (κ := 4) (by decide) 1 mE_4 rfl ((7 * cm) + 1) (nI_addE (nI_mulE rfl rfl) rfl) (by omega) (by decide) (r1 := upd ((m_nums (sp_st (sp_st (m_clr (sp_st μ 0 17 (nI cm + 1)) cm 7) 0 13 ((μ 0 13) + 1)) 4 (7 * cm) (m_sign (sp_st μ 0 17 ((nI cm) + 1)))) 3) 4) ((7 * cm) + 1) (m_numv (sp_st (sp_st (m_clr (sp_st μ 0 17 (nI cm + 1)) cm 7) 0 13 ((μ 0 13) + 1)) 4 (7 * cm) (m_sign (sp_st μ 0 17 ((nI cm) + 1)))) 3)) mE_4 dX10_command_148 (fun H locs hP hS => ?_)
                      have hP : va_P D vwCl (mW am cy (sp_st (m_nums (sp_st (sp_st (m_clr (sp_st μ 0 17 (nI cm + 1)) cm 7) 0 13 ((μ 0 13) + 1)) 4 (7 * cm) (m_sign (sp_st μ 0 17 ((nI cm) + 1)))) 3) 4 ((7 * cm) + 1) (m_numv (sp_st (sp_st (m_clr (sp_st μ 0 17 (nI cm + 1)) cm 7) 0 13 ((μ 0 13) + 1)) 4 (7 * cm) (m_sign (sp_st μ 0 17 ((nI cm) + 1)))) 3))) H := hP
                      have hP : va_P D vwCl (mW am cy (m_sn (sp_st (sp_st (m_clr (sp_st μ 0 17 (nI cm + 1)) cm 7) 0 13 ((μ 0 13) + 1)) 4 (7 * cm) (m_sign (sp_st μ 0 17 ((nI cm) + 1)))) ((7 * cm) + 1) 3)) H := hP
                      refine lv_iload_n hx hb dX10_command_149 rfl (lv_at hl 1 rfl) ?_
                      refine lv_lookup (off := 128) (tgt := 278) hx hb dX10_command_150 (by decide) (by rw [c_13]; decide +kernel) (by decide) ?_
                      have hE9 : mW am cy (m_sn (sp_st (sp_st (m_clr (sp_st μ 0 17 (nI cm + 1)) cm 7) 0 13 ((μ 0 13) + 1)) 4 (7 * cm) (m_sign (sp_st μ 0 17 ((nI cm) + 1)))) ((7 * cm) + 1) 3) = mW am cy (m_cmd μ cm) := by exact mW_eq (by simp [m_cmd, m_cmdK, b2i, c_2, c_4, c_7, c_10, c_13, c_14, c_15])
                      have hP : va_P D vwCl (mW am cy (m_cmd μ cm)) H := by rw [← hE9]; exact hP
                      exact W.vret hx hb hr (fun T9 hT9 _ => ⟨rfl, by rw [hT9]; exact hP, hS.F hT9⟩) hS.2.2 dX10_command_278
                    · exact absurd (c_13.symm.trans c_15) (by decide)
                · skip
                  refine lv_iload_n hx hb dX10_command_76 rfl (lv_at hl 1 rfl) ?_
                  refine lv_bipush (v := 67) hx hb dX10_command_77 (by decide) ?_
                  refine lv_icmp_eq (tgt := 103) hx hb dX10_command_79 (by decide) (fun c_16 => ?_) (fun c_16 => ?_)
                  · skip
                    refine lv_aload_n hx hb dX10_command_103 rfl (lv_at hl 3 rfl) ?_
                    refine lv_dup hx hb dX10_command_104 rfl ?_
                    refine sp_get hx hb hts wi_X10_command_X10 hown hK hP (κ := 0) (by decide) mE_0 rfl 13 (by decide) (hts _ (List.mem_of_getElem? (i := 3) rfl)) (fun _ h => h) rfl dX10_command_105 ?_
                    refine W.eq (g2 := F0 m 108 ls [.int (μ 0 13), .ref (am (0))]) (by rw [m_c13]) ?_
                    refine lv_iconst (v := 1) hx hb dX10_command_108 (by decide) ?_
                    refine lv_iadd hx hb dX10_command_109 ?_
                    refine sp_put hx hb hts wi_X10_command_X10 tyX10 tyX10_ok nmX10 hown hK hP hi hAk hS (κ := 0) (by decide) mE_0 rfl 13 (by decide) (hts _ (List.mem_of_getElem? (i := 3) rfl)) (fun _ h => h) rfl (ty := tyX10 13) (by decide +kernel) ⟨rfl, rfl⟩ (Nat.le_of_ble_eq_true rfl) (r1 := upd ((m_clr (sp_st μ 0 17 (nI cm + 1)) cm 7) 0) 13 ((μ 0 13) + 1)) (cE_of mE_0 (by simp [upd])) dX10_command_110 (fun H locs hP hS => ?_)
                    have hP : va_P D vwCl (mW am cy (sp_st (m_clr (sp_st μ 0 17 (nI cm + 1)) cm 7) 0 13 ((μ 0 13) + 1))) H := hP
                    have hm9 : MI (sp_st (m_clr (sp_st μ 0 17 (nI cm + 1)) cm 7) 0 13 (μ 0 13 + 1)) := MI_go hty (by rw [c_16]; decide)
                    refine lv_aload_n hx hb dX10_command_113 rfl (lv_at hl 3 rfl) ?_
                    refine sp_get hx hb hts wi_X10_command_X10 hown hK hP (κ := 0) (by decide) mE_0 rfl 16 (by decide) (hts _ (List.mem_of_getElem? (i := 2) rfl)) (fun _ h => h) rfl dX10_command_114 ?_
                    refine lv_iload_n hx hb dX10_command_117 rfl (lv_at hl 2 rfl) ?_
                    refine lv_iload_n hx hb dX10_command_118 rfl (lv_at hl 1 rfl) ?_
                    refine sp_iast hx hb hK hP hi hAk hS (κ := 4) (by decide) 1 mE_4 rfl (7 * cm) (nI_mulE rfl rfl) (by omega) (by decide) (r1 := upd ((sp_st (m_clr (sp_st μ 0 17 (nI cm + 1)) cm 7) 0 13 ((μ 0 13) + 1)) 4) (7 * cm) (m_sign (sp_st μ 0 17 ((nI cm) + 1)))) mE_4 dX10_command_119 (fun H locs hP hS => ?_)
                    have hP : va_P D vwCl (mW am cy (sp_st (sp_st (m_clr (sp_st μ 0 17 (nI cm + 1)) cm 7) 0 13 ((μ 0 13) + 1)) 4 (7 * cm) (m_sign (sp_st μ 0 17 ((nI cm) + 1))))) H := hP
                    refine lv_aload_n hx hb dX10_command_120 rfl (lv_at hl 3 rfl) ?_
                    refine sp_get hx hb hts wi_X10_command_X10 hown hK hP (κ := 0) (by decide) mE_0 rfl 16 (by decide) (hts _ (List.mem_of_getElem? (i := 2) rfl)) (fun _ h => h) rfl dX10_command_121 ?_
                    refine lv_iload_n hx hb dX10_command_124 rfl (lv_at hl 2 rfl) ?_
                    refine lv_iconst (v := 1) hx hb dX10_command_125 (by decide) ?_
                    refine lv_iadd hx hb dX10_command_126 ?_
                    refine lv_aload_n hx hb dX10_command_127 rfl (lv_at hl 3 rfl) ?_
                    refine lv_iload_n hx hb dX10_command_128 rfl (lv_at hl 1 rfl) ?_
                    refine lv_bipush (v := 84) hx hb dX10_command_129 (by decide) ?_
                    refine lv_icmp_eq (tgt := 140) hx hb dX10_command_131 (by decide) (fun c_17 => ?_) (fun c_17 => ?_)
                    · exact absurd c_17 c_2
                    · skip
                      refine lv_iload_n hx hb dX10_command_134 rfl (lv_at hl 1 rfl) ?_
                      refine lv_bipush (v := 87) hx hb dX10_command_135 (by decide) ?_
                      refine lv_icmp_ne (tgt := 144) hx hb dX10_command_137 (by decide) (fun c_18 => ?_) (fun c_18 => ?_)
                      · skip
                        refine lv_iconst (v := 3) hx hb dX10_command_144 (by decide) ?_
                        refine sp_callm (va_runV (As := [.int (3)]) (rest := [.int ((7 * (nI cm)) + 1), .ref (am (4))]) ⟨hx, hb, hml, hown, hts⟩ (c_X10_number l D am cy (sp_st (sp_st (m_clr (sp_st μ 0 17 (nI cm + 1)) cm 7) 0 13 ((μ 0 13) + 1)) 4 (7 * cm) (m_sign (sp_st μ 0 17 ((nI cm) + 1)))) _ hi 3 (by first | omega | decide) (MI.st hm9 (by omega))) (cwV 1 hts gX10_command_X10_number rfl rfl rfl (by decide +kernel) ⟨Nat.le_of_ble_eq_true rfl, Nat.le_of_ble_eq_true rfl⟩) (sp_preVm hK hP (κ := 0) (by decide) mE_0 rfl) rfl rfl hl.1 rfl (lv_room (Nat.le_of_ble_eq_true rfl)) dX10_command_145 ⟨Nat.le_of_ble_eq_true rfl, Nat.le_of_ble_eq_true rfl⟩) hS (fun q h1 h2 => sp_Alt h1 h2) (sp_Ale hS.1) (fun H locs hP hle hfr hS => ?_)
                        refine W.eq (g2 := F0 m 148 ls [.int (m_numv (sp_st (sp_st (m_clr (sp_st μ 0 17 (nI cm + 1)) cm 7) 0 13 ((μ 0 13) + 1)) 4 (7 * cm) (m_sign (sp_st μ 0 17 ((nI cm) + 1)))) 3), .int ((7 * (nI cm)) + 1), .ref (am (4))]) rfl ?_
                        refine sp_iast hx hb hK hP hi hAk hS (κ := 4) (by decide) 1 mE_4 rfl ((7 * cm) + 1) (nI_addE (nI_mulE rfl rfl) rfl) (by omega) (by decide) (r1 := upd ((m_nums (sp_st (sp_st (m_clr (sp_st μ 0 17 (nI cm + 1)) cm 7) 0 13 ((μ 0 13) + 1)) 4 (7 * cm) (m_sign (sp_st μ 0 17 ((nI cm) + 1)))) 3) 4) ((7 * cm) + 1) (m_numv (sp_st (sp_st (m_clr (sp_st μ 0 17 (nI cm + 1)) cm 7) 0 13 ((μ 0 13) + 1)) 4 (7 * cm) (m_sign (sp_st μ 0 17 ((nI cm) + 1)))) 3)) mE_4 dX10_command_148 (fun H locs hP hS => ?_)
                        have hP : va_P D vwCl (mW am cy (sp_st (m_nums (sp_st (sp_st (m_clr (sp_st μ 0 17 (nI cm + 1)) cm 7) 0 13 ((μ 0 13) + 1)) 4 (7 * cm) (m_sign (sp_st μ 0 17 ((nI cm) + 1)))) 3) 4 ((7 * cm) + 1) (m_numv (sp_st (sp_st (m_clr (sp_st μ 0 17 (nI cm + 1)) cm 7) 0 13 ((μ 0 13) + 1)) 4 (7 * cm) (m_sign (sp_st μ 0 17 ((nI cm) + 1)))) 3))) H := hP
                        have hP : va_P D vwCl (mW am cy (m_sn (sp_st (sp_st (m_clr (sp_st μ 0 17 (nI cm + 1)) cm 7) 0 13 ((μ 0 13) + 1)) 4 (7 * cm) (m_sign (sp_st μ 0 17 ((nI cm) + 1)))) ((7 * cm) + 1) 3)) H := hP
                        refine lv_iload_n hx hb dX10_command_149 rfl (lv_at hl 1 rfl) ?_
                        refine lv_lookup (off := 128) (tgt := 278) hx hb dX10_command_150 (by decide) (by rw [c_16]; decide +kernel) (by decide) ?_
                        have hE9 : mW am cy (m_sn (sp_st (sp_st (m_clr (sp_st μ 0 17 (nI cm + 1)) cm 7) 0 13 ((μ 0 13) + 1)) 4 (7 * cm) (m_sign (sp_st μ 0 17 ((nI cm) + 1)))) ((7 * cm) + 1) 3) = mW am cy (m_cmd μ cm) := by exact mW_eq (by simp [m_cmd, m_cmdK, b2i, c_2, c_4, c_7, c_10, c_13, c_16, c_17, c_18])
                        have hP : va_P D vwCl (mW am cy (m_cmd μ cm)) H := by rw [← hE9]; exact hP
                        exact W.vret hx hb hr (fun T9 hT9 _ => ⟨rfl, by rw [hT9]; exact hP, hS.F hT9⟩) hS.2.2 dX10_command_278
                      · exact absurd (c_16.symm.trans c_18) (by decide)
                  · skip
                    refine lv_iload_n hx hb dX10_command_82 rfl (lv_at hl 1 rfl) ?_
                    refine lv_bipush (v := 88) hx hb dX10_command_83 (by decide) ?_
                    refine lv_icmp_eq (tgt := 103) hx hb dX10_command_85 (by decide) (fun c_19 => ?_) (fun c_19 => ?_)
                    · skip
                      refine lv_aload_n hx hb dX10_command_103 rfl (lv_at hl 3 rfl) ?_
                      refine lv_dup hx hb dX10_command_104 rfl ?_
                      refine sp_get hx hb hts wi_X10_command_X10 hown hK hP (κ := 0) (by decide) mE_0 rfl 13 (by decide) (hts _ (List.mem_of_getElem? (i := 3) rfl)) (fun _ h => h) rfl dX10_command_105 ?_
                      refine W.eq (g2 := F0 m 108 ls [.int (μ 0 13), .ref (am (0))]) (by rw [m_c13]) ?_
                      refine lv_iconst (v := 1) hx hb dX10_command_108 (by decide) ?_
                      refine lv_iadd hx hb dX10_command_109 ?_
                      refine sp_put hx hb hts wi_X10_command_X10 tyX10 tyX10_ok nmX10 hown hK hP hi hAk hS (κ := 0) (by decide) mE_0 rfl 13 (by decide) (hts _ (List.mem_of_getElem? (i := 3) rfl)) (fun _ h => h) rfl (ty := tyX10 13) (by decide +kernel) ⟨rfl, rfl⟩ (Nat.le_of_ble_eq_true rfl) (r1 := upd ((m_clr (sp_st μ 0 17 (nI cm + 1)) cm 7) 0) 13 ((μ 0 13) + 1)) (cE_of mE_0 (by simp [upd])) dX10_command_110 (fun H locs hP hS => ?_)
                      have hP : va_P D vwCl (mW am cy (sp_st (m_clr (sp_st μ 0 17 (nI cm + 1)) cm 7) 0 13 ((μ 0 13) + 1))) H := hP
                      have hm9 : MI (sp_st (m_clr (sp_st μ 0 17 (nI cm + 1)) cm 7) 0 13 (μ 0 13 + 1)) := MI_go hty (by rw [c_19]; decide)
                      refine lv_aload_n hx hb dX10_command_113 rfl (lv_at hl 3 rfl) ?_
                      refine sp_get hx hb hts wi_X10_command_X10 hown hK hP (κ := 0) (by decide) mE_0 rfl 16 (by decide) (hts _ (List.mem_of_getElem? (i := 2) rfl)) (fun _ h => h) rfl dX10_command_114 ?_
                      refine lv_iload_n hx hb dX10_command_117 rfl (lv_at hl 2 rfl) ?_
                      refine lv_iload_n hx hb dX10_command_118 rfl (lv_at hl 1 rfl) ?_
                      refine sp_iast hx hb hK hP hi hAk hS (κ := 4) (by decide) 1 mE_4 rfl (7 * cm) (nI_mulE rfl rfl) (by omega) (by decide) (r1 := upd ((sp_st (m_clr (sp_st μ 0 17 (nI cm + 1)) cm 7) 0 13 ((μ 0 13) + 1)) 4) (7 * cm) (m_sign (sp_st μ 0 17 ((nI cm) + 1)))) mE_4 dX10_command_119 (fun H locs hP hS => ?_)
                      have hP : va_P D vwCl (mW am cy (sp_st (sp_st (m_clr (sp_st μ 0 17 (nI cm + 1)) cm 7) 0 13 ((μ 0 13) + 1)) 4 (7 * cm) (m_sign (sp_st μ 0 17 ((nI cm) + 1))))) H := hP
                      refine lv_aload_n hx hb dX10_command_120 rfl (lv_at hl 3 rfl) ?_
                      refine sp_get hx hb hts wi_X10_command_X10 hown hK hP (κ := 0) (by decide) mE_0 rfl 16 (by decide) (hts _ (List.mem_of_getElem? (i := 2) rfl)) (fun _ h => h) rfl dX10_command_121 ?_
                      refine lv_iload_n hx hb dX10_command_124 rfl (lv_at hl 2 rfl) ?_
                      refine lv_iconst (v := 1) hx hb dX10_command_125 (by decide) ?_
                      refine lv_iadd hx hb dX10_command_126 ?_
                      refine lv_aload_n hx hb dX10_command_127 rfl (lv_at hl 3 rfl) ?_
                      refine lv_iload_n hx hb dX10_command_128 rfl (lv_at hl 1 rfl) ?_
                      refine lv_bipush (v := 84) hx hb dX10_command_129 (by decide) ?_
                      refine lv_icmp_eq (tgt := 140) hx hb dX10_command_131 (by decide) (fun c_20 => ?_) (fun c_20 => ?_)
                      · exact absurd c_20 c_2
                      · skip
                        refine lv_iload_n hx hb dX10_command_134 rfl (lv_at hl 1 rfl) ?_
                        refine lv_bipush (v := 87) hx hb dX10_command_135 (by decide) ?_
                        refine lv_icmp_ne (tgt := 144) hx hb dX10_command_137 (by decide) (fun c_21 => ?_) (fun c_21 => ?_)
                        · skip
                          refine lv_iconst (v := 3) hx hb dX10_command_144 (by decide) ?_
                          refine sp_callm (va_runV (As := [.int (3)]) (rest := [.int ((7 * (nI cm)) + 1), .ref (am (4))]) ⟨hx, hb, hml, hown, hts⟩ (c_X10_number l D am cy (sp_st (sp_st (m_clr (sp_st μ 0 17 (nI cm + 1)) cm 7) 0 13 ((μ 0 13) + 1)) 4 (7 * cm) (m_sign (sp_st μ 0 17 ((nI cm) + 1)))) _ hi 3 (by first | omega | decide) (MI.st hm9 (by omega))) (cwV 1 hts gX10_command_X10_number rfl rfl rfl (by decide +kernel) ⟨Nat.le_of_ble_eq_true rfl, Nat.le_of_ble_eq_true rfl⟩) (sp_preVm hK hP (κ := 0) (by decide) mE_0 rfl) rfl rfl hl.1 rfl (lv_room (Nat.le_of_ble_eq_true rfl)) dX10_command_145 ⟨Nat.le_of_ble_eq_true rfl, Nat.le_of_ble_eq_true rfl⟩) hS (fun q h1 h2 => sp_Alt h1 h2) (sp_Ale hS.1) (fun H locs hP hle hfr hS => ?_)
                          refine W.eq (g2 := F0 m 148 ls [.int (m_numv (sp_st (sp_st (m_clr (sp_st μ 0 17 (nI cm + 1)) cm 7) 0 13 ((μ 0 13) + 1)) 4 (7 * cm) (m_sign (sp_st μ 0 17 ((nI cm) + 1)))) 3), .int ((7 * (nI cm)) + 1), .ref (am (4))]) rfl ?_
                          refine sp_iast hx hb hK hP hi hAk hS (κ := 4) (by decide) 1 mE_4 rfl ((7 * cm) + 1) (nI_addE (nI_mulE rfl rfl) rfl) (by omega) (by decide) (r1 := upd ((m_nums (sp_st (sp_st (m_clr (sp_st μ 0 17 (nI cm + 1)) cm 7) 0 13 ((μ 0 13) + 1)) 4 (7 * cm) (m_sign (sp_st μ 0 17 ((nI cm) + 1)))) 3) 4) ((7 * cm) + 1) (m_numv (sp_st (sp_st (m_clr (sp_st μ 0 17 (nI cm + 1)) cm 7) 0 13 ((μ 0 13) + 1)) 4 (7 * cm) (m_sign (sp_st μ 0 17 ((nI cm) + 1)))) 3)) mE_4 dX10_command_148 (fun H locs hP hS => ?_)
                          have hP : va_P D vwCl (mW am cy (sp_st (m_nums (sp_st (sp_st (m_clr (sp_st μ 0 17 (nI cm + 1)) cm 7) 0 13 ((μ 0 13) + 1)) 4 (7 * cm) (m_sign (sp_st μ 0 17 ((nI cm) + 1)))) 3) 4 ((7 * cm) + 1) (m_numv (sp_st (sp_st (m_clr (sp_st μ 0 17 (nI cm + 1)) cm 7) 0 13 ((μ 0 13) + 1)) 4 (7 * cm) (m_sign (sp_st μ 0 17 ((nI cm) + 1)))) 3))) H := hP
                          have hP : va_P D vwCl (mW am cy (m_sn (sp_st (sp_st (m_clr (sp_st μ 0 17 (nI cm + 1)) cm 7) 0 13 ((μ 0 13) + 1)) 4 (7 * cm) (m_sign (sp_st μ 0 17 ((nI cm) + 1)))) ((7 * cm) + 1) 3)) H := hP
                          refine lv_iload_n hx hb dX10_command_149 rfl (lv_at hl 1 rfl) ?_
                          refine lv_lookup (off := 128) (tgt := 278) hx hb dX10_command_150 (by decide) (by rw [c_19]; decide +kernel) (by decide) ?_
                          have hE9 : mW am cy (m_sn (sp_st (sp_st (m_clr (sp_st μ 0 17 (nI cm + 1)) cm 7) 0 13 ((μ 0 13) + 1)) 4 (7 * cm) (m_sign (sp_st μ 0 17 ((nI cm) + 1)))) ((7 * cm) + 1) 3) = mW am cy (m_cmd μ cm) := by exact mW_eq (by simp [m_cmd, m_cmdK, b2i, c_2, c_4, c_7, c_10, c_13, c_16, c_19, c_20, c_21])
                          have hP : va_P D vwCl (mW am cy (m_cmd μ cm)) H := by rw [← hE9]; exact hP
                          exact W.vret hx hb hr (fun T9 hT9 _ => ⟨rfl, by rw [hT9]; exact hP, hS.F hT9⟩) hS.2.2 dX10_command_278
                        · exact absurd (c_19.symm.trans c_21) (by decide)
                    · skip
                      refine lv_iload_n hx hb dX10_command_88 rfl (lv_at hl 1 rfl) ?_
                      refine lv_bipush (v := 87) hx hb dX10_command_89 (by decide) ?_
                      refine lv_icmp_eq (tgt := 103) hx hb dX10_command_91 (by decide) (fun c_22 => ?_) (fun c_22 => ?_)
                      · skip
                        refine lv_aload_n hx hb dX10_command_103 rfl (lv_at hl 3 rfl) ?_
                        refine lv_dup hx hb dX10_command_104 rfl ?_
                        refine sp_get hx hb hts wi_X10_command_X10 hown hK hP (κ := 0) (by decide) mE_0 rfl 13 (by decide) (hts _ (List.mem_of_getElem? (i := 3) rfl)) (fun _ h => h) rfl dX10_command_105 ?_
                        refine W.eq (g2 := F0 m 108 ls [.int (μ 0 13), .ref (am (0))]) (by rw [m_c13]) ?_
                        refine lv_iconst (v := 1) hx hb dX10_command_108 (by decide) ?_
                        refine lv_iadd hx hb dX10_command_109 ?_
                        refine sp_put hx hb hts wi_X10_command_X10 tyX10 tyX10_ok nmX10 hown hK hP hi hAk hS (κ := 0) (by decide) mE_0 rfl 13 (by decide) (hts _ (List.mem_of_getElem? (i := 3) rfl)) (fun _ h => h) rfl (ty := tyX10 13) (by decide +kernel) ⟨rfl, rfl⟩ (Nat.le_of_ble_eq_true rfl) (r1 := upd ((m_clr (sp_st μ 0 17 (nI cm + 1)) cm 7) 0) 13 ((μ 0 13) + 1)) (cE_of mE_0 (by simp [upd])) dX10_command_110 (fun H locs hP hS => ?_)
                        have hP : va_P D vwCl (mW am cy (sp_st (m_clr (sp_st μ 0 17 (nI cm + 1)) cm 7) 0 13 ((μ 0 13) + 1))) H := hP
                        have hm9 : MI (sp_st (m_clr (sp_st μ 0 17 (nI cm + 1)) cm 7) 0 13 (μ 0 13 + 1)) := MI_go hty (by rw [c_22]; decide)
                        refine lv_aload_n hx hb dX10_command_113 rfl (lv_at hl 3 rfl) ?_
                        refine sp_get hx hb hts wi_X10_command_X10 hown hK hP (κ := 0) (by decide) mE_0 rfl 16 (by decide) (hts _ (List.mem_of_getElem? (i := 2) rfl)) (fun _ h => h) rfl dX10_command_114 ?_
                        refine lv_iload_n hx hb dX10_command_117 rfl (lv_at hl 2 rfl) ?_
                        refine lv_iload_n hx hb dX10_command_118 rfl (lv_at hl 1 rfl) ?_
                        refine sp_iast hx hb hK hP hi hAk hS (κ := 4) (by decide) 1 mE_4 rfl (7 * cm) (nI_mulE rfl rfl) (by omega) (by decide) (r1 := upd ((sp_st (m_clr (sp_st μ 0 17 (nI cm + 1)) cm 7) 0 13 ((μ 0 13) + 1)) 4) (7 * cm) (m_sign (sp_st μ 0 17 ((nI cm) + 1)))) mE_4 dX10_command_119 (fun H locs hP hS => ?_)
                        have hP : va_P D vwCl (mW am cy (sp_st (sp_st (m_clr (sp_st μ 0 17 (nI cm + 1)) cm 7) 0 13 ((μ 0 13) + 1)) 4 (7 * cm) (m_sign (sp_st μ 0 17 ((nI cm) + 1))))) H := hP
                        refine lv_aload_n hx hb dX10_command_120 rfl (lv_at hl 3 rfl) ?_
                        refine sp_get hx hb hts wi_X10_command_X10 hown hK hP (κ := 0) (by decide) mE_0 rfl 16 (by decide) (hts _ (List.mem_of_getElem? (i := 2) rfl)) (fun _ h => h) rfl dX10_command_121 ?_
                        refine lv_iload_n hx hb dX10_command_124 rfl (lv_at hl 2 rfl) ?_
                        refine lv_iconst (v := 1) hx hb dX10_command_125 (by decide) ?_
                        refine lv_iadd hx hb dX10_command_126 ?_
                        refine lv_aload_n hx hb dX10_command_127 rfl (lv_at hl 3 rfl) ?_
                        refine lv_iload_n hx hb dX10_command_128 rfl (lv_at hl 1 rfl) ?_
                        refine lv_bipush (v := 84) hx hb dX10_command_129 (by decide) ?_
                        refine lv_icmp_eq (tgt := 140) hx hb dX10_command_131 (by decide) (fun c_23 => ?_) (fun c_23 => ?_)
                        · exact absurd c_23 c_2
                        · skip
                          refine lv_iload_n hx hb dX10_command_134 rfl (lv_at hl 1 rfl) ?_
                          refine lv_bipush (v := 87) hx hb dX10_command_135 (by decide) ?_
                          refine lv_icmp_ne (tgt := 144) hx hb dX10_command_137 (by decide) (fun c_24 => ?_) (fun c_24 => ?_)
                          · exact absurd c_22 c_24
                          · skip
                            refine lv_iconst (v := 1) hx hb dX10_command_140 (by decide) ?_
                            refine lv_goto (tgt := 145) hx hb dX10_command_141 (by decide) ?_
                            refine sp_callm (va_runV (As := [.int (1)]) (rest := [.int ((7 * (nI cm)) + 1), .ref (am (4))]) ⟨hx, hb, hml, hown, hts⟩ (c_X10_number l D am cy (sp_st (sp_st (m_clr (sp_st μ 0 17 (nI cm + 1)) cm 7) 0 13 ((μ 0 13) + 1)) 4 (7 * cm) (m_sign (sp_st μ 0 17 ((nI cm) + 1)))) _ hi 1 (by first | omega | decide) (MI.st hm9 (by omega))) (cwV 1 hts gX10_command_X10_number rfl rfl rfl (by decide +kernel) ⟨Nat.le_of_ble_eq_true rfl, Nat.le_of_ble_eq_true rfl⟩) (sp_preVm hK hP (κ := 0) (by decide) mE_0 rfl) rfl rfl hl.1 rfl (lv_room (Nat.le_of_ble_eq_true rfl)) dX10_command_145 ⟨Nat.le_of_ble_eq_true rfl, Nat.le_of_ble_eq_true rfl⟩) hS (fun q h1 h2 => sp_Alt h1 h2) (sp_Ale hS.1) (fun H locs hP hle hfr hS => ?_)
                            refine W.eq (g2 := F0 m 148 ls [.int (m_numv (sp_st (sp_st (m_clr (sp_st μ 0 17 (nI cm + 1)) cm 7) 0 13 ((μ 0 13) + 1)) 4 (7 * cm) (m_sign (sp_st μ 0 17 ((nI cm) + 1)))) 1), .int ((7 * (nI cm)) + 1), .ref (am (4))]) rfl ?_
                            refine sp_iast hx hb hK hP hi hAk hS (κ := 4) (by decide) 1 mE_4 rfl ((7 * cm) + 1) (nI_addE (nI_mulE rfl rfl) rfl) (by omega) (by decide) (r1 := upd ((m_nums (sp_st (sp_st (m_clr (sp_st μ 0 17 (nI cm + 1)) cm 7) 0 13 ((μ 0 13) + 1)) 4 (7 * cm) (m_sign (sp_st μ 0 17 ((nI cm) + 1)))) 1) 4) ((7 * cm) + 1) (m_numv (sp_st (sp_st (m_clr (sp_st μ 0 17 (nI cm + 1)) cm 7) 0 13 ((μ 0 13) + 1)) 4 (7 * cm) (m_sign (sp_st μ 0 17 ((nI cm) + 1)))) 1)) mE_4 dX10_command_148 (fun H locs hP hS => ?_)
                            have hP : va_P D vwCl (mW am cy (sp_st (m_nums (sp_st (sp_st (m_clr (sp_st μ 0 17 (nI cm + 1)) cm 7) 0 13 ((μ 0 13) + 1)) 4 (7 * cm) (m_sign (sp_st μ 0 17 ((nI cm) + 1)))) 1) 4 ((7 * cm) + 1) (m_numv (sp_st (sp_st (m_clr (sp_st μ 0 17 (nI cm + 1)) cm 7) 0 13 ((μ 0 13) + 1)) 4 (7 * cm) (m_sign (sp_st μ 0 17 ((nI cm) + 1)))) 1))) H := hP
                            have hP : va_P D vwCl (mW am cy (m_sn (sp_st (sp_st (m_clr (sp_st μ 0 17 (nI cm + 1)) cm 7) 0 13 ((μ 0 13) + 1)) 4 (7 * cm) (m_sign (sp_st μ 0 17 ((nI cm) + 1)))) ((7 * cm) + 1) 1)) H := hP
                            refine lv_iload_n hx hb dX10_command_149 rfl (lv_at hl 1 rfl) ?_
                            refine lv_lookup (off := 128) (tgt := 278) hx hb dX10_command_150 (by decide) (by rw [c_22]; decide +kernel) (by decide) ?_
                            have hE9 : mW am cy (m_sn (sp_st (sp_st (m_clr (sp_st μ 0 17 (nI cm + 1)) cm 7) 0 13 ((μ 0 13) + 1)) 4 (7 * cm) (m_sign (sp_st μ 0 17 ((nI cm) + 1)))) ((7 * cm) + 1) 1) = mW am cy (m_cmd μ cm) := by exact mW_eq (by simp [m_cmd, m_cmdK, b2i, c_2, c_4, c_7, c_10, c_13, c_16, c_19, c_22, c_23, c_24])
                            have hP : va_P D vwCl (mW am cy (m_cmd μ cm)) H := by rw [← hE9]; exact hP
                            exact W.vret hx hb hr (fun T9 hT9 _ => ⟨rfl, by rw [hT9]; exact hP, hS.F hT9⟩) hS.2.2 dX10_command_278
                      · skip
                        refine lv_aload_n hx hb dX10_command_94 rfl (lv_at hl 3 rfl) ?_
                        refine lv_aload_n hx hb dX10_command_95 rfl (lv_at hl 3 rfl) ?_
                        refine sp_get hx hb hts wi_X10_command_X10 hown hK hP (κ := 0) (by decide) mE_0 rfl 13 (by decide) (hts _ (List.mem_of_getElem? (i := 3) rfl)) (fun _ h => h) rfl dX10_command_96 ?_
                        refine W.eq (g2 := F0 m 99 ls [.int (μ 0 13), .ref (am (0))]) (by rw [m_c13]) ?_
                        refine sp_put hx hb hts wi_X10_command_X10 tyX10 tyX10_ok nmX10 hown hK hP hi hAk hS (κ := 0) (by decide) mE_0 rfl 14 (by decide) (hts _ (List.mem_of_getElem? (i := 4) rfl)) (fun _ h => h) rfl (ty := tyX10 14) (by decide +kernel) ⟨rfl, rfl⟩ (Nat.le_of_ble_eq_true rfl) (r1 := upd ((m_clr (sp_st μ 0 17 (nI cm + 1)) cm 7) 0) 14 (μ 0 13)) (cE_of mE_0 (by simp [upd])) dX10_command_99 (fun H locs hP hS => ?_)
                        have hP : va_P D vwCl (mW am cy (sp_st (m_clr (sp_st μ 0 17 (nI cm + 1)) cm 7) 0 14 (μ 0 13))) H := hP
                        have hE9 : mW am cy (sp_st (m_clr (sp_st μ 0 17 (nI cm + 1)) cm 7) 0 14 (μ 0 13)) = mW am cy (m_cmd μ cm) := by exact mW_eq (by simp [m_cmd, m_cmdK, b2i, c_2, c_4, c_7, c_10, c_13, c_16, c_19, c_22])
                        have hP : va_P D vwCl (mW am cy (m_cmd μ cm)) H := by rw [← hE9]; exact hP
                        exact W.vret hx hb hr (fun T9 hT9 _ => ⟨rfl, by rw [hT9]; exact hP, hS.F hT9⟩) hS.2.2 dX10_command_102
      · skip
        have c_1d := Int32.not_le.mp c_1
        have hb_i : i < 7 := Nat.lt_of_not_le (fun z => c_1 (nI_le z (by omega)))
        refine lv_aload_n hx hb dX10_command_31 rfl (lv_at hl 3 rfl) ?_
        refine sp_get hx hb hts wi_X10_command_X10 hown hK hP (κ := 0) (by decide) mE_0 rfl 16 (by decide) (hts _ (List.mem_of_getElem? (i := 2) rfl)) (fun _ h => h) rfl dX10_command_32 ?_
        refine lv_iload_n hx hb dX10_command_35 rfl (lv_at hl 2 rfl) ?_
        refine lv_iload_n hx hb dX10_command_36 rfl (lv_at hl 0 rfl) ?_
        refine lv_iadd hx hb dX10_command_37 ?_
        refine lv_iconst (v := 0) hx hb dX10_command_38 (by decide) ?_
        refine sp_iast hx hb hK hP hi hAk hS (κ := 4) (by decide) 1 mE_4 rfl ((7 * cm) + i) (nI_addE (nI_mulE rfl rfl) rfl) (by omega) (by decide) (r1 := upd ((m_clr (sp_st μ 0 17 (nI cm + 1)) cm i) 4) ((7 * cm) + i) 0) mE_4 dX10_command_39 (fun H locs hP hS => ?_)
        have hP : va_P D vwCl (mW am cy (sp_st (m_clr (sp_st μ 0 17 (nI cm + 1)) cm i) 4 ((7 * cm) + i) 0)) H := hP
        refine lv_iinc (v := nI (i + 1)) (lv' := [(3, .int (nI (i + 1))), (2, .int (m_sign (sp_st μ 0 17 ((nI cm) + 1)))), (1, .int (7 * (nI cm))), (0, .ref (am (0)))]) hx hb dX10_command_40 hl (k := 0) rfl (nI_1 _) (by decide) rfl (fun ls hl => ?_)
        refine lv_goto (tgt := 25) hx hb dX10_command_43 (by decide) ?_
        exact ih (i + 1)  _ _ (by omega) (by omega)  ((show mW am cy (sp_st (m_clr (sp_st μ 0 17 (nI cm + 1)) cm i) 4 ((7 * cm) + i) 0) = mW am cy (m_clr (sp_st μ 0 17 (nI cm + 1)) cm (i + 1)) from (by exact mW_eq m_clr_s)) ▸ hP) hS ls (lv_sub hl [0, 1, 2, 3] rfl)
  exact loop_25 (7 + 1) (0)  _ _ (by omega) (by omega)  ((show mW am cy (sp_st μ 0 17 ((nI cm) + 1)) = mW am cy (m_clr (sp_st μ 0 17 (nI cm + 1)) cm 0) from (by exact mW_eq (m_clr_0 _ _).symm)) ▸ hP) hS ls (lv_sub hl [0, 1, 2, 3] rfl)

