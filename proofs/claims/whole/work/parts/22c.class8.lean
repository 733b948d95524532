theorem wi_X9_execute_X9 : ∀ w ∈ wsX90, w ∈ wsX9_execute := by decide +kernel
theorem wi_X9_execute_X6 : ∀ w ∈ wsX60, w ∈ wsX9_execute := by decide +kernel
set_option maxHeartbeats 4000000 in
set_option maxRecDepth 100000 in
theorem c_X9_execute (l : Launch) (D : va_G) (ad : Nat → Nat) (cy : Nat → ClassId) (pm : Nat → Nat) (rj : Option Nat) (σ : Nat → Nat → Int32) (xq : Nat → Nat) (hst : l.stackTraces = false) (sz : Nat) (hi : sp_inj ad 459) (hpm : ∀ j, j < 8 → 1 ≤ pm j ∧ pm j ≤ 8) : vx_Met l yX9_execute wsX9_execute ({ frames := 8, cells := 60, slots := 240, locals := 136 } : Room) (sp_Pmx xq ad 459 D (tyG cy) sz [.ref (ad (429))] (cW ad cy pm rj σ)) (sp_QT (f_xExe σ) D (some (.int (f_exeF σ 20 433 2))) (cW ad cy (pm_push pm) (rj) (f_push (f_exeF σ 20) pm 9)) (sp_A ad 459 sz)) (sp_XT (f_xExe σ) (sp_B D ad cy (pm) (f_exeX σ) sz rj) (sp_A ad 459 sz)) 60 240 (sp_A ad 459 sz) := by
  refine vx_ofW (cc := cX9_execute) (maxL := 3) (ret := (some .int)) (by decide) rfl ?_
  intro p e s m args below meth c s₁ B hml ht hv
  obtain ⟨rfl, hsz, hP, hK, hE⟩ := hv
  have hx := B.exec
  have hb := B.bytes
  have hr := B.returns
  have hts := atoms_spec (ws := wsX9_execute) B.pre
  have hown : s.vm.findClass RX9 = some m.cls := findClass_of_methodNamed B.named
  have hlocks := B.notSynchronized
  subst hsz
  have hlt0 : ∀ k, k < 459 → ad k < s.heap.size := fun k hk => (sp_P_at hP hk).lt
  have hS : va_S (sp_A ad 459 s.heap.size) s.heap s.heap [] := va_S.rf
  have hAk : ∀ k, k < 459 → (sp_A ad 459 s.heap.size) (ad k) := fun k hk => Or.inl ⟨k, hk, rfl⟩
  skip
  have hl := lv_entry ([.ref (ad (429))]) (n := 3) (Nat.le_of_ble_eq_true rfl)
  refine W.eq (lg_entry_eq _ ([.ref (ad (429))]) _) ?_
  generalize (lg_sl ([.ref (ad (429))]) ++ List.replicate (3 - (lg_sl ([.ref (ad (429))])).length) Slot.unset).toArray = ls at hl ⊢
  have hl : lv_has ls 3 [(0, .ref (ad (429)))] := hl
  refine lv_aload_n hx hb dX9_execute_0 rfl (lv_at hl 0 rfl) ?_
  refine sp_get hx hb hts wi_X9_execute_X9 hown hK hP (κ := 429) (by decide) cE_sp rfl 6 (by decide) (hts _ (List.mem_of_getElem? (i := 3) rfl)) (fun _ h => h) rfl dX9_execute_1 ?_
  refine sp_callm (va_runV (As := []) (rest := []) ⟨hx, hb, hml, hown, hts⟩ (c_X6_parse l D ad cy pm rj σ xq _ hi ) (cwV 0 hts gX9_execute_X6_parse rfl rfl rfl (by decide +kernel) ⟨Nat.le_of_ble_eq_true rfl, Nat.le_of_ble_eq_true rfl⟩) (sp_preVmx hK hP (hE.go hS) (κ := 433) (by decide) cE_script rfl) rfl rfl hl.1 rfl (lv_room (Nat.le_of_ble_eq_true rfl)) dX9_execute_4 ⟨by show _ ≤ 60; omega, by show _ ≤ 240; omega⟩) hS (fun q h1 h2 => sp_Alt h1 h2) (sp_Ale hS.1) (fun H locs hP hle hfr hS => ?_)
  refine W.eq (g2 := F0 m 7 ls [.int (f_parseV σ)]) rfl ?_
  refine lv_istore_n (lv' := [(1, .int (f_parseV σ)), (0, .ref (ad (429)))]) hx hb dX9_execute_7 rfl hl (by decide) rfl (fun ls hl => ?_)
  refine lv_aload_n hx hb dX9_execute_8 rfl (lv_at hl 1 rfl) ?_
  refine sp_get hx hb hts wi_X9_execute_X9 hown hK hP (κ := 429) (by decide) cE_sp rfl 6 (by decide) (hts _ (List.mem_of_getElem? (i := 3) rfl)) (fun _ h => h) rfl dX9_execute_9 ?_
  refine sp_get hx hb hts wi_X9_execute_X6 hown hK hP (κ := 433) (by decide) cE_script rfl 0 (by decide) (hts _ (List.mem_of_getElem? (i := 4) rfl)) (fun _ h => h) rfl dX9_execute_12 ?_
  refine sp_callm (va_runV (As := []) (rest := []) ⟨hx, hb, hml, hown, hts⟩ (c_X7_clear_434 l D ad cy pm rj (f_parse σ) _ hi ) (cwV 0 hts gX9_execute_X7_clear rfl rfl rfl (by decide +kernel) ⟨Nat.le_of_ble_eq_true rfl, Nat.le_of_ble_eq_true rfl⟩) (sp_preVm hK hP (κ := 434) (by decide) cE_in rfl) rfl rfl hl.1 rfl (lv_room (Nat.le_of_ble_eq_true rfl)) dX9_execute_15 ⟨by show _ ≤ 60; omega, by show _ ≤ 240; omega⟩) hS (fun q h1 h2 => sp_Alt h1 h2) (sp_Ale hS.1) (fun H locs hP hle hfr hS => ?_)
  refine W.eq (g2 := F0 m 18 ls []) rfl ?_
  refine lv_iload_n hx hb dX9_execute_18 rfl (lv_at hl 0 rfl) ?_
  refine lv_iconst (v := (-1)) hx hb dX9_execute_19 (by decide) ?_
  refine lv_icmp_eq (tgt := 39) hx hb dX9_execute_20 (by decide) (fun c_1 => ?_) (fun c_1 => ?_)
  · skip
    have hV : f_parseV σ = -1 := c_1
    refine lv_aload_n hx hb dX9_execute_39 rfl (lv_at hl 1 rfl) ?_
    refine sp_get hx hb hts wi_X9_execute_X9 hown hK hP (κ := 429) (by decide) cE_sp rfl 3 (by decide) (hts _ (List.mem_of_getElem? (i := 6) rfl)) (fun _ h => h) rfl dX9_execute_40 ?_
    refine lv_aload_n hx hb dX9_execute_43 rfl (lv_at hl 1 rfl) ?_
    refine sp_get hx hb hts wi_X9_execute_X9 hown hK hP (κ := 429) (by decide) cE_sp rfl 0 (by decide) (hts _ (List.mem_of_getElem? (i := 7) rfl)) (fun _ h => h) rfl dX9_execute_44 ?_
    refine sp_callm (va_runV (As := [.ref (ad (0))]) (rest := []) ⟨hx, hb, hml, hown, hts⟩ (c_X0_copyFrom l D ad cy pm rj (sp_st (f_parse σ) 434 1 0) _ hi 9 (by omega) 0 (by omega) (by omega)) (cwV 1 hts gX9_execute_X0_copyFrom rfl rfl rfl (by decide +kernel) ⟨Nat.le_of_ble_eq_true rfl, Nat.le_of_ble_eq_true rfl⟩) (sp_preVm hK hP (κ := 351) (by omega) (cE_beach (by omega) (by omega)) rfl) rfl rfl hl.1 rfl (lv_room (Nat.le_of_ble_eq_true rfl)) dX9_execute_47 ⟨by show _ ≤ 60; omega, by show _ ≤ 240; omega⟩) hS (fun q h1 h2 => sp_Alt h1 h2) (sp_Ale hS.1) (fun H locs hP hle hfr hS => ?_)
    refine W.eq (g2 := F0 m 50 ls []) rfl ?_
    refine lv_iconst (v := 0) hx hb dX9_execute_50 (by decide) ?_
    refine lv_istore_n (lv' := [(2, .int (0)), (1, .int (f_parseV σ)), (0, .ref (ad (429)))]) hx hb dX9_execute_51 rfl hl (by decide) rfl (fun ls hl => ?_)
    have loop_52 : ∀ (n i : Nat) (H : Heap) (locs : List Loc), (i ≤ 20) → (20 - i < n) → (fstI (P_exe σ) i = none) → (va_P D vwCl (cW ad cy pm rj (f_exeF σ i)) H) → (va_S (sp_A ad 459 s.heap.size) s.heap H locs) → ∀ ls : Array Slot, lv_has ls 3 [(2, .int (nI i)), (1, .int (f_parseV σ)), (0, .ref (ad (429)))] → W p l e (headSpec wsX9_execute ({ frames := 8, cells := 60, slots := 240, locals := 136 } : Room)).room s m ([.ref (ad (429))] : List Value).toArray below meth c H locs (3 * i) (12 * i) (vx_MQ below (sp_QT (f_xExe σ) D (some (.int (f_exeF σ 20 433 2))) (cW ad cy (pm_push pm) (rj) (f_push (f_exeF σ 20) pm 9)) (sp_A ad 459 s.heap.size)) (sp_XT (f_xExe σ) (sp_B D ad cy (pm) (f_exeX σ) s.heap.size rj) (sp_A ad 459 s.heap.size)) ([.ref (ad (429))] : List Value).toArray s 60 240 (sp_A ad 459 s.heap.size)) (F0 m 52 ls []) := by
      intro n
      induction n with
      | zero => intro i H locs hle hlt hi_0 hP hS ls hl; exact absurd hlt (Nat.not_lt_zero _)
      | succ n ih =>
        intro i H locs hle hlt hi_0 hP hS ls hl
        refine lv_iload_n hx hb dX9_execute_52 rfl (lv_at hl 0 rfl) ?_
        refine lv_aload_n hx hb dX9_execute_53 rfl (lv_at hl 2 rfl) ?_
        refine sp_get hx hb hts wi_X9_execute_X9 hown hK hP (κ := 429) (by decide) cE_sp rfl 6 (by decide) (hts _ (List.mem_of_getElem? (i := 3) rfl)) (fun _ h => h) rfl dX9_execute_54 ?_
        refine sp_get hx hb hts wi_X9_execute_X6 hown hK hP (κ := 433) (by decide) cE_script rfl 2 (by decide) (hts _ (List.mem_of_getElem? (i := 8) rfl)) (fun _ h => h) rfl dX9_execute_57 ?_
        refine lv_icmp_ge (tgt := 95) hx hb dX9_execute_60 (by decide) (fun c_2 => ?_) (fun c_2 => ?_)
        · skip
          have c_2d := Int32.not_lt.mpr c_2
          have hT : fstI (P_exe σ) 20 = none := exe_none hi_0 c_2 hle
          have hF : f_exeF σ i = f_exeF σ 20 := exe_stay c_2 hle
          rw [hF] at hP
          refine lv_aload_n hx hb dX9_execute_95 rfl (lv_at hl 2 rfl) ?_
          refine sp_get hx hb hts wi_X9_execute_X9 hown hK hP (κ := 429) (by decide) cE_sp rfl 2 (by decide) (hts _ (List.mem_of_getElem? (i := 10) rfl)) (fun _ h => h) rfl dX9_execute_96 ?_
          refine lv_aload_n hx hb dX9_execute_99 rfl (lv_at hl 2 rfl) ?_
          refine sp_get hx hb hts wi_X9_execute_X9 hown hK hP (κ := 429) (by decide) cE_sp rfl 3 (by decide) (hts _ (List.mem_of_getElem? (i := 6) rfl)) (fun _ h => h) rfl dX9_execute_100 ?_
          refine sp_callm (va_runV (As := [.ref (ad (351))]) (rest := []) ⟨hx, hb, hml, hown, hts⟩ (c_X2_push l D ad cy pm rj (f_exeF σ 20) _ hi hpm 9 (by omega)) (cwV 1 hts gX9_execute_X2_push rfl rfl rfl (by decide +kernel) ⟨Nat.le_of_ble_eq_true rfl, Nat.le_of_ble_eq_true rfl⟩) (sp_preVm hK hP (κ := 431) (by decide) cE_hist rfl) rfl rfl hl.1 rfl (lv_room (Nat.le_of_ble_eq_true rfl)) dX9_execute_103 ⟨by show _ ≤ 60; omega, by show _ ≤ 240; omega⟩) hS (fun q h1 h2 => sp_Alt h1 h2) (sp_Ale hS.1) (fun H locs hP hle hfr hS => ?_)
          refine W.eq (g2 := F0 m 106 ls []) rfl ?_
          refine lv_aload_n hx hb dX9_execute_106 rfl (lv_at hl 2 rfl) ?_
          refine sp_get hx hb hts wi_X9_execute_X9 hown hK hP (κ := 429) (by decide) cE_sp rfl 6 (by decide) (hts _ (List.mem_of_getElem? (i := 3) rfl)) (fun _ h => h) rfl dX9_execute_107 ?_
          refine sp_get hx hb hts wi_X9_execute_X6 hown hK hP (κ := 433) (by decide) cE_script rfl 2 (by decide) (hts _ (List.mem_of_getElem? (i := 8) rfl)) (fun _ h => h) rfl dX9_execute_110 ?_
          refine W.eq (g2 := F0 m 113 ls [.int (f_copyB (f_exeF σ 20) (pm 7) 9 433 2)]) (by rw [sp_st_k _ _ _ _ _ _ (by omega)]) ?_
          refine W.widen (k := 60) (n := 240) (by omega) (by omega) ?_
          have hE9 : cW ad cy (pm_push pm) (rj) (sp_st (f_copyB (f_exeF σ 20) (pm 7) 9) 431 1 (imin ((f_exeF σ 20) 431 1 + 1) 8)) = cW ad cy (pm_push pm) (rj) (f_push (f_exeF σ 20) pm 9) := by exact cW_eq rfl (by unfold f_push; rfl)
          have hP : va_P D vwCl (cW ad cy (pm_push pm) (rj) (f_push (f_exeF σ 20) pm 9)) H := by rw [← hE9]; exact hP
          exact vx_ret (W.iret (v := f_copyB (f_exeF σ 20) (pm 7) 9 433 2) hx hb hr (fun T9 hT9 _ => ⟨show (f_xExe σ : XO) = none from (by first | (simp [f_xExe, atO, hV, hT]; done) | (simp [f_xExe, hV, eIAE]; done) | exact (exe_x hV hi_0 hb_i hC c_2d).1), congrArg (fun z9 => Outcome.returned (some (Value.int z9))) (show (f_copyB (f_exeF σ 20) (pm 7) 9 433 2 : Int32) = f_exeF σ 20 433 2 from (by exact congrFun (f_copyB_out _ _ _ _ (by have := hpm 7 (by decide); omega)) 2)), by rw [hT9]; exact hP, hS.F hT9⟩) hS.2.2 dX9_execute_113)
        · skip
          have c_2d := Int32.not_le.mp c_2
          have hC := c_2
          refine lv_iload_n hx hb dX9_execute_63 rfl (lv_at hl 0 rfl) ?_
          refine lv_aload_n hx hb dX9_execute_64 rfl (lv_at hl 2 rfl) ?_
          refine sp_get hx hb hts wi_X9_execute_X9 hown hK hP (κ := 429) (by decide) cE_sp rfl 6 (by decide) (hts _ (List.mem_of_getElem? (i := 3) rfl)) (fun _ h => h) rfl dX9_execute_65 ?_
          refine sp_get hx hb hts wi_X9_execute_X6 hown hK hP (κ := 433) (by decide) cE_script rfl 1 (by decide) (hts _ (List.mem_of_getElem? (i := 9) rfl)) (fun _ h => h) rfl dX9_execute_68 ?_
          refine sp_alen hx hb hK hP (κ := 438) (by decide) 3 cE_cmds rfl (v := 20) rfl dX9_execute_71 ?_
          refine lv_icmp_ge (tgt := 95) hx hb dX9_execute_72 (by decide) (fun c_3 => ?_) (fun c_3 => ?_)
          · skip
            have c_3d := Int32.not_lt.mpr c_3
            have hx_i : i = 20 := by have := (nI_leI (a := 20) (b := i) (by omega) (by omega)).mp c_3; omega
            try rw [hx_i] at hi_0
            have hT : fstI (P_exe σ) 20 = none := hi_0
            have hF : f_exeF σ i = f_exeF σ 20 := by rw [hx_i]
            rw [hF] at hP
            refine lv_aload_n hx hb dX9_execute_95 rfl (lv_at hl 2 rfl) ?_
            refine sp_get hx hb hts wi_X9_execute_X9 hown hK hP (κ := 429) (by decide) cE_sp rfl 2 (by decide) (hts _ (List.mem_of_getElem? (i := 10) rfl)) (fun _ h => h) rfl dX9_execute_96 ?_
            refine lv_aload_n hx hb dX9_execute_99 rfl (lv_at hl 2 rfl) ?_
            refine sp_get hx hb hts wi_X9_execute_X9 hown hK hP (κ := 429) (by decide) cE_sp rfl 3 (by decide) (hts _ (List.mem_of_getElem? (i := 6) rfl)) (fun _ h => h) rfl dX9_execute_100 ?_
            refine sp_callm (va_runV (As := [.ref (ad (351))]) (rest := []) ⟨hx, hb, hml, hown, hts⟩ (c_X2_push l D ad cy pm rj (f_exeF σ 20) _ hi hpm 9 (by omega)) (cwV 1 hts gX9_execute_X2_push rfl rfl rfl (by decide +kernel) ⟨Nat.le_of_ble_eq_true rfl, Nat.le_of_ble_eq_true rfl⟩) (sp_preVm hK hP (κ := 431) (by decide) cE_hist rfl) rfl rfl hl.1 rfl (lv_room (Nat.le_of_ble_eq_true rfl)) dX9_execute_103 ⟨by show _ ≤ 60; omega, by show _ ≤ 240; omega⟩) hS (fun q h1 h2 => sp_Alt h1 h2) (sp_Ale hS.1) (fun H locs hP hle hfr hS => ?_)
            refine W.eq (g2 := F0 m 106 ls []) rfl ?_
            refine lv_aload_n hx hb dX9_execute_106 rfl (lv_at hl 2 rfl) ?_
            refine sp_get hx hb hts wi_X9_execute_X9 hown hK hP (κ := 429) (by decide) cE_sp rfl 6 (by decide) (hts _ (List.mem_of_getElem? (i := 3) rfl)) (fun _ h => h) rfl dX9_execute_107 ?_
            refine sp_get hx hb hts wi_X9_execute_X6 hown hK hP (κ := 433) (by decide) cE_script rfl 2 (by decide) (hts _ (List.mem_of_getElem? (i := 8) rfl)) (fun _ h => h) rfl dX9_execute_110 ?_
            refine W.eq (g2 := F0 m 113 ls [.int (f_copyB (f_exeF σ 20) (pm 7) 9 433 2)]) (by rw [sp_st_k _ _ _ _ _ _ (by omega)]) ?_
            refine W.widen (k := 60) (n := 240) (by omega) (by omega) ?_
            have hE9 : cW ad cy (pm_push pm) (rj) (sp_st (f_copyB (f_exeF σ 20) (pm 7) 9) 431 1 (imin ((f_exeF σ 20) 431 1 + 1) 8)) = cW ad cy (pm_push pm) (rj) (f_push (f_exeF σ 20) pm 9) := by exact cW_eq rfl (by unfold f_push; rfl)
            have hP : va_P D vwCl (cW ad cy (pm_push pm) (rj) (f_push (f_exeF σ 20) pm 9)) H := by rw [← hE9]; exact hP
            exact vx_ret (W.iret (v := f_copyB (f_exeF σ 20) (pm 7) 9 433 2) hx hb hr (fun T9 hT9 _ => ⟨show (f_xExe σ : XO) = none from (by first | (simp [f_xExe, atO, hV, hT]; done) | (simp [f_xExe, hV, eIAE]; done) | exact (exe_x hV hi_0 hb_i hC c_2d).1), congrArg (fun z9 => Outcome.returned (some (Value.int z9))) (show (f_copyB (f_exeF σ 20) (pm 7) 9 433 2 : Int32) = f_exeF σ 20 433 2 from (by exact congrFun (f_copyB_out _ _ _ _ (by have := hpm 7 (by decide); omega)) 2)), by rw [hT9]; exact hP, hS.F hT9⟩) hS.2.2 dX9_execute_113)
          · skip
            have c_3d := Int32.not_le.mp c_3
            have hb_i : i < 20 := Nat.lt_of_not_le (fun z => c_3 (nI_le z (by omega)))
            refine lv_aload_n hx hb dX9_execute_75 rfl (lv_at hl 2 rfl) ?_
            refine lv_aload_n hx hb dX9_execute_76 rfl (lv_at hl 2 rfl) ?_
            refine sp_get hx hb hts wi_X9_execute_X9 hown hK hP (κ := 429) (by decide) cE_sp rfl 6 (by decide) (hts _ (List.mem_of_getElem? (i := 3) rfl)) (fun _ h => h) rfl dX9_execute_77 ?_
            refine sp_get hx hb hts wi_X9_execute_X6 hown hK hP (κ := 433) (by decide) cE_script rfl 1 (by decide) (hts _ (List.mem_of_getElem? (i := 9) rfl)) (fun _ h => h) rfl dX9_execute_80 ?_
            refine lv_iload_n hx hb dX9_execute_83 rfl (lv_at hl 0 rfl) ?_
            refine sp_aald hx hb hK hP (κ := 438) (by decide) 3 cE_cmds rfl i rfl (by omega) (by decide) (q := ad (439 + i)) rfl dX9_execute_84 ?_
            refine lv_iload_n hx hb dX9_execute_85 rfl (lv_at hl 0 rfl) ?_
            have hS0_x_4 := hS.1
            refine sp_callx (vx_runV (As := [.ref (ad (439 + i)), .int (nI i)]) (rest := []) ⟨hx, hb, hml, hown, hts⟩ (c_X9_runCommand l D ad cy pm rj (f_exeF σ i) xq hst _ hi i (by omega) (nI i)) (cwV 2 hts gX9_execute_X9_runCommand rfl rfl rfl (by decide +kernel) ⟨Nat.le_of_ble_eq_true rfl, Nat.le_of_ble_eq_true rfl⟩) (sp_preVmx hK hP (hE.go hS) (κ := 429) (by decide) cE_sp rfl) rfl rfl hl.1 rfl (lv_room (Nat.le_of_ble_eq_true rfl)) dX9_execute_86 ⟨by show _ ≤ 60; omega, by show _ ≤ 240; omega⟩) hS (fun q h1 h2 => sp_Alt h1 h2) (sp_Ale hS.1) (fun E_x_4 r_x_4 ce_x_4 q9_x_4 H locs hthr_x_4 hB_x_4 hle hfr hS hce_x_4 hcv_x_4 hcl_x_4 => ?_) (fun hthr_x_4 H locs hP hle hfr hS => ?_)
            · skip
              obtain ⟨rj9, hPx, hN⟩ := hB_x_4
              exact vx_out (fun x hx => (ht x hx).elim) hlocks hce_x_4 hcv_x_4 hcl_x_4 (fun T9 hT9 _ => ⟨r_x_4, show (f_xExe σ : XO) = some (E_x_4, r_x_4) from (by first | (simp [f_xExe, atO, hV, hT]; done) | (simp [f_xExe, hV, eIAE]; done) | exact (exe_x hV hi_0 hb_i hC hthr_x_4).1), by rw [hT9]; exact ⟨rj9, (cW_go (show cW ad cy pm rj9 (f_copyB (f_exeF σ i) 0 9) = cW ad cy pm rj9 (f_exeX σ) from (by exact cW_eq rfl (by first | (simp [f_exeX, hV]; done) | exact (exe_x hV hi_0 hb_i hC hthr_x_4).2.symm))) hPx), hN.mono hS0_x_4⟩, hS.F hT9⟩) hS.2.2 (by omega) (by omega)
            · skip
              refine W.eq (g2 := F0 m 89 ls []) rfl ?_
              refine lv_iinc (v := nI (i + 1)) (lv' := [(2, .int (nI (i + 1))), (1, .int (f_parseV σ)), (0, .ref (ad (429)))]) hx hb dX9_execute_89 hl (k := 0) rfl (nI_1 _) (by decide) rfl (fun ls hl => ?_)
              refine lv_goto (tgt := 52) hx hb dX9_execute_92 (by decide) ?_
              refine W.widen (k := 3 * (i + 1)) (n := 12 * (i + 1)) (by omega) (by omega) ?_
              exact ih (i + 1)  _ _ (by omega) (by omega) (fstI_succ_no hi_0 (by simp [P_exe, f_xStep, b2i, c_1, c_2, c_2d, hthr_x_4])) ((show cW ad cy pm rj (f_runOn (f_exeF σ i) i) = cW ad cy pm rj (f_exeF σ (i + 1)) from (by exact cW_eq rfl (exe_s hC))) ▸ hP) hS ls (lv_sub hl [0, 1, 2] rfl)
    exact loop_52 (20 + 1) (0)  _ _ (by omega) (by omega) (rfl) ((show cW ad cy pm rj (f_copyB (sp_st (f_parse σ) 434 1 0) 9 0) = cW ad cy pm rj (f_exeF σ 0) from (by exact cW_eq rfl (exe_0 σ))) ▸ hP) hS ls (lv_sub hl [0, 1, 2] rfl)
  · skip
    have hV : ¬ f_parseV σ = -1 := c_1
    refine lv_aload_n hx hb dX9_execute_23 rfl (lv_at hl 1 rfl) ?_
    refine lv_iload_n hx hb dX9_execute_24 rfl (lv_at hl 0 rfl) ?_
    refine sp_put hx hb hts wi_X9_execute_X9 tyX9 tyX9_ok nmX9 hown hK hP hi hAk hS (κ := 429) (by decide) cE_sp rfl 9 (by decide) (hts _ (List.mem_of_getElem? (i := 5) rfl)) (fun _ h => h) rfl (ty := tyX9 9) (by decide +kernel) ⟨rfl, rfl⟩ (Nat.le_of_ble_eq_true rfl) (r1 := upd ((sp_st (f_parse σ) 434 1 0) 429) 9 (f_parseV σ)) (cE_of cE_sp (by simp [upd])) dX9_execute_25 (fun H locs hP hS => ?_)
    have hP : va_P D vwCl (cW ad cy pm rj (sp_st (sp_st (f_parse σ) 434 1 0) 429 9 (f_parseV σ))) H := hP
    refine vx_throwSW (names := ["java/lang/RuntimeException", "java/lang/Exception"]) (sa := xq 20) hx hb hst hown (by decide +kernel) (by decide +kernel) (hts _ (List.mem_of_getElem? (i := 1) rfl)) (hts _ (List.mem_of_getElem? (i := 2) rfl)) hE.t20 (vx_hat (fun w hw => hts w (List.mem_cons_of_mem _ (List.mem_append_left _ (List.mem_append_left _ (List.mem_append_left _ (List.mem_append_right _ hw)))))) (by decide +kernel) (vx_c (va_Nw.use rfl hE.k1) (vx_c (va_Nw.use rfl hE.d0) (vx_c (va_Nw.use rfl hE.d1) (vx_c (va_Nw.use rfl hE.d2) vx_n))))) (by decide +kernel) hE.2.2.1 hE.2.2.2.1 hS (by rw [hml]; exact hl.1) dX9_execute_28 dX9_execute_31 dX9_execute_32 dX9_execute_35 dX9_execute_38 (fun x hx => (ht x hx).elim) (Nat.le_of_ble_eq_true rfl) (by decide) (Nat.le_of_ble_eq_true rfl) (Nat.le_of_ble_eq_true rfl) hlocks (fun T9 _ h1 h2 => ⟨none, show (f_xExe σ : XO) = some ("java/lang/IllegalArgumentException", none) from (by first | (simp [f_xExe, atO, hV, hT]; done) | (simp [f_xExe, hV, eIAE]; done) | exact (exe_x hV hi_0 hb_i hC c_1).1), ⟨rj, sp_P_ext (cW_go (show cW ad cy pm rj (sp_st (sp_st (f_parse σ) 434 1 0) 429 9 (f_parseV σ)) = cW ad cy pm rj (f_exeX σ) from (by exact cW_eq rfl (by first | (simp [f_exeX, hV]; done) | exact (exe_x hV hi_0 hb_i hC c_1).2.symm))) hP) h2, rfl⟩, sp_SF hS h1 h2⟩) hS.2.2 (by omega) (by omega)

