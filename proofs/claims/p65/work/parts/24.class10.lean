/-! numbers with a point -/
def f_xAr (b : Bool) : XO := if b = true then some (eARE, none) else none
theorem conf_ok {x : Int32} (h : x = 0 ∨ x = 1 ∨ x = 2 ∨ x = 3) : vf_n64 (FP.dadd FP.dconst1 (FP.i2d x)) ∧ vf_n64 (FP.ddiv FP.dconst1 (FP.dadd FP.dconst1 (FP.i2d x))) := by
  rcases h with rfl | rfl | rfl | rfl <;> exact ⟨by unfold vf_n64; decide +kernel, by unfold vf_n64; decide +kernel⟩
theorem wi_X9_confidence_X3 : ∀ w ∈ wsX30, w ∈ wsX9_confidence := by decide +kernel
set_option maxHeartbeats 4000000 in
set_option maxRecDepth 100000 in
theorem c_X9_confidence (l : Launch) (D : va_G) (ad : Nat → Nat) (cy : Nat → ClassId) (pm : Nat → Nat) (rj : Option Nat) (σ : Nat → Nat → Int32) (xq : Nat → Nat) (hst : l.stackTraces = false) (sz : Nat) (hi : sp_inj ad 459) (id : Int32) (hd : ∀ k, f_findPrint σ id = some k → σ (9 + k) 8 = 0 ∨ σ (9 + k) 8 = 1 ∨ σ (9 + k) 8 = 2 ∨ σ (9 + k) 8 = 3) : vx_Met l yX9_confidence wsX9_confidence ({ frames := 7, cells := 1, slots := 6, locals := 112 } : Room) (sp_Pmx xq ad 459 D (tyG cy) sz [.ref (ad (429)), .int (id)] (cW ad cy pm rj σ)) (sp_QT (f_xPrint σ id) D (some (.double (atO (f_findPrint σ id) 0 (fun k => FP.ddiv FP.dconst1 (FP.dadd FP.dconst1 (FP.i2d (σ (9 + k) 8))))))) (cW ad cy (pm) (rj) (σ)) (sp_A ad 459 sz)) (sp_XT (f_xPrint σ id) (sp_B D ad cy (pm) (σ) sz rj) (sp_A ad 459 sz)) 1 6 (sp_A ad 459 sz) := by
  refine vx_ofW (cc := cX9_confidence) (maxL := 2) (ret := (some .double)) (by decide) rfl ?_
  intro p e s m args below meth c s₁ B hml ht hv
  obtain ⟨rfl, hsz, hP, hK, hE⟩ := hv
  have hx := B.exec
  have hb := B.bytes
  have hr := B.returns
  have hts := atoms_spec (ws := wsX9_confidence) B.pre
  have hown : s.vm.findClass RX9 = some m.cls := findClass_of_methodNamed B.named
  have hlocks := B.notSynchronized
  subst hsz
  have hlt0 : ∀ k, k < 459 → ad k < s.heap.size := fun k hk => (sp_P_at hP hk).lt
  have hS : va_S (sp_A ad 459 s.heap.size) s.heap s.heap [] := va_S.rf
  have hAk : ∀ k, k < 459 → (sp_A ad 459 s.heap.size) (ad k) := fun k hk => Or.inl ⟨k, hk, rfl⟩
  skip
  have hl := lv_entry ([.ref (ad (429)), .int (id)]) (n := 2) (Nat.le_of_ble_eq_true rfl)
  refine W.eq (lg_entry_eq _ ([.ref (ad (429)), .int (id)]) _) ?_
  generalize (lg_sl ([.ref (ad (429)), .int (id)]) ++ List.replicate (2 - (lg_sl ([.ref (ad (429)), .int (id)])).length) Slot.unset).toArray = ls at hl ⊢
  have hl : lv_has ls 2 [(0, .ref (ad (429))), (1, .int (id))] := hl
  refine lv_dconst1 hx hb dX9_confidence_0 ?_
  refine lv_dconst1 hx hb dX9_confidence_1 ?_
  refine lv_aload_n hx hb dX9_confidence_2 rfl (lv_at hl 0 rfl) ?_
  refine lv_iload_n hx hb dX9_confidence_3 rfl (lv_at hl 1 rfl) ?_
  have hS0_x_1 := hS.1
  refine sp_callx (vx_runV (As := [.int (id)]) (rest := [.double (FP.dconst1), .double (FP.dconst1)]) ⟨hx, hb, hml, hown, hts⟩ (c_X9_requirePrint l D ad cy pm rj σ xq hst _ hi id) (cwV 1 hts gX9_confidence_X9_requirePrint rfl rfl rfl (by decide +kernel) ⟨Nat.le_of_ble_eq_true rfl, Nat.le_of_ble_eq_true rfl⟩) (sp_preVmx hK hP (hE.go hS) (κ := 429) (by decide) cE_sp rfl) rfl rfl hl.1 rfl (lv_room (Nat.le_of_ble_eq_true rfl)) dX9_confidence_4 ⟨Nat.le_of_ble_eq_true rfl, Nat.le_of_ble_eq_true rfl⟩) hS (fun q h1 h2 => sp_Alt h1 h2) (sp_Ale hS.1) (fun E_x_1 r_x_1 ce_x_1 q9_x_1 H locs hthr_x_1 hB_x_1 hle hfr hS hce_x_1 hcv_x_1 hcl_x_1 => ?_) (fun hthr_x_1 H locs hP hle hfr hS => ?_)
  · skip
    obtain ⟨rj9, hPx, hN⟩ := hB_x_1
    exact vx_out (fun x hx => (ht x hx).elim) hlocks hce_x_1 hcv_x_1 hcl_x_1 (fun T9 hT9 _ => ⟨r_x_1, show (f_xPrint σ id : XO) = some (E_x_1, r_x_1) from (by first | (simp [Option.or, eIOO, eIAE, eUOE, eNSE, eARE, eISE, hthr_x_1]; done) | ((try simp only [hthr_x_1]); simp [f_xPrint, f_xNo, atO, eIOO, eIAE, eUOE, eNSE, eARE, eISE, hthr_x_1]; done)), by rw [hT9]; exact ⟨rj9, hPx, hN.mono hS0_x_1⟩, hS.F hT9⟩) hS.2.2 (by omega) (by omega)
  · skip
    rcases opt_em (f_findPrint σ id) with q_2 | ⟨j_3, q_2⟩
    · exact absurd hthr_x_1 (by simp [f_xPrint, f_xNo, q_2])
    · have hj_3 := f_findPrint_lt q_2
      refine W.eq (g2 := F0 m 7 ls [.ref (ad (9 + j_3)), .double (FP.dconst1), .double (FP.dconst1)]) (by rw [q_2]; rfl) ?_
      refine sp_get hx hb hts wi_X9_confidence_X3 hown hK hP (κ := 9 + j_3) (by omega) (cE_print (by omega) (by omega)) rfl 8 (by decide) (hts _ (List.mem_of_getElem? (i := 1) rfl)) (fun _ h => h) rfl dX9_confidence_7 ?_
      refine lv_i2d hx hb dX9_confidence_10 ?_
      refine lv_dadd hx hb dX9_confidence_11 ((conf_ok (hd _ q_2)).1) ?_
      refine lv_ddiv hx hb dX9_confidence_12 ((conf_ok (hd _ q_2)).2) ?_
      exact vx_ret (W.dret (v := FP.ddiv (FP.dconst1) (FP.dadd (FP.dconst1) (FP.i2d (σ (9 + j_3) 8)))) hx hb hr (fun T9 hT9 _ => ⟨show (f_xPrint σ id : XO) = none from (by first | (simp [Option.or, eIOO, eIAE, eUOE, eNSE, eARE, eISE, hthr_x_1, q_2]; done) | ((try simp only [hthr_x_1]); simp [f_xPrint, f_xNo, atO, eIOO, eIAE, eUOE, eNSE, eARE, eISE, hthr_x_1, q_2]; done)), congrArg (fun z9 => Outcome.returned (some (Value.double z9))) (show (FP.ddiv (FP.dconst1) (FP.dadd (FP.dconst1) (FP.i2d (σ (9 + j_3) 8))) : UInt64) = atO (f_findPrint σ id) 0 (fun k => FP.ddiv FP.dconst1 (FP.dadd FP.dconst1 (FP.i2d (σ (9 + k) 8)))) from (by first | rfl | (simp [atO, b2i, hthr_x_1, q_2]; done))), by rw [hT9]; exact hP, hS.F hT9⟩) hS.2.2 dX9_confidence_13)

theorem wi_X9_averageStride_X9 : ∀ w ∈ wsX90, w ∈ wsX9_averageStride := by decide +kernel
set_option maxHeartbeats 4000000 in
set_option maxRecDepth 100000 in
theorem c_X9_averageStride (l : Launch) (D : va_G) (ad : Nat → Nat) (cy : Nat → ClassId) (pm : Nat → Nat) (rj : Option Nat) (σ : Nat → Nat → Int32) (xq : Nat → Nat) (hst : l.stackTraces = false) (sz : Nat) (hi : sp_inj ad 459) (id : Int32) (hd : ∀ k, f_findTrack σ id = some k → ¬ f_countPrints σ k - 1 < 1 → vf_n64 (FP.ddiv (FP.i2d (f_len σ k)) (FP.i2d (f_countPrints σ k - 1)))) : vx_Met l yX9_averageStride wsX9_averageStride ({ frames := 7, cells := 2, slots := 12, locals := 112 } : Room) (sp_Pmx xq ad 459 D (tyG cy) sz [.ref (ad (429)), .int (id)] (cW ad cy pm rj σ)) (sp_QT ((f_xTrack σ id).or (atO (f_findTrack σ id) none (fun k => if f_countPrints σ k - 1 < 1 then some (eARE, none) else none))) D (some (.double (atO (f_findTrack σ id) 0 (fun k => FP.ddiv (FP.i2d (f_len σ k)) (FP.i2d (f_countPrints σ k - 1)))))) (cW ad cy (pm) (rj) (σ)) (sp_A ad 459 sz)) (sp_XT ((f_xTrack σ id).or (atO (f_findTrack σ id) none (fun k => if f_countPrints σ k - 1 < 1 then some (eARE, none) else none))) (sp_B D ad cy (pm) (σ) sz rj) (sp_A ad 459 sz)) 2 12 (sp_A ad 459 sz) := by
  refine vx_ofW (cc := cX9_averageStride) (maxL := 4) (ret := (some .double)) (by decide) rfl ?_
  intro p e s m args below meth c s₁ B hml ht hv
  obtain ⟨rfl, hsz, hP, hK, hE⟩ := hv
  have hx := B.exec
  have hb := B.bytes
  have hr := B.returns
  have hts := atoms_spec (ws := wsX9_averageStride) B.pre
  have hown : s.vm.findClass RX9 = some m.cls := findClass_of_methodNamed B.named
  have hlocks := B.notSynchronized
  subst hsz
  have hlt0 : ∀ k, k < 459 → ad k < s.heap.size := fun k hk => (sp_P_at hP hk).lt
  have hS : va_S (sp_A ad 459 s.heap.size) s.heap s.heap [] := va_S.rf
  have hAk : ∀ k, k < 459 → (sp_A ad 459 s.heap.size) (ad k) := fun k hk => Or.inl ⟨k, hk, rfl⟩
  skip
  have hl := lv_entry ([.ref (ad (429)), .int (id)]) (n := 4) (Nat.le_of_ble_eq_true rfl)
  refine W.eq (lg_entry_eq _ ([.ref (ad (429)), .int (id)]) _) ?_
  generalize (lg_sl ([.ref (ad (429)), .int (id)]) ++ List.replicate (4 - (lg_sl ([.ref (ad (429)), .int (id)])).length) Slot.unset).toArray = ls at hl ⊢
  have hl : lv_has ls 4 [(0, .ref (ad (429))), (1, .int (id))] := hl
  refine lv_aload_n hx hb dX9_averageStride_0 rfl (lv_at hl 0 rfl) ?_
  refine lv_iload_n hx hb dX9_averageStride_1 rfl (lv_at hl 1 rfl) ?_
  have hS0_x_1 := hS.1
  refine sp_callx (vx_runV (As := [.int (id)]) (rest := []) ⟨hx, hb, hml, hown, hts⟩ (c_X9_requireTrack l D ad cy pm rj σ xq hst _ hi id) (cwV 1 hts gX9_averageStride_X9_requireTrack rfl rfl rfl (by decide +kernel) ⟨Nat.le_of_ble_eq_true rfl, Nat.le_of_ble_eq_true rfl⟩) (sp_preVmx hK hP (hE.go hS) (κ := 429) (by decide) cE_sp rfl) rfl rfl hl.1 rfl (lv_room (Nat.le_of_ble_eq_true rfl)) dX9_averageStride_2 ⟨Nat.le_of_ble_eq_true rfl, Nat.le_of_ble_eq_true rfl⟩) hS (fun q h1 h2 => sp_Alt h1 h2) (sp_Ale hS.1) (fun E_x_1 r_x_1 ce_x_1 q9_x_1 H locs hthr_x_1 hB_x_1 hle hfr hS hce_x_1 hcv_x_1 hcl_x_1 => ?_) (fun hthr_x_1 H locs hP hle hfr hS => ?_)
  · skip
    obtain ⟨rj9, hPx, hN⟩ := hB_x_1
    exact vx_out (fun x hx => (ht x hx).elim) hlocks hce_x_1 hcv_x_1 hcl_x_1 (fun T9 hT9 _ => ⟨r_x_1, show ((f_xTrack σ id).or (atO (f_findTrack σ id) none (fun k => if f_countPrints σ k - 1 < 1 then some (eARE, none) else none)) : XO) = some (E_x_1, r_x_1) from (by first | (simp [Option.or, atO, eIOO, eIAE, eUOE, eNSE, eARE, eISE, hthr_x_1]; done) | ((try simp only [hthr_x_1]); simp [f_xTrack, f_xNo, atO, Option.or, atO, eIOO, eIAE, eUOE, eNSE, eARE, eISE, hthr_x_1]; done)), by rw [hT9]; exact ⟨rj9, hPx, hN.mono hS0_x_1⟩, hS.F hT9⟩) hS.2.2 (by omega) (by omega)
  · skip
    rcases opt_em (f_findTrack σ id) with q_2 | ⟨j_2, q_2⟩
    · exact absurd hthr_x_1 (by simp [f_xTrack, f_xNo, q_2])
    · have hj_2 := f_findTrack_lt q_2
      refine W.eq (g2 := F0 m 5 ls [.ref (ad (3 + j_2))]) (by rw [q_2]; rfl) ?_
      refine lv_astore_n (lv' := [(2, .ref (ad (3 + j_2))), (0, .ref (ad (429))), (1, .int (id))]) hx hb dX9_averageStride_5 rfl hl (by decide) rfl (fun ls hl => ?_)
      refine lv_aload_n hx hb dX9_averageStride_6 rfl (lv_at hl 1 rfl) ?_
      refine sp_get hx hb hts wi_X9_averageStride_X9 hown hK hP (κ := 429) (by decide) cE_sp rfl 0 (by decide) (hts _ (List.mem_of_getElem? (i := 3) rfl)) (fun _ h => h) rfl dX9_averageStride_7 ?_
      refine lv_aload_n hx hb dX9_averageStride_10 rfl (lv_at hl 0 rfl) ?_
      refine sp_call (W.runV (As := [.ref (ad (3 + j_2))]) (rest := []) ⟨hx, hb, hml, hown, hts⟩ (c_X0_countPrints l D ad cy pm rj σ j_2 (by omega)) (cwV 1 hts gX9_averageStride_X0_countPrints rfl rfl rfl (by decide +kernel) ⟨Nat.le_of_ble_eq_true rfl, Nat.le_of_ble_eq_true rfl⟩) (sp_preV hK hP (κ := 0) (by omega) (cE_beach (by omega) (by omega)) rfl) rfl rfl hl.1 rfl (lv_room (Nat.le_of_ble_eq_true rfl)) dX9_averageStride_11 ⟨Nat.le_of_ble_eq_true rfl, Nat.le_of_ble_eq_true rfl⟩) ?_
      refine W.eq (g2 := F0 m 14 ls [.int (f_countPrints σ j_2)]) rfl ?_
      refine lv_iconst (v := 1) hx hb dX9_averageStride_14 (by decide) ?_
      refine lv_isub hx hb dX9_averageStride_15 ?_
      refine lv_istore_n (lv' := [(3, .int ((f_countPrints σ j_2) - 1)), (2, .ref (ad (3 + j_2))), (0, .ref (ad (429))), (1, .int (id))]) hx hb dX9_averageStride_16 rfl hl (by decide) rfl (fun ls hl => ?_)
      refine lv_iload_n hx hb dX9_averageStride_17 rfl (lv_at hl 0 rfl) ?_
      refine lv_iconst (v := 1) hx hb dX9_averageStride_18 (by decide) ?_
      refine lv_icmp_ge (tgt := 32) hx hb dX9_averageStride_19 (by decide) (fun c_3 => ?_) (fun c_3 => ?_)
      · skip
        have c_3d := Int32.not_lt.mpr c_3
        have hc9 : ¬ f_countPrints σ j_2 - 1 < 1 := Int32.not_lt.mpr c_3
        refine lv_aload_n hx hb dX9_averageStride_32 rfl (lv_at hl 2 rfl) ?_
        refine sp_get hx hb hts wi_X9_averageStride_X9 hown hK hP (κ := 429) (by decide) cE_sp rfl 1 (by decide) (hts _ (List.mem_of_getElem? (i := 4) rfl)) (fun _ h => h) rfl dX9_averageStride_33 ?_
        refine lv_aload_n hx hb dX9_averageStride_36 rfl (lv_at hl 1 rfl) ?_
        refine sp_call (W.runV (As := [.ref (ad (3 + j_2))]) (rest := []) ⟨hx, hb, hml, hown, hts⟩ (c_X4_lengthByPrints l D ad cy pm rj σ j_2 (by omega)) (cwV 1 hts gX9_averageStride_X4_lengthByPrints rfl rfl rfl (by decide +kernel) ⟨Nat.le_of_ble_eq_true rfl, Nat.le_of_ble_eq_true rfl⟩) (sp_preV hK hP (κ := 430) (by decide) cE_proof rfl) rfl rfl hl.1 rfl (lv_room (Nat.le_of_ble_eq_true rfl)) dX9_averageStride_37 ⟨Nat.le_of_ble_eq_true rfl, Nat.le_of_ble_eq_true rfl⟩) ?_
        refine W.eq (g2 := F0 m 40 ls [.int (f_len σ j_2)]) rfl ?_
        refine lv_i2d hx hb dX9_averageStride_40 ?_
        refine lv_iload_n hx hb dX9_averageStride_41 rfl (lv_at hl 0 rfl) ?_
        refine lv_i2d hx hb dX9_averageStride_42 ?_
        refine lv_ddiv hx hb dX9_averageStride_43 (hd _ q_2 hc9) ?_
        refine W.widen (k := 2) (n := 12) (by omega) (by omega) ?_
        exact vx_ret (W.dret (v := FP.ddiv (FP.i2d (f_len σ j_2)) (FP.i2d ((f_countPrints σ j_2) - 1))) hx hb hr (fun T9 hT9 _ => ⟨show ((f_xTrack σ id).or (atO (f_findTrack σ id) none (fun k => if f_countPrints σ k - 1 < 1 then some (eARE, none) else none)) : XO) = none from (by first | (simp [Option.or, atO, eIOO, eIAE, eUOE, eNSE, eARE, eISE, hthr_x_1, q_2, c_3, c_3d]; done) | ((try simp only [hthr_x_1]); simp [f_xTrack, f_xNo, atO, Option.or, atO, eIOO, eIAE, eUOE, eNSE, eARE, eISE, hthr_x_1, q_2, c_3, c_3d]; done)), congrArg (fun z9 => Outcome.returned (some (Value.double z9))) (show (FP.ddiv (FP.i2d (f_len σ j_2)) (FP.i2d ((f_countPrints σ j_2) - 1)) : UInt64) = atO (f_findTrack σ id) 0 (fun k => FP.ddiv (FP.i2d (f_len σ k)) (FP.i2d (f_countPrints σ k - 1))) from (by first | rfl | (simp [atO, b2i, hthr_x_1, q_2, c_3, c_3d]; done))), by rw [hT9]; exact hP, hS.F hT9⟩) hS.2.2 dX9_averageStride_44)
      · skip
        have c_3d := Int32.not_le.mp c_3
        refine vx_throwS (names := ["java/lang/RuntimeException", "java/lang/Exception"]) (sa := xq 13) hx hb hst hown (by decide +kernel) (by decide +kernel) (hts _ (List.mem_of_getElem? (i := 1) rfl)) (hts _ (List.mem_of_getElem? (i := 2) rfl)) hE.t13 (vx_hat (fun w hw => hts w (List.mem_cons_of_mem _ (List.mem_append_left _ (List.mem_append_right _ hw)))) (by decide +kernel) (vx_c (va_Nw.use rfl hE.k4) (vx_c (va_Nw.use rfl hE.d0) (vx_c (va_Nw.use rfl hE.d1) (vx_c (va_Nw.use rfl hE.d2) vx_n))))) (by decide +kernel) hE.2.2.1 hE.2.2.2.1 hS (by rw [hml]; exact hl.1) dX9_averageStride_22 dX9_averageStride_25 dX9_averageStride_26 dX9_averageStride_28 dX9_averageStride_31 (fun x hx => (ht x hx).elim) (Nat.le_of_ble_eq_true rfl) (by decide) (Nat.le_of_ble_eq_true rfl) (Nat.le_of_ble_eq_true rfl) hlocks (fun T9 _ h1 h2 => ⟨none, show ((f_xTrack σ id).or (atO (f_findTrack σ id) none (fun k => if f_countPrints σ k - 1 < 1 then some (eARE, none) else none)) : XO) = some ("java/lang/ArithmeticException", none) from (by first | (simp [Option.or, atO, eIOO, eIAE, eUOE, eNSE, eARE, eISE, hthr_x_1, q_2, c_3, c_3d]; done) | ((try simp only [hthr_x_1]); simp [f_xTrack, f_xNo, atO, Option.or, atO, eIOO, eIAE, eUOE, eNSE, eARE, eISE, hthr_x_1, q_2, c_3, c_3d]; done)), ⟨rj, sp_P_ext hP h2, rfl⟩, sp_SF hS h1 h2⟩) hS.2.2 (by omega) (by omega)

theorem wi_X9_lateShare_X9 : ∀ w ∈ wsX90, w ∈ wsX9_lateShare := by decide +kernel
set_option maxHeartbeats 4000000 in
set_option maxRecDepth 100000 in
theorem c_X9_lateShare (l : Launch) (D : va_G) (ad : Nat → Nat) (cy : Nat → ClassId) (pm : Nat → Nat) (rj : Option Nat) (σ : Nat → Nat → Int32) (xq : Nat → Nat) (hst : l.stackTraces = false) (sz : Nat) (hi : sp_inj ad 459) (hd : ¬ f_countPrintsInRows σ 0 10 = 0 → vf_n32 (FP.fdiv (FP.i2f (f_countLatePrints σ)) (FP.i2f (f_countPrintsInRows σ 0 10)))) : vx_Met l yX9_lateShare wsX9_lateShare ({ frames := 6, cells := 1, slots := 6, locals := 90 } : Room) (sp_Pmx xq ad 459 D (tyG cy) sz [.ref (ad (429))] (cW ad cy pm rj σ)) (sp_QT (f_xAr (f_countPrintsInRows σ 0 10 == 0)) D (some (.float (FP.fdiv (FP.i2f (f_countLatePrints σ)) (FP.i2f (f_countPrintsInRows σ 0 10))))) (cW ad cy (pm) (rj) (σ)) (sp_A ad 459 sz)) (sp_XT (f_xAr (f_countPrintsInRows σ 0 10 == 0)) (sp_B D ad cy (pm) (σ) sz rj) (sp_A ad 459 sz)) 1 6 (sp_A ad 459 sz) := by
  refine vx_ofW (cc := cX9_lateShare) (maxL := 2) (ret := (some .float)) (by decide) rfl ?_
  intro p e s m args below meth c s₁ B hml ht hv
  obtain ⟨rfl, hsz, hP, hK, hE⟩ := hv
  have hx := B.exec
  have hb := B.bytes
  have hr := B.returns
  have hts := atoms_spec (ws := wsX9_lateShare) B.pre
  have hown : s.vm.findClass RX9 = some m.cls := findClass_of_methodNamed B.named
  have hlocks := B.notSynchronized
  subst hsz
  have hlt0 : ∀ k, k < 459 → ad k < s.heap.size := fun k hk => (sp_P_at hP hk).lt
  have hS : va_S (sp_A ad 459 s.heap.size) s.heap s.heap [] := va_S.rf
  have hAk : ∀ k, k < 459 → (sp_A ad 459 s.heap.size) (ad k) := fun k hk => Or.inl ⟨k, hk, rfl⟩
  skip
  have hl := lv_entry ([.ref (ad (429))]) (n := 2) (Nat.le_of_ble_eq_true rfl)
  refine W.eq (lg_entry_eq _ ([.ref (ad (429))]) _) ?_
  generalize (lg_sl ([.ref (ad (429))]) ++ List.replicate (2 - (lg_sl ([.ref (ad (429))])).length) Slot.unset).toArray = ls at hl ⊢
  have hl : lv_has ls 2 [(0, .ref (ad (429)))] := hl
  refine lv_aload_n hx hb dX9_lateShare_0 rfl (lv_at hl 0 rfl) ?_
  refine sp_get hx hb hts wi_X9_lateShare_X9 hown hK hP (κ := 429) (by decide) cE_sp rfl 0 (by decide) (hts _ (List.mem_of_getElem? (i := 3) rfl)) (fun _ h => h) rfl dX9_lateShare_1 ?_
  refine sp_call (W.runV (As := []) (rest := []) ⟨hx, hb, hml, hown, hts⟩ (c_X0_countAllPrints l D ad cy pm rj σ ) (cwV 0 hts gX9_lateShare_X0_countAllPrints rfl rfl rfl (by decide +kernel) ⟨Nat.le_of_ble_eq_true rfl, Nat.le_of_ble_eq_true rfl⟩) (sp_preV hK hP (κ := 0) (by omega) (cE_beach (by omega) (by omega)) rfl) rfl rfl hl.1 rfl (lv_room (Nat.le_of_ble_eq_true rfl)) dX9_lateShare_4 ⟨Nat.le_of_ble_eq_true rfl, Nat.le_of_ble_eq_true rfl⟩) ?_
  refine W.eq (g2 := F0 m 7 ls [.int (f_countPrintsInRows σ 0 10)]) rfl ?_
  refine lv_istore_n (lv' := [(1, .int (f_countPrintsInRows σ 0 10)), (0, .ref (ad (429)))]) hx hb dX9_lateShare_7 rfl hl (by decide) rfl (fun ls hl => ?_)
  refine lv_iload_n hx hb dX9_lateShare_8 rfl (lv_at hl 0 rfl) ?_
  refine lv_if_ne (tgt := 23) hx hb dX9_lateShare_9 (by decide) (fun c_1 => ?_) (fun c_1 => ?_)
  · skip
    have hc9 := c_1
    refine lv_aload_n hx hb dX9_lateShare_23 rfl (lv_at hl 1 rfl) ?_
    refine sp_get hx hb hts wi_X9_lateShare_X9 hown hK hP (κ := 429) (by decide) cE_sp rfl 0 (by decide) (hts _ (List.mem_of_getElem? (i := 3) rfl)) (fun _ h => h) rfl dX9_lateShare_24 ?_
    refine sp_call (W.runV (As := []) (rest := []) ⟨hx, hb, hml, hown, hts⟩ (c_X0_countLatePrints l D ad cy pm rj σ ) (cwV 0 hts gX9_lateShare_X0_countLatePrints rfl rfl rfl (by decide +kernel) ⟨Nat.le_of_ble_eq_true rfl, Nat.le_of_ble_eq_true rfl⟩) (sp_preV hK hP (κ := 0) (by omega) (cE_beach (by omega) (by omega)) rfl) rfl rfl hl.1 rfl (lv_room (Nat.le_of_ble_eq_true rfl)) dX9_lateShare_27 ⟨Nat.le_of_ble_eq_true rfl, Nat.le_of_ble_eq_true rfl⟩) ?_
    refine W.eq (g2 := F0 m 30 ls [.int (f_countLatePrints σ)]) rfl ?_
    refine lv_i2f hx hb dX9_lateShare_30 ?_
    refine lv_iload_n hx hb dX9_lateShare_31 rfl (lv_at hl 0 rfl) ?_
    refine lv_i2f hx hb dX9_lateShare_32 ?_
    refine lv_fdiv hx hb dX9_lateShare_33 (hd hc9) ?_
    refine W.widen (k := 1) (n := 6) (by omega) (by omega) ?_
    exact vx_ret (W.fret (v := FP.fdiv (FP.i2f (f_countLatePrints σ)) (FP.i2f (f_countPrintsInRows σ 0 10))) hx hb hr (fun T9 hT9 _ => ⟨show (f_xAr (f_countPrintsInRows σ 0 10 == 0) : XO) = none from (by first | (simp [Option.or, eIOO, eIAE, eUOE, eNSE, eARE, eISE, c_1]; done) | (simp [f_xAr, eIOO, eIAE, eUOE, eNSE, eARE, eISE, c_1]; done)), congrArg (fun z9 => Outcome.returned (some (Value.float z9))) (show (FP.fdiv (FP.i2f (f_countLatePrints σ)) (FP.i2f (f_countPrintsInRows σ 0 10)) : UInt32) = FP.fdiv (FP.i2f (f_countLatePrints σ)) (FP.i2f (f_countPrintsInRows σ 0 10)) from (by first | rfl | (simp [b2i, c_1]; done))), by rw [hT9]; exact hP, hS.F hT9⟩) hS.2.2 dX9_lateShare_34)
  · skip
    refine vx_throwSW (names := ["java/lang/RuntimeException", "java/lang/Exception"]) (sa := xq 16) hx hb hst hown (by decide +kernel) (by decide +kernel) (hts _ (List.mem_of_getElem? (i := 1) rfl)) (hts _ (List.mem_of_getElem? (i := 2) rfl)) hE.t16 (vx_hat (fun w hw => hts w (List.mem_cons_of_mem _ (List.mem_append_right _ hw))) (by decide +kernel) (vx_c (va_Nw.use rfl hE.k4) (vx_c (va_Nw.use rfl hE.d0) (vx_c (va_Nw.use rfl hE.d1) (vx_c (va_Nw.use rfl hE.d2) vx_n))))) (by decide +kernel) hE.2.2.1 hE.2.2.2.1 hS (by rw [hml]; exact hl.1) dX9_lateShare_12 dX9_lateShare_15 dX9_lateShare_16 dX9_lateShare_19 dX9_lateShare_22 (fun x hx => (ht x hx).elim) (Nat.le_of_ble_eq_true rfl) (by decide) (Nat.le_of_ble_eq_true rfl) (Nat.le_of_ble_eq_true rfl) hlocks (fun T9 _ h1 h2 => ⟨none, show (f_xAr (f_countPrintsInRows σ 0 10 == 0) : XO) = some ("java/lang/ArithmeticException", none) from (by first | (simp [Option.or, eIOO, eIAE, eUOE, eNSE, eARE, eISE, c_1]; done) | (simp [f_xAr, eIOO, eIAE, eUOE, eNSE, eARE, eISE, c_1]; done)), ⟨rj, sp_P_ext hP h2, rfl⟩, sp_SF hS h1 h2⟩) hS.2.2 (by omega) (by omega)
