theorem wi_X9_writeTrack_X9 : ∀ w ∈ wsX90, w ∈ wsX9_writeTrack := by decide +kernel
theorem wi_X9_writeTrack_X7 : ∀ w ∈ wsX70, w ∈ wsX9_writeTrack := by decide +kernel
set_option maxHeartbeats 4000000 in
set_option maxRecDepth 100000 in
theorem c_X9_writeTrack (l : Launch) (D : va_G) (ad : Nat → Nat) (cy : Nat → ClassId) (pm : Nat → Nat) (rj : Option Nat) (σ : Nat → Nat → Int32) (xq : Nat → Nat) (hst : l.stackTraces = false) (sz : Nat) (hi : sp_inj ad 459) (id : Int32) : vx_Met l yX9_writeTrack wsX9_writeTrack ({ frames := 7, cells := 1, slots := 6, locals := 130 } : Room) (sp_Pmx xq ad 459 D (tyG cy) sz [.ref (ad (429)), .int (id)] (cW ad cy pm rj σ)) (sp_QT (f_xTrack σ id) D (some (.int (atO (f_findTrack σ id) 0 (fun k => f_wrTn σ k 436 1)))) (cW ad cy (pm) (rj) (atO (f_findTrack σ id) σ (fun k => f_wrTn σ k))) (sp_A ad 459 sz)) (sp_XT (f_xTrack σ id) (sp_B D ad cy (pm) (σ) sz rj) (sp_A ad 459 sz)) 1 6 (sp_A ad 459 sz) := by
  refine vx_ofW (cc := cX9_writeTrack) (maxL := 5) (ret := (some .int)) (by decide) rfl ?_
  intro p e s m args below meth c s₁ B hml ht hv
  obtain ⟨rfl, hsz, hP, hK, hE⟩ := hv
  have hx := B.exec
  have hb := B.bytes
  have hr := B.returns
  have hts := atoms_spec (ws := wsX9_writeTrack) B.pre
  have hown : s.vm.findClass RX9 = some m.cls := findClass_of_methodNamed B.named
  have hlocks := B.notSynchronized
  subst hsz
  have hlt0 : ∀ k, k < 459 → ad k < s.heap.size := fun k hk => (sp_P_at hP hk).lt
  have hS : va_S (sp_A ad 459 s.heap.size) s.heap s.heap [] := va_S.rf
  have hAk : ∀ k, k < 459 → (sp_A ad 459 s.heap.size) (ad k) := fun k hk => Or.inl ⟨k, hk, rfl⟩
  skip
  have hl := lv_entry ([.ref (ad (429)), .int (id)]) (n := 5) (Nat.le_of_ble_eq_true rfl)
  refine W.eq (lg_entry_eq _ ([.ref (ad (429)), .int (id)]) _) ?_
  generalize (lg_sl ([.ref (ad (429)), .int (id)]) ++ List.replicate (5 - (lg_sl ([.ref (ad (429)), .int (id)])).length) Slot.unset).toArray = ls at hl ⊢
  have hl : lv_has ls 5 [(0, .ref (ad (429))), (1, .int (id))] := hl
  refine lv_aload_n hx hb dX9_writeTrack_0 rfl (lv_at hl 0 rfl) ?_
  refine lv_iload_n hx hb dX9_writeTrack_1 rfl (lv_at hl 1 rfl) ?_
  have hS0_x_1 := hS.1
  refine sp_callx (vx_runV (As := [.int (id)]) (rest := []) ⟨hx, hb, hml, hown, hts⟩ (c_X9_requireTrack l D ad cy pm rj σ xq hst _ hi id) (cwV 1 hts gX9_writeTrack_X9_requireTrack rfl rfl rfl (by decide +kernel) ⟨Nat.le_of_ble_eq_true rfl, Nat.le_of_ble_eq_true rfl⟩) (sp_preVmx hK hP (hE.go hS) (κ := 429) (by decide) cE_sp rfl) rfl rfl hl.1 rfl (lv_room (Nat.le_of_ble_eq_true rfl)) dX9_writeTrack_2 ⟨Nat.le_of_ble_eq_true rfl, Nat.le_of_ble_eq_true rfl⟩) hS (fun q h1 h2 => sp_Alt h1 h2) (sp_Ale hS.1) (fun E_x_1 r_x_1 ce_x_1 q9_x_1 H locs hthr_x_1 hB_x_1 hle hfr hS hce_x_1 hcv_x_1 hcl_x_1 => ?_) (fun hthr_x_1 H locs hP hle hfr hS => ?_)
  · skip
    obtain ⟨rj9, hPx, hN⟩ := hB_x_1
    exact vx_out (fun x hx => (ht x hx).elim) hlocks hce_x_1 hcv_x_1 hcl_x_1 (fun T9 hT9 _ => ⟨r_x_1, show (f_xTrack σ id : XO) = some (E_x_1, r_x_1) from (by first | (simp [Option.or, eIOO, eIAE, eUOE, eNSE, eARE, eISE, hthr_x_1]; done) | (simp only [hthr_x_1]; simp [f_xTrack, f_xNo, eIOO, eIAE, eUOE, eNSE, eARE, eISE, hthr_x_1]; done)), by rw [hT9]; exact ⟨rj9, hPx, hN.mono hS0_x_1⟩, hS.F hT9⟩) hS.2.2 (by omega) (by omega)
  · skip
    rcases opt_em (f_findTrack σ id) with q_2 | ⟨k, q_2⟩
    · exact absurd hthr_x_1 (by simp [f_xTrack, f_xNo, q_2])
    · have hk := f_findTrack_lt q_2
      refine W.eq (g2 := F0 m 5 ls [.ref (ad (3 + k))]) (by rw [q_2]; rfl) ?_
      refine lv_astore_n (lv' := [(2, .ref (ad (3 + k))), (0, .ref (ad (429))), (1, .int (id))]) hx hb dX9_writeTrack_5 rfl hl (by decide) rfl (fun ls hl => ?_)
      refine lv_aload_n hx hb dX9_writeTrack_6 rfl (lv_at hl 1 rfl) ?_
      refine sp_get hx hb hts wi_X9_writeTrack_X9 hown hK hP (κ := 429) (by decide) cE_sp rfl 7 (by decide) (hts _ (List.mem_of_getElem? (i := 1) rfl)) (fun _ h => h) rfl dX9_writeTrack_7 ?_
      refine sp_callm (va_runV (As := []) (rest := []) ⟨hx, hb, hml, hown, hts⟩ (c_X7_clear_436 l D ad cy pm rj σ _ hi ) (cwV 0 hts gX9_writeTrack_X7_clear rfl rfl rfl (by decide +kernel) ⟨Nat.le_of_ble_eq_true rfl, Nat.le_of_ble_eq_true rfl⟩) (sp_preVm hK hP (κ := 436) (by decide) cE_out rfl) rfl rfl hl.1 rfl (lv_room (Nat.le_of_ble_eq_true rfl)) dX9_writeTrack_10 ⟨Nat.le_of_ble_eq_true rfl, Nat.le_of_ble_eq_true rfl⟩) hS (fun q h1 h2 => sp_Alt h1 h2) (sp_Ale hS.1) (fun H locs hP hle hfr hS => ?_)
      refine W.eq (g2 := F0 m 13 ls []) rfl ?_
      obtain ⟨n0, hn0, hN⟩ := f_countPrints_nI (sp_st σ 436 1 0) k
      have hT : f_wrTn σ k = f_wrT σ k n0 := by unfold f_wrTn; rw [hN, tn_nI (by omega)]
      refine lv_aload_n hx hb dX9_writeTrack_13 rfl (lv_at hl 1 rfl) ?_
      refine sp_get hx hb hts wi_X9_writeTrack_X9 hown hK hP (κ := 429) (by decide) cE_sp rfl 0 (by decide) (hts _ (List.mem_of_getElem? (i := 2) rfl)) (fun _ h => h) rfl dX9_writeTrack_14 ?_
      refine lv_aload_n hx hb dX9_writeTrack_17 rfl (lv_at hl 0 rfl) ?_
      refine sp_call (W.runV (As := [.ref (ad (3 + k))]) (rest := []) ⟨hx, hb, hml, hown, hts⟩ (c_X0_countPrints l D ad cy pm rj (sp_st σ 436 1 0) k (by omega)) (cwV 1 hts gX9_writeTrack_X0_countPrints rfl rfl rfl (by decide +kernel) ⟨Nat.le_of_ble_eq_true rfl, Nat.le_of_ble_eq_true rfl⟩) (sp_preV hK hP (κ := 0) (by omega) (cE_beach (by omega) (by omega)) rfl) rfl rfl hl.1 rfl (lv_room (Nat.le_of_ble_eq_true rfl)) dX9_writeTrack_18 ⟨Nat.le_of_ble_eq_true rfl, Nat.le_of_ble_eq_true rfl⟩) ?_
      refine W.eq (g2 := F0 m 21 ls [.int (f_countPrints (sp_st σ 436 1 0) k)]) rfl ?_
      refine lv_istore_n (lv' := [(3, .int (f_countPrints (sp_st σ 436 1 0) k)), (2, .ref (ad (3 + k))), (0, .ref (ad (429))), (1, .int (id))]) hx hb dX9_writeTrack_21 rfl hl (by decide) rfl (fun ls hl => ?_)
      refine lv_iconst (v := 0) hx hb dX9_writeTrack_22 (by decide) ?_
      refine lv_istore (lv' := [(4, .int (0)), (3, .int (f_countPrints (sp_st σ 436 1 0) k)), (2, .ref (ad (3 + k))), (0, .ref (ad (429))), (1, .int (id))]) hx hb dX9_writeTrack_23 hl (by decide) rfl (fun ls hl => ?_)
      have loop_25 : ∀ (n i : Nat) (H : Heap) (locs : List Loc), (i ≤ n0) → (n0 - i < n) → (va_P D vwCl (cW ad cy pm rj (f_wrT σ k i)) H) → (va_S (sp_A ad 459 s.heap.size) s.heap H locs) → ∀ ls : Array Slot, lv_has ls 5 [(4, .int (nI i)), (3, .int (f_countPrints (sp_st σ 436 1 0) k)), (2, .ref (ad (3 + k))), (0, .ref (ad (429))), (1, .int (id))] → W p l e (headSpec wsX9_writeTrack ({ frames := 7, cells := 1, slots := 6, locals := 130 } : Room)).room s m ([.ref (ad (429)), .int (id)] : List Value).toArray below meth c H locs 1 6 (vx_MQ below (sp_QT (f_xTrack σ id) D (some (.int (atO (f_findTrack σ id) 0 (fun k => f_wrTn σ k 436 1)))) (cW ad cy (pm) (rj) (atO (f_findTrack σ id) σ (fun k => f_wrTn σ k))) (sp_A ad 459 s.heap.size)) (sp_XT (f_xTrack σ id) (sp_B D ad cy (pm) (σ) s.heap.size rj) (sp_A ad 459 s.heap.size)) ([.ref (ad (429)), .int (id)] : List Value).toArray s 1 6 (sp_A ad 459 s.heap.size)) (F0 m 25 ls []) := by
        intro n
        induction n with
        | zero => intro i H locs hle hlt hP hS ls hl; exact absurd hlt (Nat.not_lt_zero _)
        | succ n ih =>
          intro i H locs hle hlt hP hS ls hl
          refine lv_iload hx hb dX9_writeTrack_25 (lv_at hl 0 rfl) ?_
          refine lv_iload_n hx hb dX9_writeTrack_27 rfl (lv_at hl 1 rfl) ?_
          refine lv_icmp_ge (tgt := 51) hx hb dX9_writeTrack_28 (by decide) (fun c_3 => ?_) (fun c_3 => ?_)
          · skip
            have c_3d := Int32.not_lt.mpr c_3
            rw [hN] at c_3
            have hx_i : i = n0 := by have := (nI_leI (a := n0) (b := i) (by omega) (by omega)).mp c_3; omega
            rw [hx_i] at hP
            refine lv_aload_n hx hb dX9_writeTrack_51 rfl (lv_at hl 3 rfl) ?_
            refine sp_get hx hb hts wi_X9_writeTrack_X9 hown hK hP (κ := 429) (by decide) cE_sp rfl 7 (by decide) (hts _ (List.mem_of_getElem? (i := 1) rfl)) (fun _ h => h) rfl dX9_writeTrack_52 ?_
            refine sp_get hx hb hts wi_X9_writeTrack_X7 hown hK hP (κ := 436) (by decide) cE_out rfl 1 (by decide) (hts _ (List.mem_of_getElem? (i := 3) rfl)) (fun _ h => h) rfl dX9_writeTrack_55 ?_
            have hE9 : cW ad cy (pm) (rj) (f_wrT σ k n0) = cW ad cy (pm) (rj) (atO (f_findTrack σ id) σ (fun k => f_wrTn σ k)) := by exact cW_eq rfl (by simp only [atO, b2i, hthr_x_1, q_2]; rw [hT])
            have hP : va_P D vwCl (cW ad cy (pm) (rj) (atO (f_findTrack σ id) σ (fun k => f_wrTn σ k))) H := by rw [← hE9]; exact hP
            exact vx_ret (W.iret (v := f_wrT σ k n0 436 1) hx hb hr (fun T9 hT9 _ => ⟨show (f_xTrack σ id : XO) = none from (by first | (simp [Option.or, eIOO, eIAE, eUOE, eNSE, eARE, eISE, hthr_x_1, q_2]; done) | (simp only [hthr_x_1]; simp [f_xTrack, f_xNo, eIOO, eIAE, eUOE, eNSE, eARE, eISE, hthr_x_1, q_2]; done)), congrArg (fun z9 => Outcome.returned (some (Value.int z9))) (show (f_wrT σ k n0 436 1 : Int32) = atO (f_findTrack σ id) 0 (fun k => f_wrTn σ k 436 1) from (by simp only [atO, b2i, hthr_x_1, q_2]; rw [hT])), by rw [hT9]; exact hP, hS.F hT9⟩) hS.2.2 dX9_writeTrack_58)
          · skip
            have c_3d := Int32.not_le.mp c_3
            rw [hN] at c_3
            have hb_i : i < n0 := Nat.lt_of_not_le (fun z => c_3 (nI_le z (by omega)))
            refine lv_aload_n hx hb dX9_writeTrack_31 rfl (lv_at hl 3 rfl) ?_
            refine lv_aload_n hx hb dX9_writeTrack_32 rfl (lv_at hl 3 rfl) ?_
            refine sp_get hx hb hts wi_X9_writeTrack_X9 hown hK hP (κ := 429) (by decide) cE_sp rfl 0 (by decide) (hts _ (List.mem_of_getElem? (i := 2) rfl)) (fun _ h => h) rfl dX9_writeTrack_33 ?_
            refine lv_aload_n hx hb dX9_writeTrack_36 rfl (lv_at hl 2 rfl) ?_
            refine lv_iload hx hb dX9_writeTrack_37 (lv_at hl 0 rfl) ?_
            refine sp_call (W.runV (As := [.ref (ad (3 + k)), .int (nI i)]) (rest := [.ref (ad (429))]) ⟨hx, hb, hml, hown, hts⟩ (c_X0_inPlace l D ad cy pm rj (f_wrT σ k i) k (by omega) (nI i)) (cwV 2 hts gX9_writeTrack_X0_inPlace rfl rfl rfl (by decide +kernel) ⟨Nat.le_of_ble_eq_true rfl, Nat.le_of_ble_eq_true rfl⟩) (sp_preV hK hP (κ := 0) (by omega) (cE_beach (by omega) (by omega)) rfl) rfl rfl hl.1 rfl (lv_room (Nat.le_of_ble_eq_true rfl)) dX9_writeTrack_39 ⟨Nat.le_of_ble_eq_true rfl, Nat.le_of_ble_eq_true rfl⟩) ?_
            rcases opt_em (f_inPlace (f_wrT σ k i) k (nI i)) with q_4 | ⟨j_5, q_4⟩
            · refine W.eq (g2 := F0 m 42 ls [.null, .ref (ad (429))]) (by rw [q_4]; rfl) ?_
              refine sp_callm (va_runV (As := [.null]) (rest := []) ⟨hx, hb, hml, hown, hts⟩ (c_X9_writePrint l D ad cy pm rj (f_wrT σ k i) _ hi (none : Option Nat) (by intro j hj; first | (cases hj; done) | (cases hj; omega)) (by exact f_wrT_0 _ _ _)) (cwV 1 hts gX9_writeTrack_X9_writePrint rfl rfl rfl (by decide +kernel) ⟨Nat.le_of_ble_eq_true rfl, Nat.le_of_ble_eq_true rfl⟩) (sp_preVm hK hP (κ := 429) (by decide) cE_sp rfl) rfl rfl hl.1 rfl (lv_room (Nat.le_of_ble_eq_true rfl)) dX9_writeTrack_42 ⟨Nat.le_of_ble_eq_true rfl, Nat.le_of_ble_eq_true rfl⟩) hS (fun q h1 h2 => sp_Alt h1 h2) (sp_Ale hS.1) (fun H locs hP hle hfr hS => ?_)
              refine W.eq (g2 := F0 m 45 ls []) rfl ?_
              refine lv_iinc (v := nI (i + 1)) (lv' := [(4, .int (nI (i + 1))), (3, .int (f_countPrints (sp_st σ 436 1 0) k)), (2, .ref (ad (3 + k))), (0, .ref (ad (429))), (1, .int (id))]) hx hb dX9_writeTrack_45 hl (k := 0) rfl (nI_1 _) (by decide) rfl (fun ls hl => ?_)
              refine lv_goto (tgt := 25) hx hb dX9_writeTrack_48 (by decide) ?_
              exact ih (i + 1)  _ _ (by omega) (by omega)  ((show cW ad cy pm rj (f_wrP (f_wrT σ k i) (none : Option Nat)) = cW ad cy pm rj (f_wrT σ k (i + 1)) from (by exact cW_eq rfl (f_wrT_s q_4))) ▸ hP) hS ls (lv_sub hl [0, 1, 2, 3, 4] rfl)
            · have hj_5 := f_inPlace_lt q_4
              refine W.eq (g2 := F0 m 42 ls [.ref (ad (9 + j_5)), .ref (ad (429))]) (by rw [q_4]; rfl) ?_
              refine sp_callm (va_runV (As := [.ref (ad (9 + j_5))]) (rest := []) ⟨hx, hb, hml, hown, hts⟩ (c_X9_writePrint l D ad cy pm rj (f_wrT σ k i) _ hi (some (j_5)) (by intro j hj; first | (cases hj; done) | (cases hj; omega)) (by exact f_wrT_0 _ _ _)) (cwV 1 hts gX9_writeTrack_X9_writePrint rfl rfl rfl (by decide +kernel) ⟨Nat.le_of_ble_eq_true rfl, Nat.le_of_ble_eq_true rfl⟩) (sp_preVm hK hP (κ := 429) (by decide) cE_sp rfl) rfl rfl hl.1 rfl (lv_room (Nat.le_of_ble_eq_true rfl)) dX9_writeTrack_42 ⟨Nat.le_of_ble_eq_true rfl, Nat.le_of_ble_eq_true rfl⟩) hS (fun q h1 h2 => sp_Alt h1 h2) (sp_Ale hS.1) (fun H locs hP hle hfr hS => ?_)
              refine W.eq (g2 := F0 m 45 ls []) rfl ?_
              refine lv_iinc (v := nI (i + 1)) (lv' := [(4, .int (nI (i + 1))), (3, .int (f_countPrints (sp_st σ 436 1 0) k)), (2, .ref (ad (3 + k))), (0, .ref (ad (429))), (1, .int (id))]) hx hb dX9_writeTrack_45 hl (k := 0) rfl (nI_1 _) (by decide) rfl (fun ls hl => ?_)
              refine lv_goto (tgt := 25) hx hb dX9_writeTrack_48 (by decide) ?_
              exact ih (i + 1)  _ _ (by omega) (by omega)  ((show cW ad cy pm rj (f_wrP (f_wrT σ k i) (some (j_5))) = cW ad cy pm rj (f_wrT σ k (i + 1)) from (by exact cW_eq rfl (f_wrT_s q_4))) ▸ hP) hS ls (lv_sub hl [0, 1, 2, 3, 4] rfl)
      exact loop_25 (n0 + 1) (0)  _ _ (by omega) (by omega)  ((show cW ad cy pm rj (sp_st σ 436 1 0) = cW ad cy pm rj (f_wrT σ k 0) from (by rfl)) ▸ hP) hS ls (lv_sub hl [0, 1, 2, 3, 4] rfl)

theorem wi_X9_writeRow_X9 : ∀ w ∈ wsX90, w ∈ wsX9_writeRow := by decide +kernel
theorem wi_X9_writeRow_X7 : ∀ w ∈ wsX70, w ∈ wsX9_writeRow := by decide +kernel
set_option maxHeartbeats 4000000 in
set_option maxRecDepth 100000 in
theorem c_X9_writeRow (l : Launch) (D : va_G) (ad : Nat → Nat) (cy : Nat → ClassId) (pm : Nat → Nat) (rj : Option Nat) (σ : Nat → Nat → Int32) (xq : Nat → Nat) (hst : l.stackTraces = false) (sz : Nat) (hi : sp_inj ad 459) (r : Int32) : vx_Met l yX9_writeRow wsX9_writeRow ({ frames := 7, cells := 1, slots := 6, locals := 110 } : Room) (sp_Pmx xq ad 459 D (tyG cy) sz [.ref (ad (429)), .int (r)] (cW ad cy pm rj σ)) (sp_QT (f_xRow r) D (some (.int (f_wrR σ r 20 436 1))) (cW ad cy (pm) (rj) (f_wrR σ r 20)) (sp_A ad 459 sz)) (sp_XT (f_xRow r) (sp_B D ad cy (pm) (σ) sz rj) (sp_A ad 459 sz)) 1 6 (sp_A ad 459 sz) := by
  refine vx_ofW (cc := cX9_writeRow) (maxL := 3) (ret := (some .int)) (by decide) rfl ?_
  intro p e s m args below meth c s₁ B hml ht hv
  obtain ⟨rfl, hsz, hP, hK, hE⟩ := hv
  have hx := B.exec
  have hb := B.bytes
  have hr := B.returns
  have hts := atoms_spec (ws := wsX9_writeRow) B.pre
  have hown : s.vm.findClass RX9 = some m.cls := findClass_of_methodNamed B.named
  have hlocks := B.notSynchronized
  subst hsz
  have hlt0 : ∀ k, k < 459 → ad k < s.heap.size := fun k hk => (sp_P_at hP hk).lt
  have hS : va_S (sp_A ad 459 s.heap.size) s.heap s.heap [] := va_S.rf
  have hAk : ∀ k, k < 459 → (sp_A ad 459 s.heap.size) (ad k) := fun k hk => Or.inl ⟨k, hk, rfl⟩
  skip
  have hl := lv_entry ([.ref (ad (429)), .int (r)]) (n := 3) (Nat.le_of_ble_eq_true rfl)
  refine W.eq (lg_entry_eq _ ([.ref (ad (429)), .int (r)]) _) ?_
  generalize (lg_sl ([.ref (ad (429)), .int (r)]) ++ List.replicate (3 - (lg_sl ([.ref (ad (429)), .int (r)])).length) Slot.unset).toArray = ls at hl ⊢
  have hl : lv_has ls 3 [(0, .ref (ad (429))), (1, .int (r))] := hl
  refine lv_iload_n hx hb dX9_writeRow_0 rfl (lv_at hl 1 rfl) ?_
  have hS0_x_1 := hS.1
  refine sp_callx (vx_runS (As := [.int (r)]) (rest := []) ⟨hx, hb, hml, hown, hts⟩ (c_X9_requireRow l D ad cy pm rj σ xq hst _ hi r) (va_cwS 1 hts gX9_writeRow_X9_requireRow rfl rfl rfl (by decide +kernel) ⟨Nat.le_of_ble_eq_true rfl, Nat.le_of_ble_eq_true rfl⟩) (sp_preSmx hK hP (hE.go hS)) rfl rfl hl.1 rfl (lv_room (Nat.le_of_ble_eq_true rfl)) dX9_writeRow_1 ⟨Nat.le_of_ble_eq_true rfl, Nat.le_of_ble_eq_true rfl⟩) hS (fun q h1 h2 => sp_Alt h1 h2) (sp_Ale hS.1) (fun E_x_1 r_x_1 ce_x_1 q9_x_1 H locs hthr_x_1 hB_x_1 hle hfr hS hce_x_1 hcv_x_1 hcl_x_1 => ?_) (fun hthr_x_1 H locs hP hle hfr hS => ?_)
  · skip
    obtain ⟨rj9, hPx, hN⟩ := hB_x_1
    exact vx_out (fun x hx => (ht x hx).elim) hlocks hce_x_1 hcv_x_1 hcl_x_1 (fun T9 hT9 _ => ⟨r_x_1, show (f_xRow r : XO) = some (E_x_1, r_x_1) from (by first | (simp [Option.or, eIOO, eIAE, eUOE, eNSE, eARE, eISE, hthr_x_1]; done) | (simp only [hthr_x_1]; simp [f_xRow, eIOO, eIAE, eUOE, eNSE, eARE, eISE, hthr_x_1]; done)), by rw [hT9]; exact ⟨rj9, hPx, hN.mono hS0_x_1⟩, hS.F hT9⟩) hS.2.2 (by omega) (by omega)
  · skip
    refine W.eq (g2 := F0 m 4 ls []) rfl ?_
    refine lv_aload_n hx hb dX9_writeRow_4 rfl (lv_at hl 0 rfl) ?_
    refine sp_get hx hb hts wi_X9_writeRow_X9 hown hK hP (κ := 429) (by decide) cE_sp rfl 7 (by decide) (hts _ (List.mem_of_getElem? (i := 1) rfl)) (fun _ h => h) rfl dX9_writeRow_5 ?_
    refine sp_callm (va_runV (As := []) (rest := []) ⟨hx, hb, hml, hown, hts⟩ (c_X7_clear_436 l D ad cy pm rj σ _ hi ) (cwV 0 hts gX9_writeRow_X7_clear rfl rfl rfl (by decide +kernel) ⟨Nat.le_of_ble_eq_true rfl, Nat.le_of_ble_eq_true rfl⟩) (sp_preVm hK hP (κ := 436) (by decide) cE_out rfl) rfl rfl hl.1 rfl (lv_room (Nat.le_of_ble_eq_true rfl)) dX9_writeRow_8 ⟨Nat.le_of_ble_eq_true rfl, Nat.le_of_ble_eq_true rfl⟩) hS (fun q h1 h2 => sp_Alt h1 h2) (sp_Ale hS.1) (fun H locs hP hle hfr hS => ?_)
    refine W.eq (g2 := F0 m 11 ls []) rfl ?_
    refine lv_iconst (v := 0) hx hb dX9_writeRow_11 (by decide) ?_
    refine lv_istore_n (lv' := [(2, .int (0)), (0, .ref (ad (429))), (1, .int (r))]) hx hb dX9_writeRow_12 rfl hl (by decide) rfl (fun ls hl => ?_)
    have loop_13 : ∀ (n i : Nat) (H : Heap) (locs : List Loc), (i ≤ 20) → (20 - i < n) → (va_P D vwCl (cW ad cy pm rj (f_wrR σ r i)) H) → (va_S (sp_A ad 459 s.heap.size) s.heap H locs) → ∀ ls : Array Slot, lv_has ls 3 [(2, .int (nI i)), (0, .ref (ad (429))), (1, .int (r))] → W p l e (headSpec wsX9_writeRow ({ frames := 7, cells := 1, slots := 6, locals := 110 } : Room)).room s m ([.ref (ad (429)), .int (r)] : List Value).toArray below meth c H locs 1 6 (vx_MQ below (sp_QT (f_xRow r) D (some (.int (f_wrR σ r 20 436 1))) (cW ad cy (pm) (rj) (f_wrR σ r 20)) (sp_A ad 459 s.heap.size)) (sp_XT (f_xRow r) (sp_B D ad cy (pm) (σ) s.heap.size rj) (sp_A ad 459 s.heap.size)) ([.ref (ad (429)), .int (r)] : List Value).toArray s 1 6 (sp_A ad 459 s.heap.size)) (F0 m 13 ls []) := by
      intro n
      induction n with
      | zero => intro i H locs hle hlt hP hS ls hl; exact absurd hlt (Nat.not_lt_zero _)
      | succ n ih =>
        intro i H locs hle hlt hP hS ls hl
        refine lv_iload_n hx hb dX9_writeRow_13 rfl (lv_at hl 0 rfl) ?_
        refine lv_bipush (v := 20) hx hb dX9_writeRow_14 (by decide) ?_
        refine lv_icmp_ge (tgt := 38) hx hb dX9_writeRow_16 (by decide) (fun c_2 => ?_) (fun c_2 => ?_)
        · skip
          have c_2d := Int32.not_lt.mpr c_2
          have hx_i : i = 20 := by have := (nI_leI (a := 20) (b := i) (by omega) (by omega)).mp c_2; omega
          rw [hx_i] at hP
          refine lv_aload_n hx hb dX9_writeRow_38 rfl (lv_at hl 1 rfl) ?_
          refine sp_get hx hb hts wi_X9_writeRow_X9 hown hK hP (κ := 429) (by decide) cE_sp rfl 7 (by decide) (hts _ (List.mem_of_getElem? (i := 1) rfl)) (fun _ h => h) rfl dX9_writeRow_39 ?_
          refine sp_get hx hb hts wi_X9_writeRow_X7 hown hK hP (κ := 436) (by decide) cE_out rfl 1 (by decide) (hts _ (List.mem_of_getElem? (i := 2) rfl)) (fun _ h => h) rfl dX9_writeRow_42 ?_
          exact vx_ret (W.iret (v := f_wrR σ r 20 436 1) hx hb hr (fun T9 hT9 _ => ⟨show (f_xRow r : XO) = none from (by first | (simp [Option.or, eIOO, eIAE, eUOE, eNSE, eARE, eISE, hthr_x_1]; done) | (simp only [hthr_x_1]; simp [f_xRow, eIOO, eIAE, eUOE, eNSE, eARE, eISE, hthr_x_1]; done)), congrArg (fun z9 => Outcome.returned (some (Value.int z9))) (show (f_wrR σ r 20 436 1 : Int32) = f_wrR σ r 20 436 1 from (by first | rfl | (simp [b2i, hthr_x_1]; done))), by rw [hT9]; exact hP, hS.F hT9⟩) hS.2.2 dX9_writeRow_45)
        · skip
          have c_2d := Int32.not_le.mp c_2
          have hb_i : i < 20 := Nat.lt_of_not_le (fun z => c_2 (nI_le z (by omega)))
          refine lv_aload_n hx hb dX9_writeRow_19 rfl (lv_at hl 1 rfl) ?_
          refine sp_get hx hb hts wi_X9_writeRow_X9 hown hK hP (κ := 429) (by decide) cE_sp rfl 7 (by decide) (hts _ (List.mem_of_getElem? (i := 1) rfl)) (fun _ h => h) rfl dX9_writeRow_20 ?_
          refine lv_aload_n hx hb dX9_writeRow_23 rfl (lv_at hl 1 rfl) ?_
          refine lv_iload_n hx hb dX9_writeRow_24 rfl (lv_at hl 2 rfl) ?_
          refine lv_iload_n hx hb dX9_writeRow_25 rfl (lv_at hl 0 rfl) ?_
          refine sp_call (W.runV (As := [.int (r), .int (nI i)]) (rest := [.ref (ad (436))]) ⟨hx, hb, hml, hown, hts⟩ (c_X9_signOf l D ad cy pm rj (f_wrR σ r i) r (nI i)) (cwV 2 hts gX9_writeRow_X9_signOf rfl rfl rfl (by decide +kernel) ⟨Nat.le_of_ble_eq_true rfl, Nat.le_of_ble_eq_true rfl⟩) (sp_preV hK hP (κ := 429) (by decide) cE_sp rfl) rfl rfl hl.1 rfl (lv_room (Nat.le_of_ble_eq_true rfl)) dX9_writeRow_26 ⟨Nat.le_of_ble_eq_true rfl, Nat.le_of_ble_eq_true rfl⟩) ?_
          refine W.eq (g2 := F0 m 29 ls [.int (f_signOf (f_wrR σ r i) r (nI i)), .ref (ad (436))]) rfl ?_
          refine sp_callm (va_runV (As := [.int (f_signOf (f_wrR σ r i) r (nI i))]) (rest := []) ⟨hx, hb, hml, hown, hts⟩ (c_X7_append_436 l D ad cy pm rj (f_wrR σ r i) _ hi (by exact f_wrR_0 _ _ _) (f_signOf (f_wrR σ r i) r (nI i))) (cwV 1 hts gX9_writeRow_X7_append rfl rfl rfl (by decide +kernel) ⟨Nat.le_of_ble_eq_true rfl, Nat.le_of_ble_eq_true rfl⟩) (sp_preVm hK hP (κ := 436) (by decide) cE_out rfl) rfl rfl hl.1 rfl (lv_room (Nat.le_of_ble_eq_true rfl)) dX9_writeRow_29 ⟨Nat.le_of_ble_eq_true rfl, Nat.le_of_ble_eq_true rfl⟩) hS (fun q h1 h2 => sp_Alt h1 h2) (sp_Ale hS.1) (fun H locs hP hle hfr hS => ?_)
          refine W.eq (g2 := F0 m 32 ls []) rfl ?_
          refine lv_iinc (v := nI (i + 1)) (lv' := [(2, .int (nI (i + 1))), (0, .ref (ad (429))), (1, .int (r))]) hx hb dX9_writeRow_32 hl (k := 0) rfl (nI_1 _) (by decide) rfl (fun ls hl => ?_)
          refine lv_goto (tgt := 13) hx hb dX9_writeRow_35 (by decide) ?_
          exact ih (i + 1)  _ _ (by omega) (by omega)  ((show cW ad cy pm rj (f_appO (f_wrR σ r i) (f_signOf (f_wrR σ r i) r (nI i))) = cW ad cy pm rj (f_wrR σ r (i + 1)) from (by rfl)) ▸ hP) hS ls (lv_sub hl [0, 1, 2] rfl)
    exact loop_13 (20 + 1) (0)  _ _ (by omega) (by omega)  ((show cW ad cy pm rj (sp_st σ 436 1 0) = cW ad cy pm rj (f_wrR σ r 0) from (by rfl)) ▸ hP) hS ls (lv_sub hl [0, 1, 2] rfl)
