theorem wi_X6_readCommand_X6 : ∀ w ∈ wsX60, w ∈ wsX6_readCommand := by decide +kernel
theorem wi_X6_readCommand_X1 : ∀ w ∈ wsX10, w ∈ wsX6_readCommand := by decide +kernel
set_option maxHeartbeats 4000000 in
set_option maxRecDepth 100000 in
theorem c_X6_readCommand (l : Launch) (D : va_G) (ad : Nat → Nat) (cy : Nat → ClassId) (pm : Nat → Nat) (rj : Option Nat) (σ : Nat → Nat → Int32) (xq : Nat → Nat) (sz : Nat) (hi : sp_inj ad 459) (i : Nat) (hi2 : i < 20) : Met l yX6_readCommand wsX6_readCommand ({ frames := 4, cells := 0, slots := 0, locals := 89 } : Room) (sp_Pmx xq ad 459 D (tyG cy) sz [.ref (ad (433)), .ref (ad (439 + i))] (cW ad cy pm rj σ)) (sp_Q D (none) (cW ad cy (pm) (rj) (f_rdCmd σ i)) (sp_A ad 459 sz)) 0 0 (sp_A ad 459 sz) := by
  refine Met.ofW (cc := cX6_readCommand) (maxL := 4) (ret := none) (by decide) rfl ?_
  intro p e s m args below meth c s₁ B hml hv
  obtain ⟨rfl, hsz, hP, hK, hE⟩ := hv
  have hx := B.exec
  have hb := B.bytes
  have hr := B.returns
  have hts := atoms_spec (ws := wsX6_readCommand) B.pre
  have hown : s.vm.findClass RX6 = some m.cls := findClass_of_methodNamed B.named
  have hlocks := B.notSynchronized
  subst hsz
  have hS : va_S (sp_A ad 459 s.heap.size) s.heap s.heap [] := va_S.rf
  have hAk : ∀ k, k < 459 → (sp_A ad 459 s.heap.size) (ad k) := fun k hk => Or.inl ⟨k, hk, rfl⟩
  skip
  obtain ⟨n0, hn0⟩ : ∃ n0, exL.getD (f_parts (f_signI σ (σ 433 3))) 0 = n0 := ⟨_, rfl⟩
  have hn9 : n0 ≤ 9 := by rw [← hn0]; exact ex_len9 _ (f_parts_lt _)
  have hl := lv_entry ([.ref (ad (433)), .ref (ad (439 + i))]) (n := 4) (Nat.le_of_ble_eq_true rfl)
  refine W.eq (lg_entry_eq _ ([.ref (ad (433)), .ref (ad (439 + i))]) _) ?_
  generalize (lg_sl ([.ref (ad (433)), .ref (ad (439 + i))]) ++ List.replicate (4 - (lg_sl ([.ref (ad (433)), .ref (ad (439 + i))])).length) Slot.unset).toArray = ls at hl ⊢
  have hl : lv_has ls 4 [(0, .ref (ad (433))), (1, .ref (ad (439 + i)))] := hl
  refine lv_aload_n hx hb dX6_readCommand_0 rfl (lv_at hl 1 rfl) ?_
  refine lv_aload_n hx hb dX6_readCommand_1 rfl (lv_at hl 0 rfl) ?_
  refine sp_get hx hb hts wi_X6_readCommand_X6 hown hK hP (κ := 433) (by decide) cE_script rfl 0 (by decide) (hts _ (List.mem_of_getElem? (i := 1) rfl)) (fun _ h => h) rfl dX6_readCommand_2 ?_
  refine lv_aload_n hx hb dX6_readCommand_5 rfl (lv_at hl 0 rfl) ?_
  refine sp_get hx hb hts wi_X6_readCommand_X6 hown hK hP (κ := 433) (by decide) cE_script rfl 3 (by decide) (hts _ (List.mem_of_getElem? (i := 2) rfl)) (fun _ h => h) rfl dX6_readCommand_6 ?_
  refine sp_call (W.runV (As := [.int (σ 433 3)]) (rest := [.ref (ad (439 + i))]) ⟨hx, hb, hml, hown, hts⟩ (c_X7_signAt_434 l D ad cy pm rj σ (σ 433 3)) (cwV 1 hts gX6_readCommand_X7_signAt rfl rfl rfl (by decide +kernel) ⟨Nat.le_of_ble_eq_true rfl, Nat.le_of_ble_eq_true rfl⟩) (sp_preV hK hP (κ := 434) (by decide) cE_in rfl) rfl rfl hl.1 rfl (lv_room (Nat.le_of_ble_eq_true rfl)) dX6_readCommand_9 ⟨Nat.le_of_ble_eq_true rfl, Nat.le_of_ble_eq_true rfl⟩) ?_
  refine W.eq (g2 := F0 m 12 ls [.int (f_signI σ (σ 433 3)), .ref (ad (439 + i))]) rfl ?_
  refine sp_put hx hb hts wi_X6_readCommand_X1 tyX1 tyX1_ok nmX1 hown hK hP hi hAk hS (κ := 439 + i) (by omega) (cE_cmd (by omega)) rfl 0 (by decide) (hts _ (List.mem_of_getElem? (i := 3) rfl)) (fun _ h => h) rfl (ty := tyX1 0) (by decide +kernel) (charp_of (f_signI_cz _ _)) (Nat.le_of_ble_eq_true rfl) (r1 := upd (σ (439 + i)) 0 (f_signI σ (σ 433 3))) (cE_of (cE_cmd (by omega)) (by simp [upd, (f_signI_cz _ _)])) dX6_readCommand_12 (fun H locs hP hS => ?_)
  have hP : va_P D vwCl (cW ad cy pm rj (sp_st σ (439 + i) 0 (f_signI σ (σ 433 3)))) H := hP
  refine lv_aload_n hx hb dX6_readCommand_15 rfl (lv_at hl 1 rfl) ?_
  refine sp_get hx hb hts wi_X6_readCommand_X1 hown hK hP (κ := 439 + i) (by omega) (cE_cmd (by omega)) rfl 0 (by decide) (hts _ (List.mem_of_getElem? (i := 3) rfl)) (fun _ h => h) rfl dX6_readCommand_16 ?_
  refine W.eq (g2 := F0 m 19 ls [.int (cz (f_signI σ (σ 433 3)))]) (by rw [sp_st_s]) ?_
  refine W.eq (g2 := F0 m 19 ls [.int (f_signI σ (σ 433 3))]) (by rw [f_signI_cz]) ?_
  refine sp_call (W.runS (As := [.int (f_signI σ (σ 433 3))]) (rest := []) ⟨hx, hb, hml, hown, hts⟩ (c_X6_partsBehind l D ad cy pm rj (sp_st σ (439 + i) 0 (f_signI σ (σ 433 3))) xq (f_signI σ (σ 433 3))) (va_cwS 1 hts gX6_readCommand_X6_partsBehind rfl rfl rfl (by decide +kernel) ⟨Nat.le_of_ble_eq_true rfl, Nat.le_of_ble_eq_true rfl⟩) (sp_preSx hK hP (hE.go hS)) rfl rfl hl.1 rfl (lv_room (Nat.le_of_ble_eq_true rfl)) dX6_readCommand_19 ⟨Nat.le_of_ble_eq_true rfl, Nat.le_of_ble_eq_true rfl⟩) ?_
  refine W.eq (g2 := F0 m 22 ls [.ref (xq (f_parts (f_signI σ (σ 433 3))))]) rfl ?_
  refine lv_astore_n (lv' := [(2, .ref (xq (f_parts (f_signI σ (σ 433 3))))), (0, .ref (ad (433))), (1, .ref (ad (439 + i)))]) hx hb dX6_readCommand_22 rfl hl (by decide) rfl (fun ls hl => ?_)
  refine lv_aload_n hx hb dX6_readCommand_23 rfl (lv_at hl 1 rfl) ?_
  refine lv_aload_n hx hb dX6_readCommand_24 rfl (lv_at hl 0 rfl) ?_
  refine sp_call (W.runV (As := []) (rest := [.ref (ad (433))]) ⟨hx, hb, hml, hown, hts⟩ (c_J0_isEmpty l xq (sp_A ad 459 s.heap.size) (f_parts (f_signI σ (σ 433 3))) (f_parts_lt _)) (cwV 0 hts gX6_readCommand_J0_isEmpty_aae02 rfl rfl rfl (by decide +kernel) ⟨Nat.le_of_ble_eq_true rfl, Nat.le_of_ble_eq_true rfl⟩) (sp_preEV hE hS (f_parts_lt _)) rfl rfl hl.1 rfl (lv_room (Nat.le_of_ble_eq_true rfl)) dX6_readCommand_25 ⟨Nat.le_of_ble_eq_true rfl, Nat.le_of_ble_eq_true rfl⟩) ?_
  refine W.eq (g2 := F0 m 28 ls [.int (b2i (exL.getD (f_parts (f_signI σ (σ 433 3))) 0 == 0)), .ref (ad (433))]) rfl ?_
  refine sp_put hx hb hts wi_X6_readCommand_X6 tyX6 tyX6_ok nmX6 hown hK hP hi hAk hS (κ := 433) (by decide) cE_script rfl 4 (by decide) (hts _ (List.mem_of_getElem? (i := 4) rfl)) (fun _ h => h) rfl (ty := tyX6 4) (by decide +kernel) (nz_of (bz_b2i _)) (Nat.le_of_ble_eq_true rfl) (r1 := upd ((sp_st σ (439 + i) 0 (f_signI σ (σ 433 3))) 433) 4 (b2i (exL.getD (f_parts (f_signI σ (σ 433 3))) 0 == 0))) (cE_of cE_script (by simp [upd, (bz_b2i _)])) dX6_readCommand_28 (fun H locs hP hS => ?_)
  have hP : va_P D vwCl (cW ad cy pm rj (sp_st (sp_st σ (439 + i) 0 (f_signI σ (σ 433 3))) 433 4 (b2i (exL.getD (f_parts (f_signI σ (σ 433 3))) 0 == 0)))) H := hP
  refine lv_aload_n hx hb dX6_readCommand_31 rfl (lv_at hl 1 rfl) ?_
  refine lv_dup hx hb dX6_readCommand_32 rfl ?_
  refine sp_get hx hb hts wi_X6_readCommand_X6 hown hK hP (κ := 433) (by decide) cE_script rfl 3 (by decide) (hts _ (List.mem_of_getElem? (i := 2) rfl)) (fun _ h => h) rfl dX6_readCommand_33 ?_
  refine W.eq (g2 := F0 m 36 ls [.int (σ 433 3), .ref (ad (433))]) (by rw [sp_st_j _ _ _ _ _ _ (by decide), sp_st_k _ _ _ _ _ _ (by omega)]) ?_
  refine lv_aload_n hx hb dX6_readCommand_36 rfl (lv_at hl 1 rfl) ?_
  refine sp_get hx hb hts wi_X6_readCommand_X6 hown hK hP (κ := 433) (by decide) cE_script rfl 4 (by decide) (hts _ (List.mem_of_getElem? (i := 4) rfl)) (fun _ h => h) rfl dX6_readCommand_37 ?_
  refine W.eq (g2 := F0 m 40 ls [.int (b2i (exL.getD (f_parts (f_signI σ (σ 433 3))) 0 == 0)), .int (σ 433 3), .ref (ad (433))]) (by rw [sp_st_s, bz_b2i]) ?_
  refine lv_if_eq (tgt := 47) hx hb dX6_readCommand_40 (by decide) (fun c_1 => ?_) (fun c_1 => ?_)
  · rw [b2i_eq0] at c_1
    refine lv_iconst (v := 1) hx hb dX6_readCommand_47 (by decide) ?_
    refine lv_iadd hx hb dX6_readCommand_48 ?_
    refine sp_put hx hb hts wi_X6_readCommand_X6 tyX6 tyX6_ok nmX6 hown hK hP hi hAk hS (κ := 433) (by decide) cE_script rfl 3 (by decide) (hts _ (List.mem_of_getElem? (i := 2) rfl)) (fun _ h => h) rfl (ty := tyX6 3) (by decide +kernel) ⟨rfl, rfl⟩ (Nat.le_of_ble_eq_true rfl) (r1 := upd ((sp_st (sp_st σ (439 + i) 0 (f_signI σ (σ 433 3))) 433 4 (b2i (exL.getD (f_parts (f_signI σ (σ 433 3))) 0 == 0))) 433) 3 ((σ 433 3) + 1)) (cE_of cE_script (by simp [upd])) dX6_readCommand_49 (fun H locs hP hS => ?_)
    have hP : va_P D vwCl (cW ad cy pm rj (sp_st (sp_st (sp_st σ (439 + i) 0 (f_signI σ (σ 433 3))) 433 4 (b2i (exL.getD (f_parts (f_signI σ (σ 433 3))) 0 == 0))) 433 3 ((σ 433 3) + 1))) H := hP
    refine lv_iconst (v := 0) hx hb dX6_readCommand_52 (by decide) ?_
    refine lv_istore_n (lv' := [(3, .int (0)), (2, .ref (xq (f_parts (f_signI σ (σ 433 3))))), (0, .ref (ad (433))), (1, .ref (ad (439 + i)))]) hx hb dX6_readCommand_53 rfl hl (by decide) rfl (fun ls hl => ?_)
    have loop_54 : ∀ (n j : Nat) (H : Heap) (locs : List Loc), (j ≤ n0) → (n0 - j < n) → (va_P D vwCl (cW ad cy pm rj (f_cmdF σ i j)) H) → (va_S (sp_A ad 459 s.heap.size) s.heap H locs) → ∀ ls : Array Slot, lv_has ls 4 [(3, .int (nI j)), (2, .ref (xq (f_parts (f_signI σ (σ 433 3))))), (0, .ref (ad (433))), (1, .ref (ad (439 + i)))] → W p l e (headSpec wsX6_readCommand ({ frames := 4, cells := 0, slots := 0, locals := 89 } : Room)).room s m ([.ref (ad (433)), .ref (ad (439 + i))] : List Value).toArray below meth c H locs 0 0 (MQ below (sp_Q D (none) (cW ad cy (pm) (rj) (f_rdCmd σ i)) (sp_A ad 459 s.heap.size)) ([.ref (ad (433)), .ref (ad (439 + i))] : List Value).toArray s 0 0 (sp_A ad 459 s.heap.size)) (F0 m 54 ls []) := by
      intro n
      induction n with
      | zero => intro j H locs hle hlt hP hS ls hl; exact absurd hlt (Nat.not_lt_zero _)
      | succ n ih =>
        intro j H locs hle hlt hP hS ls hl
        refine lv_iload_n hx hb dX6_readCommand_54 rfl (lv_at hl 0 rfl) ?_
        refine lv_aload_n hx hb dX6_readCommand_55 rfl (lv_at hl 1 rfl) ?_
        refine sp_call (W.runV (As := []) (rest := [.int (nI j)]) ⟨hx, hb, hml, hown, hts⟩ (c_J0_length l xq (sp_A ad 459 s.heap.size) (f_parts (f_signI σ (σ 433 3))) (f_parts_lt _)) (cwV 0 hts gX6_readCommand_J0_length_8abf5 rfl rfl rfl (by decide +kernel) ⟨Nat.le_of_ble_eq_true rfl, Nat.le_of_ble_eq_true rfl⟩) (sp_preEV hE hS (f_parts_lt _)) rfl rfl hl.1 rfl (lv_room (Nat.le_of_ble_eq_true rfl)) dX6_readCommand_56 ⟨Nat.le_of_ble_eq_true rfl, Nat.le_of_ble_eq_true rfl⟩) ?_
        refine W.eq (g2 := F0 m 59 ls [.int (nI (exL.getD (f_parts (f_signI σ (σ 433 3))) 0)), .int (nI j)]) rfl ?_
        refine lv_icmp_ge (tgt := 85) hx hb dX6_readCommand_59 (by decide) (fun c_2 => ?_) (fun c_2 => ?_)
        · skip
          have c_2d := Int32.not_lt.mpr c_2
          rw [hn0] at c_2
          have hx_j : j = n0 := by have := (nI_leI (a := n0) (b := j) (by omega) (by omega)).mp c_2; omega
          have hE9 : cW ad cy (pm) (rj) (f_cmdF σ i j) = cW ad cy (pm) (rj) (f_rdCmd σ i) := by first | exact cW_eq rfl (by unfold f_rdCmd; rw [hn0, hx_j]) | exact cW_eq rfl (by unfold f_rdCmd; rw [hn0]; exact cmd_stay c_1 hle)
          have hP : va_P D vwCl (cW ad cy (pm) (rj) (f_rdCmd σ i)) H := by rw [← hE9]; exact hP
          exact W.vret hx hb hr (fun T9 hT9 _ => ⟨rfl, by rw [hT9]; exact hP, hS.F hT9⟩) hS.2.2 dX6_readCommand_85
        · skip
          have c_2d := Int32.not_le.mp c_2
          rw [hn0] at c_2
          have hb_j : j < n0 := Nat.lt_of_not_le (fun z => c_2 (nI_le z (by omega)))
          refine lv_aload_n hx hb dX6_readCommand_62 rfl (lv_at hl 2 rfl) ?_
          refine sp_get hx hb hts wi_X6_readCommand_X6 hown hK hP (κ := 433) (by decide) cE_script rfl 4 (by decide) (hts _ (List.mem_of_getElem? (i := 4) rfl)) (fun _ h => h) rfl dX6_readCommand_63 ?_
          refine lv_if_ne (tgt := 85) hx hb dX6_readCommand_66 (by decide) (fun c_3 => ?_) (fun c_3 => ?_)
          · rw [bz_eq0] at c_3
            have hE9 : cW ad cy (pm) (rj) (f_cmdF σ i j) = cW ad cy (pm) (rj) (f_rdCmd σ i) := by first | exact cW_eq rfl (by unfold f_rdCmd; rw [hn0, hx_j]) | exact cW_eq rfl (by unfold f_rdCmd; rw [hn0]; exact cmd_stay c_3 hle)
            have hP : va_P D vwCl (cW ad cy (pm) (rj) (f_rdCmd σ i)) H := by rw [← hE9]; exact hP
            exact W.vret hx hb hr (fun T9 hT9 _ => ⟨rfl, by rw [hT9]; exact hP, hS.F hT9⟩) hS.2.2 dX6_readCommand_85
          · rw [bz_eq0] at c_3
            refine lv_aload_n hx hb dX6_readCommand_69 rfl (lv_at hl 2 rfl) ?_
            refine lv_aload_n hx hb dX6_readCommand_70 rfl (lv_at hl 1 rfl) ?_
            refine lv_iload_n hx hb dX6_readCommand_71 rfl (lv_at hl 0 rfl) ?_
            refine sp_call (W.runV (As := [.int (nI j)]) (rest := [.ref (ad (433))]) ⟨hx, hb, hml, hown, hts⟩ (c_J0_charAt l xq (sp_A ad 459 s.heap.size) (f_parts (f_signI σ (σ 433 3))) (f_parts_lt _) j (by rw [hn0]; exact hb_j)) (cwV 1 hts gX6_readCommand_J0_charAt_5068e rfl rfl rfl (by decide +kernel) ⟨Nat.le_of_ble_eq_true rfl, Nat.le_of_ble_eq_true rfl⟩) (sp_preEV hE hS (f_parts_lt _)) rfl rfl hl.1 rfl (lv_room (Nat.le_of_ble_eq_true rfl)) dX6_readCommand_72 ⟨Nat.le_of_ble_eq_true rfl, Nat.le_of_ble_eq_true rfl⟩) ?_
            refine W.eq (g2 := F0 m 75 ls [.int (exC (f_parts (f_signI σ (σ 433 3))) j), .ref (ad (433))]) rfl ?_
            refine lv_aload_n hx hb dX6_readCommand_75 rfl (lv_at hl 3 rfl) ?_
            refine sp_callm (va_runV (As := [.int (exC (f_parts (f_signI σ (σ 433 3))) j), .ref (ad (439 + i))]) (rest := []) ⟨hx, hb, hml, hown, hts⟩ (c_X6_readPart l D ad cy pm rj (f_cmdF σ i j) _ hi (exC (f_parts (f_signI σ (σ 433 3))) j) i (by omega)) (cwV 2 hts gX6_readCommand_X6_readPart rfl rfl rfl (by decide +kernel) ⟨Nat.le_of_ble_eq_true rfl, Nat.le_of_ble_eq_true rfl⟩) (sp_preVm hK hP (κ := 433) (by decide) cE_script rfl) rfl rfl hl.1 rfl (lv_room (Nat.le_of_ble_eq_true rfl)) dX6_readCommand_76 ⟨Nat.le_of_ble_eq_true rfl, Nat.le_of_ble_eq_true rfl⟩) hS (fun q h1 h2 => sp_Alt h1 h2) (sp_Ale hS.1) (fun H locs hP hle hfr hS => ?_)
            refine W.eq (g2 := F0 m 79 ls []) rfl ?_
            refine lv_iinc (v := nI (j + 1)) (lv' := [(3, .int (nI (j + 1))), (2, .ref (xq (f_parts (f_signI σ (σ 433 3))))), (0, .ref (ad (433))), (1, .ref (ad (439 + i)))]) hx hb dX6_readCommand_79 hl (k := 0) rfl (nI_1 _) (by decide) rfl (fun ls hl => ?_)
            refine lv_goto (tgt := 54) hx hb dX6_readCommand_82 (by decide) ?_
            exact ih (j + 1)  _ _ (by omega) (by omega)  ((show cW ad cy pm rj (f_rdPart (f_cmdF σ i j) (exC (f_parts (f_signI σ (σ 433 3))) j) i) = cW ad cy pm rj (f_cmdF σ i (j + 1)) from (by refine cW_eq rfl ?_; exact cmd_s c_3)) ▸ hP) hS ls (lv_sub hl [0, 1, 2, 3] rfl)
    exact loop_54 (n0 + 1) (0)  _ _ (by omega) (by omega)  ((show cW ad cy pm rj (sp_st (sp_st (sp_st σ (439 + i) 0 (f_signI σ (σ 433 3))) 433 4 (b2i (exL.getD (f_parts (f_signI σ (σ 433 3))) 0 == 0))) 433 3 ((σ 433 3) + 1)) = cW ad cy pm rj (f_cmdF σ i 0) from (by refine cW_eq rfl ?_; exact cmd_0 (by unfold f_cmd0; first | rw [if_neg (of_beqF c_1)] | rw [if_pos (of_beqT c_1)]))) ▸ hP) hS ls (lv_sub hl [0, 1, 2, 3] rfl)
  · rw [b2i_eq0] at c_1
    refine lv_iconst (v := 0) hx hb dX6_readCommand_43 (by decide) ?_
    refine lv_goto (tgt := 48) hx hb dX6_readCommand_44 (by decide) ?_
    refine lv_iadd hx hb dX6_readCommand_48 ?_
    refine sp_put hx hb hts wi_X6_readCommand_X6 tyX6 tyX6_ok nmX6 hown hK hP hi hAk hS (κ := 433) (by decide) cE_script rfl 3 (by decide) (hts _ (List.mem_of_getElem? (i := 2) rfl)) (fun _ h => h) rfl (ty := tyX6 3) (by decide +kernel) ⟨rfl, rfl⟩ (Nat.le_of_ble_eq_true rfl) (r1 := upd ((sp_st (sp_st σ (439 + i) 0 (f_signI σ (σ 433 3))) 433 4 (b2i (exL.getD (f_parts (f_signI σ (σ 433 3))) 0 == 0))) 433) 3 ((σ 433 3) + 0)) (cE_of cE_script (by simp [upd])) dX6_readCommand_49 (fun H locs hP hS => ?_)
    have hP : va_P D vwCl (cW ad cy pm rj (sp_st (sp_st (sp_st σ (439 + i) 0 (f_signI σ (σ 433 3))) 433 4 (b2i (exL.getD (f_parts (f_signI σ (σ 433 3))) 0 == 0))) 433 3 ((σ 433 3) + 0))) H := hP
    refine lv_iconst (v := 0) hx hb dX6_readCommand_52 (by decide) ?_
    refine lv_istore_n (lv' := [(3, .int (0)), (2, .ref (xq (f_parts (f_signI σ (σ 433 3))))), (0, .ref (ad (433))), (1, .ref (ad (439 + i)))]) hx hb dX6_readCommand_53 rfl hl (by decide) rfl (fun ls hl => ?_)
    have loop_54 : ∀ (n j : Nat) (H : Heap) (locs : List Loc), (j ≤ n0) → (n0 - j < n) → (va_P D vwCl (cW ad cy pm rj (f_cmdF σ i j)) H) → (va_S (sp_A ad 459 s.heap.size) s.heap H locs) → ∀ ls : Array Slot, lv_has ls 4 [(3, .int (nI j)), (2, .ref (xq (f_parts (f_signI σ (σ 433 3))))), (0, .ref (ad (433))), (1, .ref (ad (439 + i)))] → W p l e (headSpec wsX6_readCommand ({ frames := 4, cells := 0, slots := 0, locals := 89 } : Room)).room s m ([.ref (ad (433)), .ref (ad (439 + i))] : List Value).toArray below meth c H locs 0 0 (MQ below (sp_Q D (none) (cW ad cy (pm) (rj) (f_rdCmd σ i)) (sp_A ad 459 s.heap.size)) ([.ref (ad (433)), .ref (ad (439 + i))] : List Value).toArray s 0 0 (sp_A ad 459 s.heap.size)) (F0 m 54 ls []) := by
      intro n
      induction n with
      | zero => intro j H locs hle hlt hP hS ls hl; exact absurd hlt (Nat.not_lt_zero _)
      | succ n ih =>
        intro j H locs hle hlt hP hS ls hl
        refine lv_iload_n hx hb dX6_readCommand_54 rfl (lv_at hl 0 rfl) ?_
        refine lv_aload_n hx hb dX6_readCommand_55 rfl (lv_at hl 1 rfl) ?_
        refine sp_call (W.runV (As := []) (rest := [.int (nI j)]) ⟨hx, hb, hml, hown, hts⟩ (c_J0_length l xq (sp_A ad 459 s.heap.size) (f_parts (f_signI σ (σ 433 3))) (f_parts_lt _)) (cwV 0 hts gX6_readCommand_J0_length_8abf5 rfl rfl rfl (by decide +kernel) ⟨Nat.le_of_ble_eq_true rfl, Nat.le_of_ble_eq_true rfl⟩) (sp_preEV hE hS (f_parts_lt _)) rfl rfl hl.1 rfl (lv_room (Nat.le_of_ble_eq_true rfl)) dX6_readCommand_56 ⟨Nat.le_of_ble_eq_true rfl, Nat.le_of_ble_eq_true rfl⟩) ?_
        refine W.eq (g2 := F0 m 59 ls [.int (nI (exL.getD (f_parts (f_signI σ (σ 433 3))) 0)), .int (nI j)]) rfl ?_
        refine lv_icmp_ge (tgt := 85) hx hb dX6_readCommand_59 (by decide) (fun c_4 => ?_) (fun c_4 => ?_)
        · skip
          have c_4d := Int32.not_lt.mpr c_4
          rw [hn0] at c_4
          have hx_j : j = n0 := by have := (nI_leI (a := n0) (b := j) (by omega) (by omega)).mp c_4; omega
          have hE9 : cW ad cy (pm) (rj) (f_cmdF σ i j) = cW ad cy (pm) (rj) (f_rdCmd σ i) := by first | exact cW_eq rfl (by unfold f_rdCmd; rw [hn0, hx_j]) | exact cW_eq rfl (by unfold f_rdCmd; rw [hn0]; exact cmd_stay c_1 hle)
          have hP : va_P D vwCl (cW ad cy (pm) (rj) (f_rdCmd σ i)) H := by rw [← hE9]; exact hP
          exact W.vret hx hb hr (fun T9 hT9 _ => ⟨rfl, by rw [hT9]; exact hP, hS.F hT9⟩) hS.2.2 dX6_readCommand_85
        · skip
          have c_4d := Int32.not_le.mp c_4
          rw [hn0] at c_4
          have hb_j : j < n0 := Nat.lt_of_not_le (fun z => c_4 (nI_le z (by omega)))
          refine lv_aload_n hx hb dX6_readCommand_62 rfl (lv_at hl 2 rfl) ?_
          refine sp_get hx hb hts wi_X6_readCommand_X6 hown hK hP (κ := 433) (by decide) cE_script rfl 4 (by decide) (hts _ (List.mem_of_getElem? (i := 4) rfl)) (fun _ h => h) rfl dX6_readCommand_63 ?_
          refine lv_if_ne (tgt := 85) hx hb dX6_readCommand_66 (by decide) (fun c_5 => ?_) (fun c_5 => ?_)
          · rw [bz_eq0] at c_5
            have hE9 : cW ad cy (pm) (rj) (f_cmdF σ i j) = cW ad cy (pm) (rj) (f_rdCmd σ i) := by first | exact cW_eq rfl (by unfold f_rdCmd; rw [hn0, hx_j]) | exact cW_eq rfl (by unfold f_rdCmd; rw [hn0]; exact cmd_stay c_5 hle)
            have hP : va_P D vwCl (cW ad cy (pm) (rj) (f_rdCmd σ i)) H := by rw [← hE9]; exact hP
            exact W.vret hx hb hr (fun T9 hT9 _ => ⟨rfl, by rw [hT9]; exact hP, hS.F hT9⟩) hS.2.2 dX6_readCommand_85
          · rw [bz_eq0] at c_5
            refine lv_aload_n hx hb dX6_readCommand_69 rfl (lv_at hl 2 rfl) ?_
            refine lv_aload_n hx hb dX6_readCommand_70 rfl (lv_at hl 1 rfl) ?_
            refine lv_iload_n hx hb dX6_readCommand_71 rfl (lv_at hl 0 rfl) ?_
            refine sp_call (W.runV (As := [.int (nI j)]) (rest := [.ref (ad (433))]) ⟨hx, hb, hml, hown, hts⟩ (c_J0_charAt l xq (sp_A ad 459 s.heap.size) (f_parts (f_signI σ (σ 433 3))) (f_parts_lt _) j (by rw [hn0]; exact hb_j)) (cwV 1 hts gX6_readCommand_J0_charAt_5068e rfl rfl rfl (by decide +kernel) ⟨Nat.le_of_ble_eq_true rfl, Nat.le_of_ble_eq_true rfl⟩) (sp_preEV hE hS (f_parts_lt _)) rfl rfl hl.1 rfl (lv_room (Nat.le_of_ble_eq_true rfl)) dX6_readCommand_72 ⟨Nat.le_of_ble_eq_true rfl, Nat.le_of_ble_eq_true rfl⟩) ?_
            refine W.eq (g2 := F0 m 75 ls [.int (exC (f_parts (f_signI σ (σ 433 3))) j), .ref (ad (433))]) rfl ?_
            refine lv_aload_n hx hb dX6_readCommand_75 rfl (lv_at hl 3 rfl) ?_
            refine sp_callm (va_runV (As := [.int (exC (f_parts (f_signI σ (σ 433 3))) j), .ref (ad (439 + i))]) (rest := []) ⟨hx, hb, hml, hown, hts⟩ (c_X6_readPart l D ad cy pm rj (f_cmdF σ i j) _ hi (exC (f_parts (f_signI σ (σ 433 3))) j) i (by omega)) (cwV 2 hts gX6_readCommand_X6_readPart rfl rfl rfl (by decide +kernel) ⟨Nat.le_of_ble_eq_true rfl, Nat.le_of_ble_eq_true rfl⟩) (sp_preVm hK hP (κ := 433) (by decide) cE_script rfl) rfl rfl hl.1 rfl (lv_room (Nat.le_of_ble_eq_true rfl)) dX6_readCommand_76 ⟨Nat.le_of_ble_eq_true rfl, Nat.le_of_ble_eq_true rfl⟩) hS (fun q h1 h2 => sp_Alt h1 h2) (sp_Ale hS.1) (fun H locs hP hle hfr hS => ?_)
            refine W.eq (g2 := F0 m 79 ls []) rfl ?_
            refine lv_iinc (v := nI (j + 1)) (lv' := [(3, .int (nI (j + 1))), (2, .ref (xq (f_parts (f_signI σ (σ 433 3))))), (0, .ref (ad (433))), (1, .ref (ad (439 + i)))]) hx hb dX6_readCommand_79 hl (k := 0) rfl (nI_1 _) (by decide) rfl (fun ls hl => ?_)
            refine lv_goto (tgt := 54) hx hb dX6_readCommand_82 (by decide) ?_
            exact ih (j + 1)  _ _ (by omega) (by omega)  ((show cW ad cy pm rj (f_rdPart (f_cmdF σ i j) (exC (f_parts (f_signI σ (σ 433 3))) j) i) = cW ad cy pm rj (f_cmdF σ i (j + 1)) from (by refine cW_eq rfl ?_; exact cmd_s c_5)) ▸ hP) hS ls (lv_sub hl [0, 1, 2, 3] rfl)
    exact loop_54 (n0 + 1) (0)  _ _ (by omega) (by omega)  ((show cW ad cy pm rj (sp_st (sp_st (sp_st σ (439 + i) 0 (f_signI σ (σ 433 3))) 433 4 (b2i (exL.getD (f_parts (f_signI σ (σ 433 3))) 0 == 0))) 433 3 ((σ 433 3) + 0)) = cW ad cy pm rj (f_cmdF σ i 0) from (by refine cW_eq rfl ?_; exact cmd_0 (by unfold f_cmd0; first | rw [if_neg (of_beqF c_1)] | rw [if_pos (of_beqT c_1)]))) ▸ hP) hS ls (lv_sub hl [0, 1, 2, 3] rfl)

theorem wi_X6_parse_X6 : ∀ w ∈ wsX60, w ∈ wsX6_parse := by decide +kernel
theorem wi_X6_parse_X7 : ∀ w ∈ wsX70, w ∈ wsX6_parse := by decide +kernel
set_option maxHeartbeats 4000000 in
set_option maxRecDepth 100000 in
theorem c_X6_parse (l : Launch) (D : va_G) (ad : Nat → Nat) (cy : Nat → ClassId) (pm : Nat → Nat) (rj : Option Nat) (σ : Nat → Nat → Int32) (xq : Nat → Nat) (sz : Nat) (hi : sp_inj ad 459) : Met l yX6_parse wsX6_parse ({ frames := 5, cells := 0, slots := 0, locals := 112 } : Room) (sp_Pmx xq ad 459 D (tyG cy) sz [.ref (ad (433))] (cW ad cy pm rj σ)) (sp_Q D (some (.int (f_parseV σ))) (cW ad cy (pm) (rj) (f_parse σ)) (sp_A ad 459 sz)) 0 0 (sp_A ad 459 sz) := by
  refine Met.ofW (cc := cX6_parse) (maxL := 3) (ret := (some .int)) (by decide) rfl ?_
  intro p e s m args below meth c s₁ B hml hv
  obtain ⟨rfl, hsz, hP, hK, hE⟩ := hv
  have hx := B.exec
  have hb := B.bytes
  have hr := B.returns
  have hts := atoms_spec (ws := wsX6_parse) B.pre
  have hown : s.vm.findClass RX6 = some m.cls := findClass_of_methodNamed B.named
  have hlocks := B.notSynchronized
  subst hsz
  have hS : va_S (sp_A ad 459 s.heap.size) s.heap s.heap [] := va_S.rf
  have hAk : ∀ k, k < 459 → (sp_A ad 459 s.heap.size) (ad k) := fun k hk => Or.inl ⟨k, hk, rfl⟩
  skip
  have hl := lv_entry ([.ref (ad (433))]) (n := 3) (Nat.le_of_ble_eq_true rfl)
  refine W.eq (lg_entry_eq _ ([.ref (ad (433))]) _) ?_
  generalize (lg_sl ([.ref (ad (433))]) ++ List.replicate (3 - (lg_sl ([.ref (ad (433))])).length) Slot.unset).toArray = ls at hl ⊢
  have hl : lv_has ls 3 [(0, .ref (ad (433)))] := hl
  refine lv_aload_n hx hb dX6_parse_0 rfl (lv_at hl 0 rfl) ?_
  refine lv_iconst (v := 0) hx hb dX6_parse_1 (by decide) ?_
  refine sp_put hx hb hts wi_X6_parse_X6 tyX6 tyX6_ok nmX6 hown hK hP hi hAk hS (κ := 433) (by decide) cE_script rfl 3 (by decide) (hts _ (List.mem_of_getElem? (i := 1) rfl)) (fun _ h => h) rfl (ty := tyX6 3) (by decide +kernel) ⟨rfl, rfl⟩ (Nat.le_of_ble_eq_true rfl) (r1 := upd (σ 433) 3 0) (cE_of cE_script (by simp [upd])) dX6_parse_2 (fun H locs hP hS => ?_)
  have hP : va_P D vwCl (cW ad cy pm rj (sp_st σ 433 3 0)) H := hP
  refine lv_aload_n hx hb dX6_parse_5 rfl (lv_at hl 0 rfl) ?_
  refine lv_iconst (v := 0) hx hb dX6_parse_6 (by decide) ?_
  refine sp_put hx hb hts wi_X6_parse_X6 tyX6 tyX6_ok nmX6 hown hK hP hi hAk hS (κ := 433) (by decide) cE_script rfl 2 (by decide) (hts _ (List.mem_of_getElem? (i := 2) rfl)) (fun _ h => h) rfl (ty := tyX6 2) (by decide +kernel) ⟨rfl, rfl⟩ (Nat.le_of_ble_eq_true rfl) (r1 := upd ((sp_st σ 433 3 0) 433) 2 0) (cE_of cE_script (by simp [upd])) dX6_parse_7 (fun H locs hP hS => ?_)
  have hP : va_P D vwCl (cW ad cy pm rj (sp_st (sp_st σ 433 3 0) 433 2 0)) H := hP
  refine lv_iconst (v := 1) hx hb dX6_parse_10 (by decide) ?_
  refine lv_istore_n (lv' := [(1, .int (1)), (0, .ref (ad (433)))]) hx hb dX6_parse_11 rfl hl (by decide) rfl (fun ls hl => ?_)
  refine lv_iconst (v := 0) hx hb dX6_parse_12 (by decide) ?_
  refine lv_istore_n (lv' := [(2, .int (0)), (1, .int (1)), (0, .ref (ad (433)))]) hx hb dX6_parse_13 rfl hl (by decide) rfl (fun ls hl => ?_)
  have loop_14 : ∀ (n i : Nat) (x : Int32) (τ : Nat → Nat → Int32) (H : Heap) (locs : List Loc), (i ≤ 20) → (20 - i < n) → ((x, τ) = foldI S_parse (1, f_parA σ) i) → (va_P D vwCl (cW ad cy pm rj (τ)) H) → (va_S (sp_A ad 459 s.heap.size) s.heap H locs) → ∀ ls : Array Slot, lv_has ls 3 [(2, .int (nI i)), (1, .int (x)), (0, .ref (ad (433)))] → W p l e (headSpec wsX6_parse ({ frames := 5, cells := 0, slots := 0, locals := 112 } : Room)).room s m ([.ref (ad (433))] : List Value).toArray below meth c H locs 0 0 (MQ below (sp_Q D (some (.int (f_parseV σ))) (cW ad cy (pm) (rj) (f_parse σ)) (sp_A ad 459 s.heap.size)) ([.ref (ad (433))] : List Value).toArray s 0 0 (sp_A ad 459 s.heap.size)) (F0 m 14 ls []) := by
    intro n
    induction n with
    | zero => intro i x τ H locs hle hlt hi_0 hP hS ls hl; exact absurd hlt (Nat.not_lt_zero _)
    | succ n ih =>
      intro i x τ H locs hle hlt hi_0 hP hS ls hl
      refine lv_iload_n hx hb dX6_parse_14 rfl (lv_at hl 0 rfl) ?_
      refine lv_aload_n hx hb dX6_parse_15 rfl (lv_at hl 2 rfl) ?_
      refine sp_get hx hb hts wi_X6_parse_X6 hown hK hP (κ := 433) (by decide) cE_script rfl 1 (by decide) (hts _ (List.mem_of_getElem? (i := 3) rfl)) (fun _ h => h) rfl dX6_parse_16 ?_
      refine sp_alen hx hb hK hP (κ := 438) (by decide) 3 cE_cmds rfl (v := 20) rfl dX6_parse_19 ?_
      refine lv_icmp_ge (tgt := 100) hx hb dX6_parse_20 (by decide) (fun c_1 => ?_) (fun c_1 => ?_)
      · skip
        have c_1d := Int32.not_lt.mpr c_1
        have hx_i : i = 20 := by have := (nI_leI (a := 20) (b := i) (by omega) (by omega)).mp c_1; omega
        try rw [hx_i] at hi_0
        have hF : (x, τ) = foldI S_parse (1, f_par0 σ) 20 := hi_0.trans (parA_same σ 19)
        have hF1 : f_parse σ = τ := by unfold f_parse; rw [← hF]
        refine lv_aload_n hx hb dX6_parse_100 rfl (lv_at hl 2 rfl) ?_
        refine sp_get hx hb hts wi_X6_parse_X6 hown hK hP (κ := 433) (by decide) cE_script rfl 4 (by decide) (hts _ (List.mem_of_getElem? (i := 4) rfl)) (fun _ h => h) rfl dX6_parse_101 ?_
        refine lv_if_ne (tgt := 125) hx hb dX6_parse_104 (by decide) (fun c_2 => ?_) (fun c_2 => ?_)
        · rw [bz_eq0] at c_2
          refine lv_aload_n hx hb dX6_parse_125 rfl (lv_at hl 2 rfl) ?_
          refine sp_get hx hb hts wi_X6_parse_X6 hown hK hP (κ := 433) (by decide) cE_script rfl 3 (by decide) (hts _ (List.mem_of_getElem? (i := 1) rfl)) (fun _ h => h) rfl dX6_parse_126 ?_
          refine lv_goto (tgt := 133) hx hb dX6_parse_129 (by decide) ?_
          have hE9 : cW ad cy (pm) (rj) (τ) = cW ad cy (pm) (rj) (f_parse σ) := by exact cW_eq rfl hF1.symm
          have hP : va_P D vwCl (cW ad cy (pm) (rj) (f_parse σ)) H := by rw [← hE9]; exact hP
          exact W.iret (v := τ 433 3) hx hb hr (fun T9 hT9 _ => ⟨congrArg (fun z9 => Outcome.returned (some (Value.int z9))) (show (τ 433 3 : Int32) = f_parseV σ from (by first | exact absurd hX0 c_2 | (unfold f_parseV; rw [← hF]; simp [b2i, c_2]; done))), by rw [hT9]; exact hP, hS.F hT9⟩) hS.2.2 dX6_parse_133
        · rw [bz_eq0] at c_2
          refine lv_iload_n hx hb dX6_parse_107 rfl (lv_at hl 1 rfl) ?_
          refine lv_if_ne (tgt := 125) hx hb dX6_parse_108 (by decide) (fun c_3 => ?_) (fun c_3 => ?_)
          · skip
            refine lv_aload_n hx hb dX6_parse_125 rfl (lv_at hl 2 rfl) ?_
            refine sp_get hx hb hts wi_X6_parse_X6 hown hK hP (κ := 433) (by decide) cE_script rfl 3 (by decide) (hts _ (List.mem_of_getElem? (i := 1) rfl)) (fun _ h => h) rfl dX6_parse_126 ?_
            refine lv_goto (tgt := 133) hx hb dX6_parse_129 (by decide) ?_
            have hE9 : cW ad cy (pm) (rj) (τ) = cW ad cy (pm) (rj) (f_parse σ) := by exact cW_eq rfl hF1.symm
            have hP : va_P D vwCl (cW ad cy (pm) (rj) (f_parse σ)) H := by rw [← hE9]; exact hP
            exact W.iret (v := τ 433 3) hx hb hr (fun T9 hT9 _ => ⟨congrArg (fun z9 => Outcome.returned (some (Value.int z9))) (show (τ 433 3 : Int32) = f_parseV σ from (by first | exact absurd hX0 c_3 | (unfold f_parseV; rw [← hF]; simp [b2i, c_2, c_3]; done))), by rw [hT9]; exact hP, hS.F hT9⟩) hS.2.2 dX6_parse_133
          · skip
            refine lv_aload_n hx hb dX6_parse_111 rfl (lv_at hl 2 rfl) ?_
            refine sp_get hx hb hts wi_X6_parse_X6 hown hK hP (κ := 433) (by decide) cE_script rfl 3 (by decide) (hts _ (List.mem_of_getElem? (i := 1) rfl)) (fun _ h => h) rfl dX6_parse_112 ?_
            refine lv_aload_n hx hb dX6_parse_115 rfl (lv_at hl 2 rfl) ?_
            refine sp_get hx hb hts wi_X6_parse_X6 hown hK hP (κ := 433) (by decide) cE_script rfl 0 (by decide) (hts _ (List.mem_of_getElem? (i := 5) rfl)) (fun _ h => h) rfl dX6_parse_116 ?_
            refine sp_get hx hb hts wi_X6_parse_X7 hown hK hP (κ := 434) (by decide) cE_in rfl 1 (by decide) (hts _ (List.mem_of_getElem? (i := 6) rfl)) (fun _ h => h) rfl dX6_parse_119 ?_
            refine lv_icmp_ge (tgt := 132) hx hb dX6_parse_122 (by decide) (fun c_4 => ?_) (fun c_4 => ?_)
            · skip
              have c_4d := Int32.not_lt.mpr c_4
              refine lv_iconst (v := (-1)) hx hb dX6_parse_132 (by decide) ?_
              have hE9 : cW ad cy (pm) (rj) (τ) = cW ad cy (pm) (rj) (f_parse σ) := by exact cW_eq rfl hF1.symm
              have hP : va_P D vwCl (cW ad cy (pm) (rj) (f_parse σ)) H := by rw [← hE9]; exact hP
              exact W.iret (v := (-1)) hx hb hr (fun T9 hT9 _ => ⟨congrArg (fun z9 => Outcome.returned (some (Value.int z9))) (show ((-1) : Int32) = f_parseV σ from (by first | exact absurd hX0 c_4d | (unfold f_parseV; rw [← hF]; simp [b2i, c_2, c_3, c_4, c_4d]; done))), by rw [hT9]; exact hP, hS.F hT9⟩) hS.2.2 dX6_parse_133
            · skip
              have c_4d := Int32.not_le.mp c_4
              refine lv_aload_n hx hb dX6_parse_125 rfl (lv_at hl 2 rfl) ?_
              refine sp_get hx hb hts wi_X6_parse_X6 hown hK hP (κ := 433) (by decide) cE_script rfl 3 (by decide) (hts _ (List.mem_of_getElem? (i := 1) rfl)) (fun _ h => h) rfl dX6_parse_126 ?_
              refine lv_goto (tgt := 133) hx hb dX6_parse_129 (by decide) ?_
              have hE9 : cW ad cy (pm) (rj) (τ) = cW ad cy (pm) (rj) (f_parse σ) := by exact cW_eq rfl hF1.symm
              have hP : va_P D vwCl (cW ad cy (pm) (rj) (f_parse σ)) H := by rw [← hE9]; exact hP
              exact W.iret (v := τ 433 3) hx hb hr (fun T9 hT9 _ => ⟨congrArg (fun z9 => Outcome.returned (some (Value.int z9))) (show (τ 433 3 : Int32) = f_parseV σ from (by first | exact absurd hX0 c_4d | (unfold f_parseV; rw [← hF]; simp [b2i, c_2, c_3, c_4, c_4d]; done))), by rw [hT9]; exact hP, hS.F hT9⟩) hS.2.2 dX6_parse_133
      · skip
        have c_1d := Int32.not_le.mp c_1
        have hb_i : i < 20 := Nat.lt_of_not_le (fun z => c_1 (nI_le z (by omega)))
        refine lv_iload_n hx hb dX6_parse_23 rfl (lv_at hl 1 rfl) ?_
        refine lv_if_eq (tgt := 100) hx hb dX6_parse_24 (by decide) (fun c_5 => ?_) (fun c_5 => ?_)
        · skip
          have hX0 : x = 0 := c_5
          have hF : (x, τ) = foldI S_parse (1, f_par0 σ) 20 := par_stayA hi_0 c_5 hle
          have hF1 : f_parse σ = τ := by unfold f_parse; rw [← hF]
          refine lv_aload_n hx hb dX6_parse_100 rfl (lv_at hl 2 rfl) ?_
          refine sp_get hx hb hts wi_X6_parse_X6 hown hK hP (κ := 433) (by decide) cE_script rfl 4 (by decide) (hts _ (List.mem_of_getElem? (i := 4) rfl)) (fun _ h => h) rfl dX6_parse_101 ?_
          refine lv_if_ne (tgt := 125) hx hb dX6_parse_104 (by decide) (fun c_6 => ?_) (fun c_6 => ?_)
          · rw [bz_eq0] at c_6
            refine lv_aload_n hx hb dX6_parse_125 rfl (lv_at hl 2 rfl) ?_
            refine sp_get hx hb hts wi_X6_parse_X6 hown hK hP (κ := 433) (by decide) cE_script rfl 3 (by decide) (hts _ (List.mem_of_getElem? (i := 1) rfl)) (fun _ h => h) rfl dX6_parse_126 ?_
            refine lv_goto (tgt := 133) hx hb dX6_parse_129 (by decide) ?_
            have hE9 : cW ad cy (pm) (rj) (τ) = cW ad cy (pm) (rj) (f_parse σ) := by exact cW_eq rfl hF1.symm
            have hP : va_P D vwCl (cW ad cy (pm) (rj) (f_parse σ)) H := by rw [← hE9]; exact hP
            exact W.iret (v := τ 433 3) hx hb hr (fun T9 hT9 _ => ⟨congrArg (fun z9 => Outcome.returned (some (Value.int z9))) (show (τ 433 3 : Int32) = f_parseV σ from (by first | exact absurd hX0 c_6 | (unfold f_parseV; rw [← hF]; simp [b2i, c_5, c_6]; done))), by rw [hT9]; exact hP, hS.F hT9⟩) hS.2.2 dX6_parse_133
          · rw [bz_eq0] at c_6
            refine lv_iload_n hx hb dX6_parse_107 rfl (lv_at hl 1 rfl) ?_
            refine lv_if_ne (tgt := 125) hx hb dX6_parse_108 (by decide) (fun c_7 => ?_) (fun c_7 => ?_)
            · skip
              refine lv_aload_n hx hb dX6_parse_125 rfl (lv_at hl 2 rfl) ?_
              refine sp_get hx hb hts wi_X6_parse_X6 hown hK hP (κ := 433) (by decide) cE_script rfl 3 (by decide) (hts _ (List.mem_of_getElem? (i := 1) rfl)) (fun _ h => h) rfl dX6_parse_126 ?_
              refine lv_goto (tgt := 133) hx hb dX6_parse_129 (by decide) ?_
              have hE9 : cW ad cy (pm) (rj) (τ) = cW ad cy (pm) (rj) (f_parse σ) := by exact cW_eq rfl hF1.symm
              have hP : va_P D vwCl (cW ad cy (pm) (rj) (f_parse σ)) H := by rw [← hE9]; exact hP
              exact W.iret (v := τ 433 3) hx hb hr (fun T9 hT9 _ => ⟨congrArg (fun z9 => Outcome.returned (some (Value.int z9))) (show (τ 433 3 : Int32) = f_parseV σ from (by first | exact absurd hX0 c_7 | (unfold f_parseV; rw [← hF]; simp [b2i, c_5, c_6, c_7]; done))), by rw [hT9]; exact hP, hS.F hT9⟩) hS.2.2 dX6_parse_133
            · skip
              refine lv_aload_n hx hb dX6_parse_111 rfl (lv_at hl 2 rfl) ?_
              refine sp_get hx hb hts wi_X6_parse_X6 hown hK hP (κ := 433) (by decide) cE_script rfl 3 (by decide) (hts _ (List.mem_of_getElem? (i := 1) rfl)) (fun _ h => h) rfl dX6_parse_112 ?_
              refine lv_aload_n hx hb dX6_parse_115 rfl (lv_at hl 2 rfl) ?_
              refine sp_get hx hb hts wi_X6_parse_X6 hown hK hP (κ := 433) (by decide) cE_script rfl 0 (by decide) (hts _ (List.mem_of_getElem? (i := 5) rfl)) (fun _ h => h) rfl dX6_parse_116 ?_
              refine sp_get hx hb hts wi_X6_parse_X7 hown hK hP (κ := 434) (by decide) cE_in rfl 1 (by decide) (hts _ (List.mem_of_getElem? (i := 6) rfl)) (fun _ h => h) rfl dX6_parse_119 ?_
              refine lv_icmp_ge (tgt := 132) hx hb dX6_parse_122 (by decide) (fun c_8 => ?_) (fun c_8 => ?_)
              · skip
                have c_8d := Int32.not_lt.mpr c_8
                refine lv_iconst (v := (-1)) hx hb dX6_parse_132 (by decide) ?_
                have hE9 : cW ad cy (pm) (rj) (τ) = cW ad cy (pm) (rj) (f_parse σ) := by exact cW_eq rfl hF1.symm
                have hP : va_P D vwCl (cW ad cy (pm) (rj) (f_parse σ)) H := by rw [← hE9]; exact hP
                exact W.iret (v := (-1)) hx hb hr (fun T9 hT9 _ => ⟨congrArg (fun z9 => Outcome.returned (some (Value.int z9))) (show ((-1) : Int32) = f_parseV σ from (by first | exact absurd hX0 c_8d | (unfold f_parseV; rw [← hF]; simp [b2i, c_5, c_6, c_7, c_8, c_8d]; done))), by rw [hT9]; exact hP, hS.F hT9⟩) hS.2.2 dX6_parse_133
              · skip
                have c_8d := Int32.not_le.mp c_8
                refine lv_aload_n hx hb dX6_parse_125 rfl (lv_at hl 2 rfl) ?_
                refine sp_get hx hb hts wi_X6_parse_X6 hown hK hP (κ := 433) (by decide) cE_script rfl 3 (by decide) (hts _ (List.mem_of_getElem? (i := 1) rfl)) (fun _ h => h) rfl dX6_parse_126 ?_
                refine lv_goto (tgt := 133) hx hb dX6_parse_129 (by decide) ?_
                have hE9 : cW ad cy (pm) (rj) (τ) = cW ad cy (pm) (rj) (f_parse σ) := by exact cW_eq rfl hF1.symm
                have hP : va_P D vwCl (cW ad cy (pm) (rj) (f_parse σ)) H := by rw [← hE9]; exact hP
                exact W.iret (v := τ 433 3) hx hb hr (fun T9 hT9 _ => ⟨congrArg (fun z9 => Outcome.returned (some (Value.int z9))) (show (τ 433 3 : Int32) = f_parseV σ from (by first | exact absurd hX0 c_8d | (unfold f_parseV; rw [← hF]; simp [b2i, c_5, c_6, c_7, c_8, c_8d]; done))), by rw [hT9]; exact hP, hS.F hT9⟩) hS.2.2 dX6_parse_133
        · skip
          refine lv_aload_n hx hb dX6_parse_27 rfl (lv_at hl 2 rfl) ?_
          refine lv_aload_n hx hb dX6_parse_28 rfl (lv_at hl 2 rfl) ?_
          refine sp_get hx hb hts wi_X6_parse_X6 hown hK hP (κ := 433) (by decide) cE_script rfl 1 (by decide) (hts _ (List.mem_of_getElem? (i := 3) rfl)) (fun _ h => h) rfl dX6_parse_29 ?_
          refine lv_iload_n hx hb dX6_parse_32 rfl (lv_at hl 0 rfl) ?_
          refine sp_aald hx hb hK hP (κ := 438) (by decide) 3 cE_cmds rfl i rfl (by omega) (by decide) (q := ad (439 + i)) rfl dX6_parse_33 ?_
          refine sp_callm (va_runV (As := [.ref (ad (439 + i))]) (rest := []) ⟨hx, hb, hml, hown, hts⟩ (c_X6_readCommand l D ad cy pm rj τ xq _ hi i (by omega)) (cwV 1 hts gX6_parse_X6_readCommand rfl rfl rfl (by decide +kernel) ⟨Nat.le_of_ble_eq_true rfl, Nat.le_of_ble_eq_true rfl⟩) (sp_preVmx hK hP (hE.go hS) (κ := 433) (by decide) cE_script rfl) rfl rfl hl.1 rfl (lv_room (Nat.le_of_ble_eq_true rfl)) dX6_parse_34 ⟨Nat.le_of_ble_eq_true rfl, Nat.le_of_ble_eq_true rfl⟩) hS (fun q h1 h2 => sp_Alt h1 h2) (sp_Ale hS.1) (fun H locs hP hle hfr hS => ?_)
          refine W.eq (g2 := F0 m 37 ls []) rfl ?_
          refine lv_aload_n hx hb dX6_parse_37 rfl (lv_at hl 2 rfl) ?_
          refine lv_dup hx hb dX6_parse_38 rfl ?_
          refine sp_get hx hb hts wi_X6_parse_X6 hown hK hP (κ := 433) (by decide) cE_script rfl 2 (by decide) (hts _ (List.mem_of_getElem? (i := 2) rfl)) (fun _ h => h) rfl dX6_parse_39 ?_
          refine lv_iconst (v := 1) hx hb dX6_parse_42 (by decide) ?_
          refine lv_iadd hx hb dX6_parse_43 ?_
          refine sp_put hx hb hts wi_X6_parse_X6 tyX6 tyX6_ok nmX6 hown hK hP hi hAk hS (κ := 433) (by decide) cE_script rfl 2 (by decide) (hts _ (List.mem_of_getElem? (i := 2) rfl)) (fun _ h => h) rfl (ty := tyX6 2) (by decide +kernel) ⟨rfl, rfl⟩ (Nat.le_of_ble_eq_true rfl) (r1 := upd ((f_rdCmd τ i) 433) 2 ((f_rdCmd τ i 433 2) + 1)) (cE_of cE_script (by simp [upd])) dX6_parse_44 (fun H locs hP hS => ?_)
          have hP : va_P D vwCl (cW ad cy pm rj (sp_st (f_rdCmd τ i) 433 2 ((f_rdCmd τ i 433 2) + 1))) H := hP
          refine lv_aload_n hx hb dX6_parse_47 rfl (lv_at hl 2 rfl) ?_
          refine sp_get hx hb hts wi_X6_parse_X6 hown hK hP (κ := 433) (by decide) cE_script rfl 4 (by decide) (hts _ (List.mem_of_getElem? (i := 4) rfl)) (fun _ h => h) rfl dX6_parse_48 ?_
          refine W.eq (g2 := F0 m 51 ls [.int (bz (f_rdCmd τ i 433 4))]) (by rw [sp_st_j _ _ _ _ _ _ (by decide)]) ?_
          refine lv_if_ne (tgt := 74) hx hb dX6_parse_51 (by decide) (fun c_9 => ?_) (fun c_9 => ?_)
          · rw [bz_eq0] at c_9
            refine lv_iconst (v := 0) hx hb dX6_parse_74 (by decide) ?_
            refine lv_istore_n (lv' := [(1, .int (0)), (2, .int (nI i)), (0, .ref (ad (433)))]) hx hb dX6_parse_75 rfl hl (by decide) rfl (fun ls hl => ?_)
            refine lv_aload_n hx hb dX6_parse_76 rfl (lv_at hl 2 rfl) ?_
            refine lv_dup hx hb dX6_parse_77 rfl ?_
            refine sp_get hx hb hts wi_X6_parse_X6 hown hK hP (κ := 433) (by decide) cE_script rfl 3 (by decide) (hts _ (List.mem_of_getElem? (i := 1) rfl)) (fun _ h => h) rfl dX6_parse_78 ?_
            refine W.eq (g2 := F0 m 81 ls [.int (f_rdCmd τ i 433 3), .ref (ad (433))]) (by rw [sp_st_j _ _ _ _ _ _ (by decide)]) ?_
            refine lv_iload_n hx hb dX6_parse_81 rfl (lv_at hl 0 rfl) ?_
            refine lv_if_eq (tgt := 89) hx hb dX6_parse_82 (by decide) (fun c_10 => ?_) (fun c_10 => ?_)
            · skip
              refine lv_iconst (v := 0) hx hb dX6_parse_89 (by decide) ?_
              refine lv_iadd hx hb dX6_parse_90 ?_
              refine sp_put hx hb hts wi_X6_parse_X6 tyX6 tyX6_ok nmX6 hown hK hP hi hAk hS (κ := 433) (by decide) cE_script rfl 3 (by decide) (hts _ (List.mem_of_getElem? (i := 1) rfl)) (fun _ h => h) rfl (ty := tyX6 3) (by decide +kernel) ⟨rfl, rfl⟩ (Nat.le_of_ble_eq_true rfl) (r1 := upd ((sp_st (f_rdCmd τ i) 433 2 ((f_rdCmd τ i 433 2) + 1)) 433) 3 ((f_rdCmd τ i 433 3) + 0)) (cE_of cE_script (by simp [upd])) dX6_parse_91 (fun H locs hP hS => ?_)
              have hP : va_P D vwCl (cW ad cy pm rj (sp_st (sp_st (f_rdCmd τ i) 433 2 ((f_rdCmd τ i 433 2) + 1)) 433 3 ((f_rdCmd τ i 433 3) + 0))) H := hP
              refine lv_iinc (v := nI (i + 1)) (lv' := [(2, .int (nI (i + 1))), (1, .int (0)), (0, .ref (ad (433)))]) hx hb dX6_parse_94 hl (k := 1) rfl (nI_1 _) (by decide) rfl (fun ls hl => ?_)
              refine lv_goto (tgt := 14) hx hb dX6_parse_97 (by decide) ?_
              exact ih (i + 1) 0 (sp_st (sp_st (f_rdCmd τ i) 433 2 ((f_rdCmd τ i 433 2) + 1)) 433 3 ((f_rdCmd τ i 433 3) + 0)) _ _ (by omega) (by omega) (by rw [foldI_succ, ← hi_0]; simp [S_parse, b2i, c_5, c_9]) hP hS ls (lv_sub hl [0, 1, 2] rfl)
            · exact absurd c_10 (by decide)
          · rw [bz_eq0] at c_9
            refine lv_aload_n hx hb dX6_parse_54 rfl (lv_at hl 2 rfl) ?_
            refine sp_get hx hb hts wi_X6_parse_X6 hown hK hP (κ := 433) (by decide) cE_script rfl 0 (by decide) (hts _ (List.mem_of_getElem? (i := 5) rfl)) (fun _ h => h) rfl dX6_parse_55 ?_
            refine lv_aload_n hx hb dX6_parse_58 rfl (lv_at hl 2 rfl) ?_
            refine sp_get hx hb hts wi_X6_parse_X6 hown hK hP (κ := 433) (by decide) cE_script rfl 3 (by decide) (hts _ (List.mem_of_getElem? (i := 1) rfl)) (fun _ h => h) rfl dX6_parse_59 ?_
            refine W.eq (g2 := F0 m 62 ls [.int (f_rdCmd τ i 433 3), .ref (ad (434))]) (by rw [sp_st_j _ _ _ _ _ _ (by decide)]) ?_
            refine sp_call (W.runV (As := [.int (f_rdCmd τ i 433 3)]) (rest := []) ⟨hx, hb, hml, hown, hts⟩ (c_X7_signAt_434 l D ad cy pm rj (sp_st (f_rdCmd τ i) 433 2 ((f_rdCmd τ i 433 2) + 1)) (f_rdCmd τ i 433 3)) (cwV 1 hts gX6_parse_X7_signAt rfl rfl rfl (by decide +kernel) ⟨Nat.le_of_ble_eq_true rfl, Nat.le_of_ble_eq_true rfl⟩) (sp_preV hK hP (κ := 434) (by decide) cE_in rfl) rfl rfl hl.1 rfl (lv_room (Nat.le_of_ble_eq_true rfl)) dX6_parse_62 ⟨Nat.le_of_ble_eq_true rfl, Nat.le_of_ble_eq_true rfl⟩) ?_
            refine W.eq (g2 := F0 m 65 ls [.int (f_signI (sp_st (f_rdCmd τ i) 433 2 ((f_rdCmd τ i 433 2) + 1)) (f_rdCmd τ i 433 3))]) rfl ?_
            refine W.eq (g2 := F0 m 65 ls [.int (f_signI (f_rdCmd τ i) (f_rdCmd τ i 433 3))]) (by rw [f_signI_st]) ?_
            refine lv_bipush (v := 59) hx hb dX6_parse_65 (by decide) ?_
            refine lv_icmp_ne (tgt := 74) hx hb dX6_parse_67 (by decide) (fun c_11 => ?_) (fun c_11 => ?_)
            · skip
              refine lv_iconst (v := 0) hx hb dX6_parse_74 (by decide) ?_
              refine lv_istore_n (lv' := [(1, .int (0)), (2, .int (nI i)), (0, .ref (ad (433)))]) hx hb dX6_parse_75 rfl hl (by decide) rfl (fun ls hl => ?_)
              refine lv_aload_n hx hb dX6_parse_76 rfl (lv_at hl 2 rfl) ?_
              refine lv_dup hx hb dX6_parse_77 rfl ?_
              refine sp_get hx hb hts wi_X6_parse_X6 hown hK hP (κ := 433) (by decide) cE_script rfl 3 (by decide) (hts _ (List.mem_of_getElem? (i := 1) rfl)) (fun _ h => h) rfl dX6_parse_78 ?_
              refine W.eq (g2 := F0 m 81 ls [.int (f_rdCmd τ i 433 3), .ref (ad (433))]) (by rw [sp_st_j _ _ _ _ _ _ (by decide)]) ?_
              refine lv_iload_n hx hb dX6_parse_81 rfl (lv_at hl 0 rfl) ?_
              refine lv_if_eq (tgt := 89) hx hb dX6_parse_82 (by decide) (fun c_12 => ?_) (fun c_12 => ?_)
              · skip
                refine lv_iconst (v := 0) hx hb dX6_parse_89 (by decide) ?_
                refine lv_iadd hx hb dX6_parse_90 ?_
                refine sp_put hx hb hts wi_X6_parse_X6 tyX6 tyX6_ok nmX6 hown hK hP hi hAk hS (κ := 433) (by decide) cE_script rfl 3 (by decide) (hts _ (List.mem_of_getElem? (i := 1) rfl)) (fun _ h => h) rfl (ty := tyX6 3) (by decide +kernel) ⟨rfl, rfl⟩ (Nat.le_of_ble_eq_true rfl) (r1 := upd ((sp_st (f_rdCmd τ i) 433 2 ((f_rdCmd τ i 433 2) + 1)) 433) 3 ((f_rdCmd τ i 433 3) + 0)) (cE_of cE_script (by simp [upd])) dX6_parse_91 (fun H locs hP hS => ?_)
                have hP : va_P D vwCl (cW ad cy pm rj (sp_st (sp_st (f_rdCmd τ i) 433 2 ((f_rdCmd τ i 433 2) + 1)) 433 3 ((f_rdCmd τ i 433 3) + 0))) H := hP
                refine lv_iinc (v := nI (i + 1)) (lv' := [(2, .int (nI (i + 1))), (1, .int (0)), (0, .ref (ad (433)))]) hx hb dX6_parse_94 hl (k := 1) rfl (nI_1 _) (by decide) rfl (fun ls hl => ?_)
                refine lv_goto (tgt := 14) hx hb dX6_parse_97 (by decide) ?_
                exact ih (i + 1) 0 (sp_st (sp_st (f_rdCmd τ i) 433 2 ((f_rdCmd τ i 433 2) + 1)) 433 3 ((f_rdCmd τ i 433 3) + 0)) _ _ (by omega) (by omega) (by rw [foldI_succ, ← hi_0]; simp [S_parse, b2i, c_5, c_9, c_11]) hP hS ls (lv_sub hl [0, 1, 2] rfl)
              · exact absurd c_12 (by decide)
            · skip
              refine lv_iconst (v := 1) hx hb dX6_parse_70 (by decide) ?_
              refine lv_goto (tgt := 75) hx hb dX6_parse_71 (by decide) ?_
              refine lv_istore_n (lv' := [(1, .int (1)), (2, .int (nI i)), (0, .ref (ad (433)))]) hx hb dX6_parse_75 rfl hl (by decide) rfl (fun ls hl => ?_)
              refine lv_aload_n hx hb dX6_parse_76 rfl (lv_at hl 2 rfl) ?_
              refine lv_dup hx hb dX6_parse_77 rfl ?_
              refine sp_get hx hb hts wi_X6_parse_X6 hown hK hP (κ := 433) (by decide) cE_script rfl 3 (by decide) (hts _ (List.mem_of_getElem? (i := 1) rfl)) (fun _ h => h) rfl dX6_parse_78 ?_
              refine W.eq (g2 := F0 m 81 ls [.int (f_rdCmd τ i 433 3), .ref (ad (433))]) (by rw [sp_st_j _ _ _ _ _ _ (by decide)]) ?_
              refine lv_iload_n hx hb dX6_parse_81 rfl (lv_at hl 0 rfl) ?_
              refine lv_if_eq (tgt := 89) hx hb dX6_parse_82 (by decide) (fun c_13 => ?_) (fun c_13 => ?_)
              · exact absurd c_13 (by decide)
              · skip
                refine lv_iconst (v := 1) hx hb dX6_parse_85 (by decide) ?_
                refine lv_goto (tgt := 90) hx hb dX6_parse_86 (by decide) ?_
                refine lv_iadd hx hb dX6_parse_90 ?_
                refine sp_put hx hb hts wi_X6_parse_X6 tyX6 tyX6_ok nmX6 hown hK hP hi hAk hS (κ := 433) (by decide) cE_script rfl 3 (by decide) (hts _ (List.mem_of_getElem? (i := 1) rfl)) (fun _ h => h) rfl (ty := tyX6 3) (by decide +kernel) ⟨rfl, rfl⟩ (Nat.le_of_ble_eq_true rfl) (r1 := upd ((sp_st (f_rdCmd τ i) 433 2 ((f_rdCmd τ i 433 2) + 1)) 433) 3 ((f_rdCmd τ i 433 3) + 1)) (cE_of cE_script (by simp [upd])) dX6_parse_91 (fun H locs hP hS => ?_)
                have hP : va_P D vwCl (cW ad cy pm rj (sp_st (sp_st (f_rdCmd τ i) 433 2 ((f_rdCmd τ i 433 2) + 1)) 433 3 ((f_rdCmd τ i 433 3) + 1))) H := hP
                refine lv_iinc (v := nI (i + 1)) (lv' := [(2, .int (nI (i + 1))), (1, .int (1)), (0, .ref (ad (433)))]) hx hb dX6_parse_94 hl (k := 1) rfl (nI_1 _) (by decide) rfl (fun ls hl => ?_)
                refine lv_goto (tgt := 14) hx hb dX6_parse_97 (by decide) ?_
                exact ih (i + 1) 1 (sp_st (sp_st (f_rdCmd τ i) 433 2 ((f_rdCmd τ i 433 2) + 1)) 433 3 ((f_rdCmd τ i 433 3) + 1)) _ _ (by omega) (by omega) (by rw [foldI_succ, ← hi_0]; simp [S_parse, b2i, c_5, c_9, c_11]) hP hS ls (lv_sub hl [0, 1, 2] rfl)
  exact loop_14 (20 + 1) (0) (1) (sp_st (sp_st σ 433 3 0) 433 2 0) _ _ (by omega) (by omega) (rfl) hP hS ls (lv_sub hl [0, 1, 2] rfl)

