set_option maxHeartbeats 4000000 in
set_option maxRecDepth 100000 in
theorem c_L_trackByErrors (l : Launch) (D : va_G) (ad : Nat → Nat) (cy : Nat → ClassId) (pm : Nat → Nat) (rj : Option Nat) (σ : Nat → Nat → Int32) (xq : Nat → Nat) (hst : l.stackTraces = false) (sz : Nat) (hi : sp_inj ad 459) (q : Int32) (cl cd : ClassId) (qo : Nat) (f : Nat → Int64) (g : Nat → UInt64) : Met l yL_trackByErrors wsL_trackByErrors ({ frames := 7, cells := 1, slots := 6, locals := 150 } : Room) (wPc xq ad D cy cl cd sz [.ref (ad 429), .int (q), .ref qo] (cW ad cy pm rj σ) qo (eL cl f) (fun _ => True)) (wQ (f_xFound (fstI (P_tbe σ q) 6)) [eNSE] D qo (eL cl f) (eL cl (vp_updL f (0 : Int32).toNatClampNeg (Int32.toInt64 (atO (fstI (P_tbe σ q) 6) 0 (fun k => σ (3 + k) 1))))) (cW ad cy (pm) (rj) (σ)) (sp_B D ad cy (pm) (σ) sz rj) (wA ad qo sz)) 1 6 (wA ad qo sz) := by
  refine va_MetW (cc := cL_trackByErrors) (maxL := 4) (ret := (some .int)) (by decide) rfl ?_
  intro p e s m args below meth c s₁ B hml hv
  obtain ⟨rfl, hsz, hP, hO, hK, hE, hNC, hqa, hZ⟩ := hv
  have hx := B.exec
  have hb := B.bytes
  have hr := B.returns
  have hts := atoms_spec (ws := wsL_trackByErrors) B.pre
  have hown : s.vm.findClass RL = some m.cls := findClass_of_methodNamed B.named
  have ht := vx_table (x := yL_trackByErrors) B (hts _ (List.mem_of_getElem? (i := 0) rfl))
  subst hsz
  have hqo : qo < s.heap.size := hO.lt
  have hqz := wNot hqa hqo
  have hS : va_S (wA ad qo s.heap.size) s.heap s.heap [] := va_S.rf
  have hKg := hK.sub (tys' := tyG cy) [0, 1, 2, 3, 4, 5] rfl
  have hXI : XI [eNSE] (f_xFound (fstI (P_tbe σ q) 6)) := XI.ff List.mem_cons_self
  have hl := lv_entry ([.ref (ad 429), .int (q), .ref qo]) (n := 4) (Nat.le_of_ble_eq_true rfl)
  refine W.eq (lg_entry_eq _ ([.ref (ad 429), .int (q), .ref qo]) _) ?_
  generalize (lg_sl ([.ref (ad 429), .int (q), .ref qo]) ++ List.replicate (4 - (lg_sl ([.ref (ad 429), .int (q), .ref qo])).length) Slot.unset).toArray = ls at hl ⊢
  have hl : lv_has ls 4 [(0, .ref (ad 429)), (1, .int (q)), (2, .ref qo)] := hl
  refine lv_aload_n hx hb dL_trackByErrors_0 rfl (lv_at hl 2 rfl) ?_
  refine lv_iconst (v := 0) hx hb dL_trackByErrors_1 (by decide) ?_
  refine lv_aload_n hx hb dL_trackByErrors_2 rfl (lv_at hl 0 rfl) ?_
  refine lv_iload_n hx hb dL_trackByErrors_3 rfl (lv_at hl 1 rfl) ?_
  refine sp_callx (vx_runV (As := [.int (q)]) (rest := [.int 0, .ref qo]) ⟨hx, hb, hml, hown, hts⟩ (c_X9_trackByErrors l D ad cy pm rj σ xq hst _ hi q) (cwV 1 hts gL_trackByErrors_X9_trackByErrors rfl rfl rfl (by decide +kernel) ⟨Nat.le_of_ble_eq_true rfl, Nat.le_of_ble_eq_true rfl⟩) (sp_preVmx hKg hP hE (κ := 429) (by decide) cE_sp rfl) rfl rfl hl.1 rfl (lv_room (Nat.le_of_ble_eq_true rfl)) dL_trackByErrors_4 ⟨Nat.le_of_ble_eq_true rfl, Nat.le_of_ble_eq_true rfl⟩) hS (fun q _ h => Or.inl h) (fun q h => Or.inl h) (fun E_x r_x ce q9 H locs hthr hB hle hfr hS hce hcv hcl => ?_) (fun hthr H locs hP hle hfr hS => ?_)
  · have hO : va_at D vwCl (qo, eL cl f) H := hO.kept (hfr qo hqo hqz)
    have hmem := hXI E_x r_x hthr
    obtain rfl := List.mem_singleton.mp hmem
    refine vx_catch (name := "java/util/NoSuchElementException") hown ([]) (⟨0, 9, 12, 77⟩ : ExceptionTableEntry) (tableOf []) (by rw [ht]; rfl) (fun z hz => absurd hz List.not_mem_nil) (by decide) (by decide) (hts _ (List.mem_of_getElem? (i := 1) rfl)) (va_Nw.use rfl hE.k3) hce hcv hcl ?_
    refine lv_astore_n (lv' := [(3, .ref q9), (0, .ref (ad 429)), (1, .int (q)), (2, .ref qo)]) hx hb dL_trackByErrors_12 rfl hl (by decide) rfl (fun ls hl => ?_)
    refine lv_iconst (v := 1) hx hb dL_trackByErrors_13 (by decide) ?_
    exact W.iret (v := 1) hx hb hr (fun T9 hT9 _ => ⟨by rw [hthr]; exact congrArg (fun z9 => Outcome.returned (some (Value.int z9))) (kC_1).symm, hS.F hT9, Or.inr ⟨_, r_x, hthr, by rw [hT9]; exact hB, by rw [hT9]; exact hO⟩⟩) hS.2.2 dL_trackByErrors_14
  · have hO : va_at D vwCl (qo, eL cl f) H := hO.kept (hfr qo hqo hqz)
    have hPq := wCons hO hP
    have hDq : va_D (wA ad qo s.heap.size) ((qo, eL cl f) :: cW ad cy (pm) (rj) (σ)) := wApart hi hqa (Or.inr rfl) (fun k hk => Or.inl (Or.inl ⟨k, hk, rfl⟩))
    refine W.eq (g2 := F0 m 7 ls [.int (atO (fstI (P_tbe σ q) 6) 0 (fun k => σ (3 + k) 1)), .int 0, .ref qo]) rfl ?_
    refine lv_i2l (v := Int32.toInt64 (atO (fstI (P_tbe σ q) 6) 0 (fun k => σ (3 + k) 1))) hx hb dL_trackByErrors_7 rfl ?_
    refine va_last hx hb hK hPq hDq hS 0 6 rfl rfl (i := 0) (x := Int32.toInt64 (atO (fstI (P_tbe σ q) 6) 0 (fun k => σ (3 + k) 1))) vp01 dL_trackByErrors_8 (fun H locs hP hD hS => ?_)
    refine lv_goto (tgt := 15) hx hb dL_trackByErrors_9 (by decide) ?_
    refine lv_iconst (v := 0) hx hb dL_trackByErrors_15 (by decide) ?_
    exact W.iret (v := 0) hx hb hr (fun T9 hT9 _ => ⟨by rw [hthr]; rfl, hS.F hT9, Or.inl ⟨hthr, by rw [hT9]; exact wTail hP, by rw [hT9]; exact wHead hP⟩⟩) hS.2.2 dL_trackByErrors_16
set_option maxHeartbeats 4000000 in
set_option maxRecDepth 100000 in
theorem c_L_printByDoubts (l : Launch) (D : va_G) (ad : Nat → Nat) (cy : Nat → ClassId) (pm : Nat → Nat) (rj : Option Nat) (σ : Nat → Nat → Int32) (xq : Nat → Nat) (hst : l.stackTraces = false) (sz : Nat) (hi : sp_inj ad 459) (q : Int32) (cl cd : ClassId) (qo : Nat) (f : Nat → Int64) (g : Nat → UInt64) : Met l yL_printByDoubts wsL_printByDoubts ({ frames := 7, cells := 1, slots := 6, locals := 115 } : Room) (wPc xq ad D cy cl cd sz [.ref (ad 429), .int (q), .ref qo] (cW ad cy pm rj σ) qo (eL cl f) (fun _ => True)) (wQ (f_xFound (fstI (P_pbd σ q) 30)) [eNSE] D qo (eL cl f) (eL cl (vp_updL f (0 : Int32).toNatClampNeg (Int32.toInt64 (atO (fstI (P_pbd σ q) 30) 0 (fun k => σ (9 + k) 1))))) (cW ad cy (pm) (rj) (σ)) (sp_B D ad cy (pm) (σ) sz rj) (wA ad qo sz)) 1 6 (wA ad qo sz) := by
  refine va_MetW (cc := cL_printByDoubts) (maxL := 4) (ret := (some .int)) (by decide) rfl ?_
  intro p e s m args below meth c s₁ B hml hv
  obtain ⟨rfl, hsz, hP, hO, hK, hE, hNC, hqa, hZ⟩ := hv
  have hx := B.exec
  have hb := B.bytes
  have hr := B.returns
  have hts := atoms_spec (ws := wsL_printByDoubts) B.pre
  have hown : s.vm.findClass RL = some m.cls := findClass_of_methodNamed B.named
  have ht := vx_table (x := yL_printByDoubts) B (hts _ (List.mem_of_getElem? (i := 0) rfl))
  subst hsz
  have hqo : qo < s.heap.size := hO.lt
  have hqz := wNot hqa hqo
  have hS : va_S (wA ad qo s.heap.size) s.heap s.heap [] := va_S.rf
  have hKg := hK.sub (tys' := tyG cy) [0, 1, 2, 3, 4, 5] rfl
  have hXI : XI [eNSE] (f_xFound (fstI (P_pbd σ q) 30)) := XI.ff List.mem_cons_self
  have hl := lv_entry ([.ref (ad 429), .int (q), .ref qo]) (n := 4) (Nat.le_of_ble_eq_true rfl)
  refine W.eq (lg_entry_eq _ ([.ref (ad 429), .int (q), .ref qo]) _) ?_
  generalize (lg_sl ([.ref (ad 429), .int (q), .ref qo]) ++ List.replicate (4 - (lg_sl ([.ref (ad 429), .int (q), .ref qo])).length) Slot.unset).toArray = ls at hl ⊢
  have hl : lv_has ls 4 [(0, .ref (ad 429)), (1, .int (q)), (2, .ref qo)] := hl
  refine lv_aload_n hx hb dL_printByDoubts_0 rfl (lv_at hl 2 rfl) ?_
  refine lv_iconst (v := 0) hx hb dL_printByDoubts_1 (by decide) ?_
  refine lv_aload_n hx hb dL_printByDoubts_2 rfl (lv_at hl 0 rfl) ?_
  refine lv_iload_n hx hb dL_printByDoubts_3 rfl (lv_at hl 1 rfl) ?_
  refine sp_callx (vx_runV (As := [.int (q)]) (rest := [.int 0, .ref qo]) ⟨hx, hb, hml, hown, hts⟩ (c_X9_printByDoubts l D ad cy pm rj σ xq hst _ hi q) (cwV 1 hts gL_printByDoubts_X9_printByDoubts rfl rfl rfl (by decide +kernel) ⟨Nat.le_of_ble_eq_true rfl, Nat.le_of_ble_eq_true rfl⟩) (sp_preVmx hKg hP hE (κ := 429) (by decide) cE_sp rfl) rfl rfl hl.1 rfl (lv_room (Nat.le_of_ble_eq_true rfl)) dL_printByDoubts_4 ⟨Nat.le_of_ble_eq_true rfl, Nat.le_of_ble_eq_true rfl⟩) hS (fun q _ h => Or.inl h) (fun q h => Or.inl h) (fun E_x r_x ce q9 H locs hthr hB hle hfr hS hce hcv hcl => ?_) (fun hthr H locs hP hle hfr hS => ?_)
  · have hO : va_at D vwCl (qo, eL cl f) H := hO.kept (hfr qo hqo hqz)
    have hmem := hXI E_x r_x hthr
    obtain rfl := List.mem_singleton.mp hmem
    refine vx_catch (name := "java/util/NoSuchElementException") hown ([]) (⟨0, 9, 12, 77⟩ : ExceptionTableEntry) (tableOf []) (by rw [ht]; rfl) (fun z hz => absurd hz List.not_mem_nil) (by decide) (by decide) (hts _ (List.mem_of_getElem? (i := 1) rfl)) (va_Nw.use rfl hE.k3) hce hcv hcl ?_
    refine lv_astore_n (lv' := [(3, .ref q9), (0, .ref (ad 429)), (1, .int (q)), (2, .ref qo)]) hx hb dL_printByDoubts_12 rfl hl (by decide) rfl (fun ls hl => ?_)
    refine lv_iconst (v := 1) hx hb dL_printByDoubts_13 (by decide) ?_
    exact W.iret (v := 1) hx hb hr (fun T9 hT9 _ => ⟨by rw [hthr]; exact congrArg (fun z9 => Outcome.returned (some (Value.int z9))) (kC_1).symm, hS.F hT9, Or.inr ⟨_, r_x, hthr, by rw [hT9]; exact hB, by rw [hT9]; exact hO⟩⟩) hS.2.2 dL_printByDoubts_14
  · have hO : va_at D vwCl (qo, eL cl f) H := hO.kept (hfr qo hqo hqz)
    have hPq := wCons hO hP
    have hDq : va_D (wA ad qo s.heap.size) ((qo, eL cl f) :: cW ad cy (pm) (rj) (σ)) := wApart hi hqa (Or.inr rfl) (fun k hk => Or.inl (Or.inl ⟨k, hk, rfl⟩))
    refine W.eq (g2 := F0 m 7 ls [.int (atO (fstI (P_pbd σ q) 30) 0 (fun k => σ (9 + k) 1)), .int 0, .ref qo]) rfl ?_
    refine lv_i2l (v := Int32.toInt64 (atO (fstI (P_pbd σ q) 30) 0 (fun k => σ (9 + k) 1))) hx hb dL_printByDoubts_7 rfl ?_
    refine va_last hx hb hK hPq hDq hS 0 6 rfl rfl (i := 0) (x := Int32.toInt64 (atO (fstI (P_pbd σ q) 30) 0 (fun k => σ (9 + k) 1))) vp01 dL_printByDoubts_8 (fun H locs hP hD hS => ?_)
    refine lv_goto (tgt := 15) hx hb dL_printByDoubts_9 (by decide) ?_
    refine lv_iconst (v := 0) hx hb dL_printByDoubts_15 (by decide) ?_
    exact W.iret (v := 0) hx hb hr (fun T9 hT9 _ => ⟨by rw [hthr]; rfl, hS.F hT9, Or.inl ⟨hthr, by rw [hT9]; exact wTail hP, by rw [hT9]; exact wHead hP⟩⟩) hS.2.2 dL_printByDoubts_16
set_option maxHeartbeats 4000000 in
set_option maxRecDepth 100000 in
theorem c_L_printIn (l : Launch) (D : va_G) (ad : Nat → Nat) (cy : Nat → ClassId) (pm : Nat → Nat) (rj : Option Nat) (σ : Nat → Nat → Int32) (xq : Nat → Nat) (hst : l.stackTraces = false) (sz : Nat) (hi : sp_inj ad 459) (r : Int32) (c1 : Int32) (cl cd : ClassId) (qo : Nat) (f : Nat → Int64) (g : Nat → UInt64) : Met l yL_printIn wsL_printIn ({ frames := 8, cells := 2, slots := 12, locals := 133 } : Room) (wPc xq ad D cy cl cd sz [.ref (ad 429), .int (r), .int (c1), .ref qo] (cW ad cy pm rj σ) qo (eL cl f) (fun _ => True)) (wQ ((f_xCell r c1).or (f_xFound (f_inCell σ r c1))) [eIOO, eNSE] D qo (eL cl f) (eL cl (vp_updL f (0 : Int32).toNatClampNeg (Int32.toInt64 (atO (f_inCell σ r c1) 0 (fun k => σ (9 + k) 1))))) (cW ad cy (pm) (rj) (σ)) (sp_B D ad cy (pm) (σ) sz rj) (wA ad qo sz)) 2 12 (wA ad qo sz) := by
  refine va_MetW (cc := cL_printIn) (maxL := 5) (ret := (some .int)) (by decide) rfl ?_
  intro p e s m args below meth c s₁ B hml hv
  obtain ⟨rfl, hsz, hP, hO, hK, hE, hNC, hqa, hZ⟩ := hv
  have hx := B.exec
  have hb := B.bytes
  have hr := B.returns
  have hts := atoms_spec (ws := wsL_printIn) B.pre
  have hown : s.vm.findClass RL = some m.cls := findClass_of_methodNamed B.named
  have ht := vx_table (x := yL_printIn) B (hts _ (List.mem_of_getElem? (i := 0) rfl))
  subst hsz
  have hqo : qo < s.heap.size := hO.lt
  have hqz := wNot hqa hqo
  have hS : va_S (wA ad qo s.heap.size) s.heap s.heap [] := va_S.rf
  have hKg := hK.sub (tys' := tyG cy) [0, 1, 2, 3, 4, 5] rfl
  have hXI : XI [eIOO, eNSE] ((f_xCell r c1).or (f_xFound (f_inCell σ r c1))) := XI.or (XI.fc List.mem_cons_self) (XI.ff (List.mem_cons_of_mem _ List.mem_cons_self))
  have hl := lv_entry ([.ref (ad 429), .int (r), .int (c1), .ref qo]) (n := 5) (Nat.le_of_ble_eq_true rfl)
  refine W.eq (lg_entry_eq _ ([.ref (ad 429), .int (r), .int (c1), .ref qo]) _) ?_
  generalize (lg_sl ([.ref (ad 429), .int (r), .int (c1), .ref qo]) ++ List.replicate (5 - (lg_sl ([.ref (ad 429), .int (r), .int (c1), .ref qo])).length) Slot.unset).toArray = ls at hl ⊢
  have hl : lv_has ls 5 [(0, .ref (ad 429)), (1, .int (r)), (2, .int (c1)), (3, .ref qo)] := hl
  refine lv_aload_n hx hb dL_printIn_0 rfl (lv_at hl 3 rfl) ?_
  refine lv_iconst (v := 0) hx hb dL_printIn_1 (by decide) ?_
  refine lv_aload_n hx hb dL_printIn_2 rfl (lv_at hl 0 rfl) ?_
  refine lv_iload_n hx hb dL_printIn_3 rfl (lv_at hl 1 rfl) ?_
  refine lv_iload_n hx hb dL_printIn_4 rfl (lv_at hl 2 rfl) ?_
  refine sp_callx (vx_runV (As := [.int (r), .int (c1)]) (rest := [.int 0, .ref qo]) ⟨hx, hb, hml, hown, hts⟩ (c_X9_printIn l D ad cy pm rj σ xq hst _ hi r c1) (cwV 2 hts gL_printIn_X9_printIn rfl rfl rfl (by decide +kernel) ⟨Nat.le_of_ble_eq_true rfl, Nat.le_of_ble_eq_true rfl⟩) (sp_preVmx hKg hP hE (κ := 429) (by decide) cE_sp rfl) rfl rfl hl.1 rfl (lv_room (Nat.le_of_ble_eq_true rfl)) dL_printIn_5 ⟨Nat.le_of_ble_eq_true rfl, Nat.le_of_ble_eq_true rfl⟩) hS (fun q _ h => Or.inl h) (fun q h => Or.inl h) (fun E_x r_x ce q9 H locs hthr hB hle hfr hS hce hcv hcl => ?_) (fun hthr H locs hP hle hfr hS => ?_)
  · have hO : va_at D vwCl (qo, eL cl f) H := hO.kept (hfr qo hqo hqz)
    have hmem := hXI E_x r_x hthr
    rcases List.mem_cons.mp hmem with rfl | hmem
    · refine vx_catch (name := "java/lang/IndexOutOfBoundsException") hown ([]) (⟨0, 10, 13, 20⟩ : ExceptionTableEntry) (tableOf [(0, 10, 17, 77)]) (by rw [ht]; rfl) (fun z hz => absurd hz List.not_mem_nil) (by decide) (by decide) (hts _ (List.mem_of_getElem? (i := 1) rfl)) (va_Nw.use rfl hE.k0) hce hcv hcl ?_
      refine lv_astore (lv' := [(4, .ref q9), (0, .ref (ad 429)), (1, .int (r)), (2, .int (c1)), (3, .ref qo)]) hx hb dL_printIn_13 hl (by decide) rfl (fun ls hl => ?_)
      refine lv_iconst (v := 1) hx hb dL_printIn_15 (by decide) ?_
      exact W.iret (v := 1) hx hb hr (fun T9 hT9 _ => ⟨by rw [hthr]; exact congrArg (fun z9 => Outcome.returned (some (Value.int z9))) (kC_1).symm, hS.F hT9, Or.inr ⟨_, r_x, hthr, by rw [hT9]; exact hB, by rw [hT9]; exact hO⟩⟩) hS.2.2 dL_printIn_16
    · skip
      obtain rfl := List.mem_singleton.mp hmem
      refine vx_catch (name := "java/util/NoSuchElementException") hown (tableOf [(0, 10, 13, 20)]) (⟨0, 10, 17, 77⟩ : ExceptionTableEntry) (tableOf []) (by rw [ht]; rfl) (fun z hz => ((fun h9 => (List.mem_cons.mp h9).elim (fun e9 => by (subst e9; exact Or.inr ⟨by decide, "java/lang/IndexOutOfBoundsException", hts _ (List.mem_of_getElem? (i := 1) rfl), hNC _ _ (by decide +kernel) (by decide +kernel) (by decide +kernel)⟩)) (fun h9 => absurd h9 List.not_mem_nil)) : z ∈ tableOf [(0, 10, 13, 20)] → covers z 5 = false ∨ (z.catchType ≠ 0 ∧ ∃ nm : String, (Cond.classLink RL z.catchType nm).before _ s = true ∧ va_Nc eNSE nm s)) hz) (by decide) (by decide) (hts _ (List.mem_of_getElem? (i := 2) rfl)) (va_Nw.use rfl hE.k3) hce hcv hcl ?_
      refine lv_astore (lv' := [(4, .ref q9), (0, .ref (ad 429)), (1, .int (r)), (2, .int (c1)), (3, .ref qo)]) hx hb dL_printIn_17 hl (by decide) rfl (fun ls hl => ?_)
      refine lv_iconst (v := 2) hx hb dL_printIn_19 (by decide) ?_
      exact W.iret (v := 2) hx hb hr (fun T9 hT9 _ => ⟨by rw [hthr]; exact congrArg (fun z9 => Outcome.returned (some (Value.int z9))) (kC_2 (by decide +kernel)).symm, hS.F hT9, Or.inr ⟨_, r_x, hthr, by rw [hT9]; exact hB, by rw [hT9]; exact hO⟩⟩) hS.2.2 dL_printIn_20
  · have hO : va_at D vwCl (qo, eL cl f) H := hO.kept (hfr qo hqo hqz)
    have hPq := wCons hO hP
    have hDq : va_D (wA ad qo s.heap.size) ((qo, eL cl f) :: cW ad cy (pm) (rj) (σ)) := wApart hi hqa (Or.inr rfl) (fun k hk => Or.inl (Or.inl ⟨k, hk, rfl⟩))
    refine W.eq (g2 := F0 m 8 ls [.int (atO (f_inCell σ r c1) 0 (fun k => σ (9 + k) 1)), .int 0, .ref qo]) rfl ?_
    refine lv_i2l (v := Int32.toInt64 (atO (f_inCell σ r c1) 0 (fun k => σ (9 + k) 1))) hx hb dL_printIn_8 rfl ?_
    refine va_last hx hb hK hPq hDq hS 0 6 rfl rfl (i := 0) (x := Int32.toInt64 (atO (f_inCell σ r c1) 0 (fun k => σ (9 + k) 1))) vp01 dL_printIn_9 (fun H locs hP hD hS => ?_)
    refine lv_goto (tgt := 21) hx hb dL_printIn_10 (by decide) ?_
    refine lv_iconst (v := 0) hx hb dL_printIn_21 (by decide) ?_
    exact W.iret (v := 0) hx hb hr (fun T9 hT9 _ => ⟨by rw [hthr]; rfl, hS.F hT9, Or.inl ⟨hthr, by rw [hT9]; exact wTail hP, by rw [hT9]; exact wHead hP⟩⟩) hS.2.2 dL_printIn_22
set_option maxHeartbeats 4000000 in
set_option maxRecDepth 100000 in
theorem c_L_printsInRow (l : Launch) (D : va_G) (ad : Nat → Nat) (cy : Nat → ClassId) (pm : Nat → Nat) (rj : Option Nat) (σ : Nat → Nat → Int32) (xq : Nat → Nat) (hst : l.stackTraces = false) (sz : Nat) (hi : sp_inj ad 459) (r : Int32) (cl cd : ClassId) (qo : Nat) (f : Nat → Int64) (g : Nat → UInt64) : Met l yL_printsInRow wsL_printsInRow ({ frames := 8, cells := 1, slots := 6, locals := 131 } : Room) (wPc xq ad D cy cl cd sz [.ref (ad 429), .int (r), .ref qo] (cW ad cy pm rj σ) qo (eL cl f) (fun _ => True)) (wQ (f_xRow r) [eIOO] D qo (eL cl f) (eL cl (vp_updL f (0 : Int32).toNatClampNeg (Int32.toInt64 (f_countPrintsInRows σ r (r + 1))))) (cW ad cy (pm) (rj) (σ)) (sp_B D ad cy (pm) (σ) sz rj) (wA ad qo sz)) 1 6 (wA ad qo sz) := by
  refine va_MetW (cc := cL_printsInRow) (maxL := 4) (ret := (some .int)) (by decide) rfl ?_
  intro p e s m args below meth c s₁ B hml hv
  obtain ⟨rfl, hsz, hP, hO, hK, hE, hNC, hqa, hZ⟩ := hv
  have hx := B.exec
  have hb := B.bytes
  have hr := B.returns
  have hts := atoms_spec (ws := wsL_printsInRow) B.pre
  have hown : s.vm.findClass RL = some m.cls := findClass_of_methodNamed B.named
  have ht := vx_table (x := yL_printsInRow) B (hts _ (List.mem_of_getElem? (i := 0) rfl))
  subst hsz
  have hqo : qo < s.heap.size := hO.lt
  have hqz := wNot hqa hqo
  have hS : va_S (wA ad qo s.heap.size) s.heap s.heap [] := va_S.rf
  have hKg := hK.sub (tys' := tyG cy) [0, 1, 2, 3, 4, 5] rfl
  have hXI : XI [eIOO] (f_xRow r) := XI.fr List.mem_cons_self
  have hl := lv_entry ([.ref (ad 429), .int (r), .ref qo]) (n := 4) (Nat.le_of_ble_eq_true rfl)
  refine W.eq (lg_entry_eq _ ([.ref (ad 429), .int (r), .ref qo]) _) ?_
  generalize (lg_sl ([.ref (ad 429), .int (r), .ref qo]) ++ List.replicate (4 - (lg_sl ([.ref (ad 429), .int (r), .ref qo])).length) Slot.unset).toArray = ls at hl ⊢
  have hl : lv_has ls 4 [(0, .ref (ad 429)), (1, .int (r)), (2, .ref qo)] := hl
  refine lv_aload_n hx hb dL_printsInRow_0 rfl (lv_at hl 2 rfl) ?_
  refine lv_iconst (v := 0) hx hb dL_printsInRow_1 (by decide) ?_
  refine lv_aload_n hx hb dL_printsInRow_2 rfl (lv_at hl 0 rfl) ?_
  refine lv_iload_n hx hb dL_printsInRow_3 rfl (lv_at hl 1 rfl) ?_
  refine sp_callx (vx_runV (As := [.int (r)]) (rest := [.int 0, .ref qo]) ⟨hx, hb, hml, hown, hts⟩ (c_X9_printsInRow l D ad cy pm rj σ xq hst _ hi r) (cwV 1 hts gL_printsInRow_X9_printsInRow rfl rfl rfl (by decide +kernel) ⟨Nat.le_of_ble_eq_true rfl, Nat.le_of_ble_eq_true rfl⟩) (sp_preVmx hKg hP hE (κ := 429) (by decide) cE_sp rfl) rfl rfl hl.1 rfl (lv_room (Nat.le_of_ble_eq_true rfl)) dL_printsInRow_4 ⟨Nat.le_of_ble_eq_true rfl, Nat.le_of_ble_eq_true rfl⟩) hS (fun q _ h => Or.inl h) (fun q h => Or.inl h) (fun E_x r_x ce q9 H locs hthr hB hle hfr hS hce hcv hcl => ?_) (fun hthr H locs hP hle hfr hS => ?_)
  · have hO : va_at D vwCl (qo, eL cl f) H := hO.kept (hfr qo hqo hqz)
    have hmem := hXI E_x r_x hthr
    obtain rfl := List.mem_singleton.mp hmem
    refine vx_catch (name := "java/lang/IndexOutOfBoundsException") hown ([]) (⟨0, 9, 12, 20⟩ : ExceptionTableEntry) (tableOf []) (by rw [ht]; rfl) (fun z hz => absurd hz List.not_mem_nil) (by decide) (by decide) (hts _ (List.mem_of_getElem? (i := 1) rfl)) (va_Nw.use rfl hE.k0) hce hcv hcl ?_
    refine lv_astore_n (lv' := [(3, .ref q9), (0, .ref (ad 429)), (1, .int (r)), (2, .ref qo)]) hx hb dL_printsInRow_12 rfl hl (by decide) rfl (fun ls hl => ?_)
    refine lv_iconst (v := 1) hx hb dL_printsInRow_13 (by decide) ?_
    exact W.iret (v := 1) hx hb hr (fun T9 hT9 _ => ⟨by rw [hthr]; exact congrArg (fun z9 => Outcome.returned (some (Value.int z9))) (kC_1).symm, hS.F hT9, Or.inr ⟨_, r_x, hthr, by rw [hT9]; exact hB, by rw [hT9]; exact hO⟩⟩) hS.2.2 dL_printsInRow_14
  · have hO : va_at D vwCl (qo, eL cl f) H := hO.kept (hfr qo hqo hqz)
    have hPq := wCons hO hP
    have hDq : va_D (wA ad qo s.heap.size) ((qo, eL cl f) :: cW ad cy (pm) (rj) (σ)) := wApart hi hqa (Or.inr rfl) (fun k hk => Or.inl (Or.inl ⟨k, hk, rfl⟩))
    refine W.eq (g2 := F0 m 7 ls [.int (f_countPrintsInRows σ r (r + 1)), .int 0, .ref qo]) rfl ?_
    refine lv_i2l (v := Int32.toInt64 (f_countPrintsInRows σ r (r + 1))) hx hb dL_printsInRow_7 rfl ?_
    refine va_last hx hb hK hPq hDq hS 0 6 rfl rfl (i := 0) (x := Int32.toInt64 (f_countPrintsInRows σ r (r + 1))) vp01 dL_printsInRow_8 (fun H locs hP hD hS => ?_)
    refine lv_goto (tgt := 15) hx hb dL_printsInRow_9 (by decide) ?_
    refine lv_iconst (v := 0) hx hb dL_printsInRow_15 (by decide) ?_
    exact W.iret (v := 0) hx hb hr (fun T9 hT9 _ => ⟨by rw [hthr]; rfl, hS.F hT9, Or.inl ⟨hthr, by rw [hT9]; exact wTail hP, by rw [hT9]; exact wHead hP⟩⟩) hS.2.2 dL_printsInRow_16
set_option maxHeartbeats 4000000 in
set_option maxRecDepth 100000 in
theorem c_L_erasedBy (l : Launch) (D : va_G) (ad : Nat → Nat) (cy : Nat → ClassId) (pm : Nat → Nat) (rj : Option Nat) (σ : Nat → Nat → Int32) (xq : Nat → Nat) (hst : l.stackTraces = false) (sz : Nat) (hi : sp_inj ad 459) (v : Int32) (cl cd : ClassId) (qo : Nat) (f : Nat → Int64) (g : Nat → UInt64) : Met l yL_erasedBy wsL_erasedBy ({ frames := 8, cells := 1, slots := 6, locals := 131 } : Room) (wPc xq ad D cy cl cd sz [.ref (ad 429), .int (v), .ref qo] (cW ad cy pm rj σ) qo (eL cl f) (fun _ => True)) (wQ (f_xLevel v) [eIAE] D qo (eL cl f) (eL cl (vp_updL f (0 : Int32).toNatClampNeg (Int32.toInt64 (f_countPrintsInRows σ 0 v)))) (cW ad cy (pm) (rj) (σ)) (sp_B D ad cy (pm) (σ) sz rj) (wA ad qo sz)) 1 6 (wA ad qo sz) := by
  refine va_MetW (cc := cL_erasedBy) (maxL := 4) (ret := (some .int)) (by decide) rfl ?_
  intro p e s m args below meth c s₁ B hml hv
  obtain ⟨rfl, hsz, hP, hO, hK, hE, hNC, hqa, hZ⟩ := hv
  have hx := B.exec
  have hb := B.bytes
  have hr := B.returns
  have hts := atoms_spec (ws := wsL_erasedBy) B.pre
  have hown : s.vm.findClass RL = some m.cls := findClass_of_methodNamed B.named
  have ht := vx_table (x := yL_erasedBy) B (hts _ (List.mem_of_getElem? (i := 0) rfl))
  subst hsz
  have hqo : qo < s.heap.size := hO.lt
  have hqz := wNot hqa hqo
  have hS : va_S (wA ad qo s.heap.size) s.heap s.heap [] := va_S.rf
  have hKg := hK.sub (tys' := tyG cy) [0, 1, 2, 3, 4, 5] rfl
  have hXI : XI [eIAE] (f_xLevel v) := XI.fl List.mem_cons_self
  have hl := lv_entry ([.ref (ad 429), .int (v), .ref qo]) (n := 4) (Nat.le_of_ble_eq_true rfl)
  refine W.eq (lg_entry_eq _ ([.ref (ad 429), .int (v), .ref qo]) _) ?_
  generalize (lg_sl ([.ref (ad 429), .int (v), .ref qo]) ++ List.replicate (4 - (lg_sl ([.ref (ad 429), .int (v), .ref qo])).length) Slot.unset).toArray = ls at hl ⊢
  have hl : lv_has ls 4 [(0, .ref (ad 429)), (1, .int (v)), (2, .ref qo)] := hl
  refine lv_aload_n hx hb dL_erasedBy_0 rfl (lv_at hl 2 rfl) ?_
  refine lv_iconst (v := 0) hx hb dL_erasedBy_1 (by decide) ?_
  refine lv_aload_n hx hb dL_erasedBy_2 rfl (lv_at hl 0 rfl) ?_
  refine lv_iload_n hx hb dL_erasedBy_3 rfl (lv_at hl 1 rfl) ?_
  refine sp_callx (vx_runV (As := [.int (v)]) (rest := [.int 0, .ref qo]) ⟨hx, hb, hml, hown, hts⟩ (c_X9_erasedBy l D ad cy pm rj σ xq hst _ hi v) (cwV 1 hts gL_erasedBy_X9_erasedBy rfl rfl rfl (by decide +kernel) ⟨Nat.le_of_ble_eq_true rfl, Nat.le_of_ble_eq_true rfl⟩) (sp_preVmx hKg hP hE (κ := 429) (by decide) cE_sp rfl) rfl rfl hl.1 rfl (lv_room (Nat.le_of_ble_eq_true rfl)) dL_erasedBy_4 ⟨Nat.le_of_ble_eq_true rfl, Nat.le_of_ble_eq_true rfl⟩) hS (fun q _ h => Or.inl h) (fun q h => Or.inl h) (fun E_x r_x ce q9 H locs hthr hB hle hfr hS hce hcv hcl => ?_) (fun hthr H locs hP hle hfr hS => ?_)
  · have hO : va_at D vwCl (qo, eL cl f) H := hO.kept (hfr qo hqo hqz)
    have hmem := hXI E_x r_x hthr
    obtain rfl := List.mem_singleton.mp hmem
    refine vx_catch (name := "java/lang/IllegalArgumentException") hown ([]) (⟨0, 9, 12, 13⟩ : ExceptionTableEntry) (tableOf []) (by rw [ht]; rfl) (fun z hz => absurd hz List.not_mem_nil) (by decide) (by decide) (hts _ (List.mem_of_getElem? (i := 1) rfl)) (va_Nw.use rfl hE.k1) hce hcv hcl ?_
    refine lv_astore_n (lv' := [(3, .ref q9), (0, .ref (ad 429)), (1, .int (v)), (2, .ref qo)]) hx hb dL_erasedBy_12 rfl hl (by decide) rfl (fun ls hl => ?_)
    refine lv_iconst (v := 1) hx hb dL_erasedBy_13 (by decide) ?_
    exact W.iret (v := 1) hx hb hr (fun T9 hT9 _ => ⟨by rw [hthr]; exact congrArg (fun z9 => Outcome.returned (some (Value.int z9))) (kC_1).symm, hS.F hT9, Or.inr ⟨_, r_x, hthr, by rw [hT9]; exact hB, by rw [hT9]; exact hO⟩⟩) hS.2.2 dL_erasedBy_14
  · have hO : va_at D vwCl (qo, eL cl f) H := hO.kept (hfr qo hqo hqz)
    have hPq := wCons hO hP
    have hDq : va_D (wA ad qo s.heap.size) ((qo, eL cl f) :: cW ad cy (pm) (rj) (σ)) := wApart hi hqa (Or.inr rfl) (fun k hk => Or.inl (Or.inl ⟨k, hk, rfl⟩))
    refine W.eq (g2 := F0 m 7 ls [.int (f_countPrintsInRows σ 0 v), .int 0, .ref qo]) rfl ?_
    refine lv_i2l (v := Int32.toInt64 (f_countPrintsInRows σ 0 v)) hx hb dL_erasedBy_7 rfl ?_
    refine va_last hx hb hK hPq hDq hS 0 6 rfl rfl (i := 0) (x := Int32.toInt64 (f_countPrintsInRows σ 0 v)) vp01 dL_erasedBy_8 (fun H locs hP hD hS => ?_)
    refine lv_goto (tgt := 15) hx hb dL_erasedBy_9 (by decide) ?_
    refine lv_iconst (v := 0) hx hb dL_erasedBy_15 (by decide) ?_
    exact W.iret (v := 0) hx hb hr (fun T9 hT9 _ => ⟨by rw [hthr]; rfl, hS.F hT9, Or.inl ⟨hthr, by rw [hT9]; exact wTail hP, by rw [hT9]; exact wHead hP⟩⟩) hS.2.2 dL_erasedBy_16
set_option maxHeartbeats 4000000 in
set_option maxRecDepth 100000 in
theorem c_L_lateShare (l : Launch) (D : va_G) (ad : Nat → Nat) (cy : Nat → ClassId) (pm : Nat → Nat) (rj : Option Nat) (σ : Nat → Nat → Int32) (xq : Nat → Nat) (hst : l.stackTraces = false) (sz : Nat) (hi : sp_inj ad 459) (hd : ¬ f_countPrintsInRows σ 0 10 = 0 → vf_n32 (FP.fdiv (FP.i2f (f_countLatePrints σ)) (FP.i2f (f_countPrintsInRows σ 0 10)))) (cl cd : ClassId) (qo : Nat) (f : Nat → Int64) (g : Nat → UInt64) (hfn : (f_xAr (f_countPrintsInRows σ 0 10 == 0)) = none → vf_n64 (FP.f2d (FP.fdiv (FP.i2f (f_countLatePrints σ)) (FP.i2f (f_countPrintsInRows σ 0 10))))) : Met l yL_lateShare wsL_lateShare ({ frames := 7, cells := 1, slots := 6, locals := 111 } : Room) (wPc xq ad D cy cl cd sz [.ref (ad 429), .ref qo] (cW ad cy pm rj σ) qo (eD cd g) (fun _ => True)) (wQ (f_xAr (f_countPrintsInRows σ 0 10 == 0)) [eARE] D qo (eD cd g) (eD cd (vf_upd g (0 : Int32).toNatClampNeg (FP.f2d (FP.fdiv (FP.i2f (f_countLatePrints σ)) (FP.i2f (f_countPrintsInRows σ 0 10)))))) (cW ad cy (pm) (rj) (σ)) (sp_B D ad cy (pm) (σ) sz rj) (wA ad qo sz)) 1 6 (wA ad qo sz) := by
  refine va_MetW (cc := cL_lateShare) (maxL := 3) (ret := (some .int)) (by decide) rfl ?_
  intro p e s m args below meth c s₁ B hml hv
  obtain ⟨rfl, hsz, hP, hO, hK, hE, hNC, hqa, hZ⟩ := hv
  have hx := B.exec
  have hb := B.bytes
  have hr := B.returns
  have hts := atoms_spec (ws := wsL_lateShare) B.pre
  have hown : s.vm.findClass RL = some m.cls := findClass_of_methodNamed B.named
  have ht := vx_table (x := yL_lateShare) B (hts _ (List.mem_of_getElem? (i := 0) rfl))
  subst hsz
  have hqo : qo < s.heap.size := hO.lt
  have hqz := wNot hqa hqo
  have hS : va_S (wA ad qo s.heap.size) s.heap s.heap [] := va_S.rf
  have hKg := hK.sub (tys' := tyG cy) [0, 1, 2, 3, 4, 5] rfl
  have hXI : XI [eARE] (f_xAr (f_countPrintsInRows σ 0 10 == 0)) := XI.fa List.mem_cons_self
  have hl := lv_entry ([.ref (ad 429), .ref qo]) (n := 3) (Nat.le_of_ble_eq_true rfl)
  refine W.eq (lg_entry_eq _ ([.ref (ad 429), .ref qo]) _) ?_
  generalize (lg_sl ([.ref (ad 429), .ref qo]) ++ List.replicate (3 - (lg_sl ([.ref (ad 429), .ref qo])).length) Slot.unset).toArray = ls at hl ⊢
  have hl : lv_has ls 3 [(0, .ref (ad 429)), (1, .ref qo)] := hl
  refine lv_aload_n hx hb dL_lateShare_0 rfl (lv_at hl 1 rfl) ?_
  refine lv_iconst (v := 0) hx hb dL_lateShare_1 (by decide) ?_
  refine lv_aload_n hx hb dL_lateShare_2 rfl (lv_at hl 0 rfl) ?_
  refine sp_callx (vx_runV (As := []) (rest := [.int 0, .ref qo]) ⟨hx, hb, hml, hown, hts⟩ (c_X9_lateShare l D ad cy pm rj σ xq hst _ hi hd) (cwV 0 hts gL_lateShare_X9_lateShare rfl rfl rfl (by decide +kernel) ⟨Nat.le_of_ble_eq_true rfl, Nat.le_of_ble_eq_true rfl⟩) (sp_preVmx hKg hP hE (κ := 429) (by decide) cE_sp rfl) rfl rfl hl.1 rfl (lv_room (Nat.le_of_ble_eq_true rfl)) dL_lateShare_3 ⟨Nat.le_of_ble_eq_true rfl, Nat.le_of_ble_eq_true rfl⟩) hS (fun q _ h => Or.inl h) (fun q h => Or.inl h) (fun E_x r_x ce q9 H locs hthr hB hle hfr hS hce hcv hcl => ?_) (fun hthr H locs hP hle hfr hS => ?_)
  · have hO : va_at D vwCl (qo, eD cd g) H := hO.kept (hfr qo hqo hqz)
    have hmem := hXI E_x r_x hthr
    obtain rfl := List.mem_singleton.mp hmem
    refine vx_catch (name := "java/lang/ArithmeticException") hown ([]) (⟨0, 8, 11, 122⟩ : ExceptionTableEntry) (tableOf []) (by rw [ht]; rfl) (fun z hz => absurd hz List.not_mem_nil) (by decide) (by decide) (hts _ (List.mem_of_getElem? (i := 1) rfl)) (va_Nw.use rfl hE.k4) hce hcv hcl ?_
    refine lv_astore_n (lv' := [(2, .ref q9), (0, .ref (ad 429)), (1, .ref qo)]) hx hb dL_lateShare_11 rfl hl (by decide) rfl (fun ls hl => ?_)
    refine lv_iconst (v := 1) hx hb dL_lateShare_12 (by decide) ?_
    exact W.iret (v := 1) hx hb hr (fun T9 hT9 _ => ⟨by rw [hthr]; exact congrArg (fun z9 => Outcome.returned (some (Value.int z9))) (kC_1).symm, hS.F hT9, Or.inr ⟨_, r_x, hthr, by rw [hT9]; exact hB, by rw [hT9]; exact hO⟩⟩) hS.2.2 dL_lateShare_13
  · have hO : va_at D vwCl (qo, eD cd g) H := hO.kept (hfr qo hqo hqz)
    have hPq := wCons hO hP
    have hDq : va_D (wA ad qo s.heap.size) ((qo, eD cd g) :: cW ad cy (pm) (rj) (σ)) := wApart hi hqa (Or.inr rfl) (fun k hk => Or.inl (Or.inl ⟨k, hk, rfl⟩))
    refine W.eq (g2 := F0 m 6 ls [.float (FP.fdiv (FP.i2f (f_countLatePrints σ)) (FP.i2f (f_countPrintsInRows σ 0 10))), .int 0, .ref qo]) rfl ?_
    refine lv_f2d hx hb dL_lateShare_6 (hfn hthr) ?_
    refine va_dast hx hb hK hPq hDq hS 0 7 rfl rfl (i := 0) (x := FP.f2d (FP.fdiv (FP.i2f (f_countLatePrints σ)) (FP.i2f (f_countPrintsInRows σ 0 10)))) vp01 dL_lateShare_7 (fun H locs hP hD hS => ?_)
    refine lv_goto (tgt := 14) hx hb dL_lateShare_8 (by decide) ?_
    refine lv_iconst (v := 0) hx hb dL_lateShare_14 (by decide) ?_
    exact W.iret (v := 0) hx hb hr (fun T9 hT9 _ => ⟨by rw [hthr]; rfl, hS.F hT9, Or.inl ⟨hthr, by rw [hT9]; exact wTail hP, by rw [hT9]; exact wHead hP⟩⟩) hS.2.2 dL_lateShare_15
set_option maxHeartbeats 4000000 in
set_option maxRecDepth 100000 in
theorem c_L_writeTrack (l : Launch) (D : va_G) (ad : Nat → Nat) (cy : Nat → ClassId) (pm : Nat → Nat) (rj : Option Nat) (σ : Nat → Nat → Int32) (xq : Nat → Nat) (hst : l.stackTraces = false) (sz : Nat) (hi : sp_inj ad 459) (id : Int32) (cl cd : ClassId) (qo : Nat) (f : Nat → Int64) (g : Nat → UInt64) : Met l yL_writeTrack wsL_writeTrack ({ frames := 8, cells := 1, slots := 6, locals := 154 } : Room) (wPc xq ad D cy cl cd sz [.ref (ad 429), .int (id), .ref qo] (cW ad cy pm rj σ) qo (eL cl f) (fun _ => True)) (wQ (f_xTrack σ id) [eIOO] D qo (eL cl f) (eL cl (vp_updL f (0 : Int32).toNatClampNeg (Int32.toInt64 (atO (f_findTrack σ id) 0 (fun k => f_wrTn σ k 436 1))))) (cW ad cy (pm) (rj) (atO (f_findTrack σ id) σ (fun k => f_wrTn σ k))) (sp_B D ad cy (pm) (σ) sz rj) (wA ad qo sz)) 1 6 (wA ad qo sz) := by
  refine va_MetW (cc := cL_writeTrack) (maxL := 4) (ret := (some .int)) (by decide) rfl ?_
  intro p e s m args below meth c s₁ B hml hv
  obtain ⟨rfl, hsz, hP, hO, hK, hE, hNC, hqa, hZ⟩ := hv
  have hx := B.exec
  have hb := B.bytes
  have hr := B.returns
  have hts := atoms_spec (ws := wsL_writeTrack) B.pre
  have hown : s.vm.findClass RL = some m.cls := findClass_of_methodNamed B.named
  have ht := vx_table (x := yL_writeTrack) B (hts _ (List.mem_of_getElem? (i := 0) rfl))
  subst hsz
  have hqo : qo < s.heap.size := hO.lt
  have hqz := wNot hqa hqo
  have hS : va_S (wA ad qo s.heap.size) s.heap s.heap [] := va_S.rf
  have hKg := hK.sub (tys' := tyG cy) [0, 1, 2, 3, 4, 5] rfl
  have hXI : XI [eIOO] (f_xTrack σ id) := XI.ft List.mem_cons_self
  have hl := lv_entry ([.ref (ad 429), .int (id), .ref qo]) (n := 4) (Nat.le_of_ble_eq_true rfl)
  refine W.eq (lg_entry_eq _ ([.ref (ad 429), .int (id), .ref qo]) _) ?_
  generalize (lg_sl ([.ref (ad 429), .int (id), .ref qo]) ++ List.replicate (4 - (lg_sl ([.ref (ad 429), .int (id), .ref qo])).length) Slot.unset).toArray = ls at hl ⊢
  have hl : lv_has ls 4 [(0, .ref (ad 429)), (1, .int (id)), (2, .ref qo)] := hl
  refine lv_aload_n hx hb dL_writeTrack_0 rfl (lv_at hl 2 rfl) ?_
  refine lv_iconst (v := 0) hx hb dL_writeTrack_1 (by decide) ?_
  refine lv_aload_n hx hb dL_writeTrack_2 rfl (lv_at hl 0 rfl) ?_
  refine lv_iload_n hx hb dL_writeTrack_3 rfl (lv_at hl 1 rfl) ?_
  refine sp_callx (vx_runV (As := [.int (id)]) (rest := [.int 0, .ref qo]) ⟨hx, hb, hml, hown, hts⟩ (c_X9_writeTrack l D ad cy pm rj σ xq hst _ hi id) (cwV 1 hts gL_writeTrack_X9_writeTrack rfl rfl rfl (by decide +kernel) ⟨Nat.le_of_ble_eq_true rfl, Nat.le_of_ble_eq_true rfl⟩) (sp_preVmx hKg hP hE (κ := 429) (by decide) cE_sp rfl) rfl rfl hl.1 rfl (lv_room (Nat.le_of_ble_eq_true rfl)) dL_writeTrack_4 ⟨Nat.le_of_ble_eq_true rfl, Nat.le_of_ble_eq_true rfl⟩) hS (fun q _ h => Or.inl h) (fun q h => Or.inl h) (fun E_x r_x ce q9 H locs hthr hB hle hfr hS hce hcv hcl => ?_) (fun hthr H locs hP hle hfr hS => ?_)
  · have hO : va_at D vwCl (qo, eL cl f) H := hO.kept (hfr qo hqo hqz)
    have hmem := hXI E_x r_x hthr
    obtain rfl := List.mem_singleton.mp hmem
    refine vx_catch (name := "java/lang/IndexOutOfBoundsException") hown ([]) (⟨0, 9, 12, 20⟩ : ExceptionTableEntry) (tableOf []) (by rw [ht]; rfl) (fun z hz => absurd hz List.not_mem_nil) (by decide) (by decide) (hts _ (List.mem_of_getElem? (i := 1) rfl)) (va_Nw.use rfl hE.k0) hce hcv hcl ?_
    refine lv_astore_n (lv' := [(3, .ref q9), (0, .ref (ad 429)), (1, .int (id)), (2, .ref qo)]) hx hb dL_writeTrack_12 rfl hl (by decide) rfl (fun ls hl => ?_)
    refine lv_iconst (v := 1) hx hb dL_writeTrack_13 (by decide) ?_
    exact W.iret (v := 1) hx hb hr (fun T9 hT9 _ => ⟨by rw [hthr]; exact congrArg (fun z9 => Outcome.returned (some (Value.int z9))) (kC_1).symm, hS.F hT9, Or.inr ⟨_, r_x, hthr, by rw [hT9]; exact hB, by rw [hT9]; exact hO⟩⟩) hS.2.2 dL_writeTrack_14
  · have hO : va_at D vwCl (qo, eL cl f) H := hO.kept (hfr qo hqo hqz)
    have hPq := wCons hO hP
    have hDq : va_D (wA ad qo s.heap.size) ((qo, eL cl f) :: cW ad cy (pm) (rj) (atO (f_findTrack σ id) σ (fun k => f_wrTn σ k))) := wApart hi hqa (Or.inr rfl) (fun k hk => Or.inl (Or.inl ⟨k, hk, rfl⟩))
    refine W.eq (g2 := F0 m 7 ls [.int (atO (f_findTrack σ id) 0 (fun k => f_wrTn σ k 436 1)), .int 0, .ref qo]) rfl ?_
    refine lv_i2l (v := Int32.toInt64 (atO (f_findTrack σ id) 0 (fun k => f_wrTn σ k 436 1))) hx hb dL_writeTrack_7 rfl ?_
    refine va_last hx hb hK hPq hDq hS 0 6 rfl rfl (i := 0) (x := Int32.toInt64 (atO (f_findTrack σ id) 0 (fun k => f_wrTn σ k 436 1))) vp01 dL_writeTrack_8 (fun H locs hP hD hS => ?_)
    refine lv_goto (tgt := 15) hx hb dL_writeTrack_9 (by decide) ?_
    refine lv_iconst (v := 0) hx hb dL_writeTrack_15 (by decide) ?_
    exact W.iret (v := 0) hx hb hr (fun T9 hT9 _ => ⟨by rw [hthr]; rfl, hS.F hT9, Or.inl ⟨hthr, by rw [hT9]; exact wTail hP, by rw [hT9]; exact wHead hP⟩⟩) hS.2.2 dL_writeTrack_16
set_option maxHeartbeats 4000000 in
set_option maxRecDepth 100000 in
theorem c_L_writeRow (l : Launch) (D : va_G) (ad : Nat → Nat) (cy : Nat → ClassId) (pm : Nat → Nat) (rj : Option Nat) (σ : Nat → Nat → Int32) (xq : Nat → Nat) (hst : l.stackTraces = false) (sz : Nat) (hi : sp_inj ad 459) (r : Int32) (cl cd : ClassId) (qo : Nat) (f : Nat → Int64) (g : Nat → UInt64) : Met l yL_writeRow wsL_writeRow ({ frames := 8, cells := 1, slots := 6, locals := 132 } : Room) (wPc xq ad D cy cl cd sz [.ref (ad 429), .int (r), .ref qo] (cW ad cy pm rj σ) qo (eL cl f) (fun _ => True)) (wQ (f_xRow r) [eIOO] D qo (eL cl f) (eL cl (vp_updL f (0 : Int32).toNatClampNeg (Int32.toInt64 (f_wrR σ r 20 436 1)))) (cW ad cy (pm) (rj) (f_wrR σ r 20)) (sp_B D ad cy (pm) (σ) sz rj) (wA ad qo sz)) 1 6 (wA ad qo sz) := by
  refine va_MetW (cc := cL_writeRow) (maxL := 4) (ret := (some .int)) (by decide) rfl ?_
  intro p e s m args below meth c s₁ B hml hv
  obtain ⟨rfl, hsz, hP, hO, hK, hE, hNC, hqa, hZ⟩ := hv
  have hx := B.exec
  have hb := B.bytes
  have hr := B.returns
  have hts := atoms_spec (ws := wsL_writeRow) B.pre
  have hown : s.vm.findClass RL = some m.cls := findClass_of_methodNamed B.named
  have ht := vx_table (x := yL_writeRow) B (hts _ (List.mem_of_getElem? (i := 0) rfl))
  subst hsz
  have hqo : qo < s.heap.size := hO.lt
  have hqz := wNot hqa hqo
  have hS : va_S (wA ad qo s.heap.size) s.heap s.heap [] := va_S.rf
  have hKg := hK.sub (tys' := tyG cy) [0, 1, 2, 3, 4, 5] rfl
  have hXI : XI [eIOO] (f_xRow r) := XI.fr List.mem_cons_self
  have hl := lv_entry ([.ref (ad 429), .int (r), .ref qo]) (n := 4) (Nat.le_of_ble_eq_true rfl)
  refine W.eq (lg_entry_eq _ ([.ref (ad 429), .int (r), .ref qo]) _) ?_
  generalize (lg_sl ([.ref (ad 429), .int (r), .ref qo]) ++ List.replicate (4 - (lg_sl ([.ref (ad 429), .int (r), .ref qo])).length) Slot.unset).toArray = ls at hl ⊢
  have hl : lv_has ls 4 [(0, .ref (ad 429)), (1, .int (r)), (2, .ref qo)] := hl
  refine lv_aload_n hx hb dL_writeRow_0 rfl (lv_at hl 2 rfl) ?_
  refine lv_iconst (v := 0) hx hb dL_writeRow_1 (by decide) ?_
  refine lv_aload_n hx hb dL_writeRow_2 rfl (lv_at hl 0 rfl) ?_
  refine lv_iload_n hx hb dL_writeRow_3 rfl (lv_at hl 1 rfl) ?_
  refine sp_callx (vx_runV (As := [.int (r)]) (rest := [.int 0, .ref qo]) ⟨hx, hb, hml, hown, hts⟩ (c_X9_writeRow l D ad cy pm rj σ xq hst _ hi r) (cwV 1 hts gL_writeRow_X9_writeRow rfl rfl rfl (by decide +kernel) ⟨Nat.le_of_ble_eq_true rfl, Nat.le_of_ble_eq_true rfl⟩) (sp_preVmx hKg hP hE (κ := 429) (by decide) cE_sp rfl) rfl rfl hl.1 rfl (lv_room (Nat.le_of_ble_eq_true rfl)) dL_writeRow_4 ⟨Nat.le_of_ble_eq_true rfl, Nat.le_of_ble_eq_true rfl⟩) hS (fun q _ h => Or.inl h) (fun q h => Or.inl h) (fun E_x r_x ce q9 H locs hthr hB hle hfr hS hce hcv hcl => ?_) (fun hthr H locs hP hle hfr hS => ?_)
  · have hO : va_at D vwCl (qo, eL cl f) H := hO.kept (hfr qo hqo hqz)
    have hmem := hXI E_x r_x hthr
    obtain rfl := List.mem_singleton.mp hmem
    refine vx_catch (name := "java/lang/IndexOutOfBoundsException") hown ([]) (⟨0, 9, 12, 20⟩ : ExceptionTableEntry) (tableOf []) (by rw [ht]; rfl) (fun z hz => absurd hz List.not_mem_nil) (by decide) (by decide) (hts _ (List.mem_of_getElem? (i := 1) rfl)) (va_Nw.use rfl hE.k0) hce hcv hcl ?_
    refine lv_astore_n (lv' := [(3, .ref q9), (0, .ref (ad 429)), (1, .int (r)), (2, .ref qo)]) hx hb dL_writeRow_12 rfl hl (by decide) rfl (fun ls hl => ?_)
    refine lv_iconst (v := 1) hx hb dL_writeRow_13 (by decide) ?_
    exact W.iret (v := 1) hx hb hr (fun T9 hT9 _ => ⟨by rw [hthr]; exact congrArg (fun z9 => Outcome.returned (some (Value.int z9))) (kC_1).symm, hS.F hT9, Or.inr ⟨_, r_x, hthr, by rw [hT9]; exact hB, by rw [hT9]; exact hO⟩⟩) hS.2.2 dL_writeRow_14
  · have hO : va_at D vwCl (qo, eL cl f) H := hO.kept (hfr qo hqo hqz)
    have hPq := wCons hO hP
    have hDq : va_D (wA ad qo s.heap.size) ((qo, eL cl f) :: cW ad cy (pm) (rj) (f_wrR σ r 20)) := wApart hi hqa (Or.inr rfl) (fun k hk => Or.inl (Or.inl ⟨k, hk, rfl⟩))
    refine W.eq (g2 := F0 m 7 ls [.int (f_wrR σ r 20 436 1), .int 0, .ref qo]) rfl ?_
    refine lv_i2l (v := Int32.toInt64 (f_wrR σ r 20 436 1)) hx hb dL_writeRow_7 rfl ?_
    refine va_last hx hb hK hPq hDq hS 0 6 rfl rfl (i := 0) (x := Int32.toInt64 (f_wrR σ r 20 436 1)) vp01 dL_writeRow_8 (fun H locs hP hD hS => ?_)
    refine lv_goto (tgt := 15) hx hb dL_writeRow_9 (by decide) ?_
    refine lv_iconst (v := 0) hx hb dL_writeRow_15 (by decide) ?_
    exact W.iret (v := 0) hx hb hr (fun T9 hT9 _ => ⟨by rw [hthr]; rfl, hS.F hT9, Or.inl ⟨hthr, by rw [hT9]; exact wTail hP, by rw [hT9]; exact wHead hP⟩⟩) hS.2.2 dL_writeRow_16
set_option maxHeartbeats 4000000 in
set_option maxRecDepth 100000 in
theorem c_L_outputAt (l : Launch) (D : va_G) (ad : Nat → Nat) (cy : Nat → ClassId) (pm : Nat → Nat) (rj : Option Nat) (σ : Nat → Nat → Int32) (xq : Nat → Nat) (hst : l.stackTraces = false) (sz : Nat) (hi : sp_inj ad 459) (i : Int32) (cl cd : ClassId) (qo : Nat) (f : Nat → Int64) (g : Nat → UInt64) : Met l yL_outputAt wsL_outputAt ({ frames := 7, cells := 1, slots := 6, locals := 111 } : Room) (wPc xq ad D cy cl cd sz [.ref (ad 429), .int (i), .ref qo] (cW ad cy pm rj σ) qo (eL cl f) (fun _ => True)) (wQ (f_xOut (f_reachO σ i)) [eIOO] D qo (eL cl f) (eL cl (vp_updL f (0 : Int32).toNatClampNeg (Int32.toInt64 (f_signO σ i)))) (cW ad cy (pm) (rj) (σ)) (sp_B D ad cy (pm) (σ) sz rj) (wA ad qo sz)) 1 6 (wA ad qo sz) := by
  refine va_MetW (cc := cL_outputAt) (maxL := 4) (ret := (some .int)) (by decide) rfl ?_
  intro p e s m args below meth c s₁ B hml hv
  obtain ⟨rfl, hsz, hP, hO, hK, hE, hNC, hqa, hZ⟩ := hv
  have hx := B.exec
  have hb := B.bytes
  have hr := B.returns
  have hts := atoms_spec (ws := wsL_outputAt) B.pre
  have hown : s.vm.findClass RL = some m.cls := findClass_of_methodNamed B.named
  have ht := vx_table (x := yL_outputAt) B (hts _ (List.mem_of_getElem? (i := 0) rfl))
  subst hsz
  have hqo : qo < s.heap.size := hO.lt
  have hqz := wNot hqa hqo
  have hS : va_S (wA ad qo s.heap.size) s.heap s.heap [] := va_S.rf
  have hKg := hK.sub (tys' := tyG cy) [0, 1, 2, 3, 4, 5] rfl
  have hXI : XI [eIOO] (f_xOut (f_reachO σ i)) := XI.fo List.mem_cons_self
  have hl := lv_entry ([.ref (ad 429), .int (i), .ref qo]) (n := 4) (Nat.le_of_ble_eq_true rfl)
  refine W.eq (lg_entry_eq _ ([.ref (ad 429), .int (i), .ref qo]) _) ?_
  generalize (lg_sl ([.ref (ad 429), .int (i), .ref qo]) ++ List.replicate (4 - (lg_sl ([.ref (ad 429), .int (i), .ref qo])).length) Slot.unset).toArray = ls at hl ⊢
  have hl : lv_has ls 4 [(0, .ref (ad 429)), (1, .int (i)), (2, .ref qo)] := hl
  refine lv_aload_n hx hb dL_outputAt_0 rfl (lv_at hl 2 rfl) ?_
  refine lv_iconst (v := 0) hx hb dL_outputAt_1 (by decide) ?_
  refine lv_aload_n hx hb dL_outputAt_2 rfl (lv_at hl 0 rfl) ?_
  refine lv_iload_n hx hb dL_outputAt_3 rfl (lv_at hl 1 rfl) ?_
  refine sp_callx (vx_runV (As := [.int (i)]) (rest := [.int 0, .ref qo]) ⟨hx, hb, hml, hown, hts⟩ (c_X9_outputAt l D ad cy pm rj σ xq hst _ hi i) (cwV 1 hts gL_outputAt_X9_outputAt rfl rfl rfl (by decide +kernel) ⟨Nat.le_of_ble_eq_true rfl, Nat.le_of_ble_eq_true rfl⟩) (sp_preVmx hKg hP hE (κ := 429) (by decide) cE_sp rfl) rfl rfl hl.1 rfl (lv_room (Nat.le_of_ble_eq_true rfl)) dL_outputAt_4 ⟨Nat.le_of_ble_eq_true rfl, Nat.le_of_ble_eq_true rfl⟩) hS (fun q _ h => Or.inl h) (fun q h => Or.inl h) (fun E_x r_x ce q9 H locs hthr hB hle hfr hS hce hcv hcl => ?_) (fun hthr H locs hP hle hfr hS => ?_)
  · have hO : va_at D vwCl (qo, eL cl f) H := hO.kept (hfr qo hqo hqz)
    have hmem := hXI E_x r_x hthr
    obtain rfl := List.mem_singleton.mp hmem
    refine vx_catch (name := "java/lang/IndexOutOfBoundsException") hown ([]) (⟨0, 9, 12, 20⟩ : ExceptionTableEntry) (tableOf []) (by rw [ht]; rfl) (fun z hz => absurd hz List.not_mem_nil) (by decide) (by decide) (hts _ (List.mem_of_getElem? (i := 1) rfl)) (va_Nw.use rfl hE.k0) hce hcv hcl ?_
    refine lv_astore_n (lv' := [(3, .ref q9), (0, .ref (ad 429)), (1, .int (i)), (2, .ref qo)]) hx hb dL_outputAt_12 rfl hl (by decide) rfl (fun ls hl => ?_)
    refine lv_iconst (v := 1) hx hb dL_outputAt_13 (by decide) ?_
    exact W.iret (v := 1) hx hb hr (fun T9 hT9 _ => ⟨by rw [hthr]; exact congrArg (fun z9 => Outcome.returned (some (Value.int z9))) (kC_1).symm, hS.F hT9, Or.inr ⟨_, r_x, hthr, by rw [hT9]; exact hB, by rw [hT9]; exact hO⟩⟩) hS.2.2 dL_outputAt_14
  · have hO : va_at D vwCl (qo, eL cl f) H := hO.kept (hfr qo hqo hqz)
    have hPq := wCons hO hP
    have hDq : va_D (wA ad qo s.heap.size) ((qo, eL cl f) :: cW ad cy (pm) (rj) (σ)) := wApart hi hqa (Or.inr rfl) (fun k hk => Or.inl (Or.inl ⟨k, hk, rfl⟩))
    refine W.eq (g2 := F0 m 7 ls [.int (f_signO σ i), .int 0, .ref qo]) rfl ?_
    refine lv_i2l (v := Int32.toInt64 (f_signO σ i)) hx hb dL_outputAt_7 rfl ?_
    refine va_last hx hb hK hPq hDq hS 0 6 rfl rfl (i := 0) (x := Int32.toInt64 (f_signO σ i)) vp01 dL_outputAt_8 (fun H locs hP hD hS => ?_)
    refine lv_goto (tgt := 15) hx hb dL_outputAt_9 (by decide) ?_
    refine lv_iconst (v := 0) hx hb dL_outputAt_15 (by decide) ?_
    exact W.iret (v := 0) hx hb hr (fun T9 hT9 _ => ⟨by rw [hthr]; rfl, hS.F hT9, Or.inl ⟨hthr, by rw [hT9]; exact wTail hP, by rw [hT9]; exact wHead hP⟩⟩) hS.2.2 dL_outputAt_16
