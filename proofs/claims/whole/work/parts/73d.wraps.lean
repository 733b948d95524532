set_option maxHeartbeats 4000000 in
set_option maxRecDepth 100000 in
theorem c_L_trackLength (l : Launch) (D : va_G) (ad : Nat → Nat) (cy : Nat → ClassId) (pm : Nat → Nat) (rj : Option Nat) (σ : Nat → Nat → Int32) (xq : Nat → Nat) (hst : l.stackTraces = false) (sz : Nat) (hi : sp_inj ad 459) (id : Int32) (cl cd : ClassId) (qo : Nat) (f : Nat → Int64) (g : Nat → UInt64) : Met l yL_trackLength wsL_trackLength ({ frames := 8, cells := 1, slots := 6, locals := 133 } : Room) (wPc xq ad D cy cl cd sz [.ref (ad 429), .int (id), .ref qo] (cW ad cy pm rj σ) qo (eL cl f) (fun _ => True)) (wQ (f_xTrack σ id) [eIOO] D qo (eL cl f) (eL cl (vp_updL f (0 : Int32).toNatClampNeg (Int32.toInt64 (atO (f_findTrack σ id) 0 (fun k => f_len σ k))))) (cW ad cy (pm) (rj) (σ)) (sp_B D ad cy (pm) (σ) sz rj) (wA ad qo sz)) 1 6 (wA ad qo sz) := by
  refine va_MetW (cc := cL_trackLength) (maxL := 4) (ret := (some .int)) (by decide) rfl ?_
  intro p e s m args below meth c s₁ B hml hv
  obtain ⟨rfl, hsz, hP, hO, hK, hE, hNC, hqa, hZ⟩ := hv
  have hx := B.exec
  have hb := B.bytes
  have hr := B.returns
  have hts := atoms_spec (ws := wsL_trackLength) B.pre
  have hown : s.vm.findClass RL = some m.cls := findClass_of_methodNamed B.named
  have ht := vx_table (x := yL_trackLength) B (hts _ (List.mem_of_getElem? (i := 0) rfl))
  subst hsz
  have hqo : qo < s.heap.size := hO.lt
  have hqz := wNot hqa hqo
  have hS : va_S (wA ad qo s.heap.size) s.heap s.heap [] := va_S.rf
  have hKg := hK.sub (tys' := tyG cy) [0, 1, 2, 3, 4, 5] rfl
  have hXI : XI [eIOO] (f_xTrack σ id) := XI.ft List.mem_cons_self
  have hl := lv_entry ([.ref (ad 429), .int (id), .ref qo]) (n := 4) (Nat.le_of_ble_eq_true rfl)
  refine W.eq (lg_entry_eq _ ([.ref (ad 429), .int (id), .ref qo]) _) ?_
  generalize (lg_sl ([.ref (ad 429), .int (id), .ref qo]) ++ List.replicate (4 - (lg_sl ([.ref (ad 429), .int (id), .ref qo])).length) Slot.unset).toArray = ls at hl ⊢
  have hl : lv_has ls 4 [(0, .ref (ad 429)), (1, .int (id)), (2, .ref qo)] := hl
  refine lv_aload_n hx hb dL_trackLength_0 rfl (lv_at hl 2 rfl) ?_
  refine lv_iconst (v := 0) hx hb dL_trackLength_1 (by decide) ?_
  refine lv_aload_n hx hb dL_trackLength_2 rfl (lv_at hl 0 rfl) ?_
  refine lv_iload_n hx hb dL_trackLength_3 rfl (lv_at hl 1 rfl) ?_
  refine sp_callx (vx_runV (As := [.int (id)]) (rest := [.int 0, .ref qo]) ⟨hx, hb, hml, hown, hts⟩ (c_X9_trackLength l D ad cy pm rj σ xq hst _ hi id) (cwV 1 hts gL_trackLength_X9_trackLength rfl rfl rfl (by decide +kernel) ⟨Nat.le_of_ble_eq_true rfl, Nat.le_of_ble_eq_true rfl⟩) (sp_preVmx hKg hP hE (κ := 429) (by decide) cE_sp rfl) rfl rfl hl.1 rfl (lv_room (Nat.le_of_ble_eq_true rfl)) dL_trackLength_4 ⟨Nat.le_of_ble_eq_true rfl, Nat.le_of_ble_eq_true rfl⟩) hS (fun q _ h => Or.inl h) (fun q h => Or.inl h) (fun E_x r_x ce q9 H locs hthr hB hle hfr hS hce hcv hcl => ?_) (fun hthr H locs hP hle hfr hS => ?_)
  · have hO : va_at D vwCl (qo, eL cl f) H := hO.kept (hfr qo hqo hqz)
    have hmem := hXI E_x r_x hthr
    obtain rfl := List.mem_singleton.mp hmem
    refine vx_catch (name := "java/lang/IndexOutOfBoundsException") hown ([]) (⟨0, 9, 12, 20⟩ : ExceptionTableEntry) (tableOf []) (by rw [ht]; rfl) (fun z hz => absurd hz List.not_mem_nil) (by decide) (by decide) (hts _ (List.mem_of_getElem? (i := 1) rfl)) (va_Nw.use rfl hE.k0) hce hcv hcl ?_
    refine lv_astore_n (lv' := [(3, .ref q9), (0, .ref (ad 429)), (1, .int (id)), (2, .ref qo)]) hx hb dL_trackLength_12 rfl hl (by decide) rfl (fun ls hl => ?_)
    refine lv_iconst (v := 1) hx hb dL_trackLength_13 (by decide) ?_
    exact W.iret (v := 1) hx hb hr (fun T9 hT9 _ => ⟨by rw [hthr]; exact congrArg (fun z9 => Outcome.returned (some (Value.int z9))) (kC_1).symm, hS.F hT9, Or.inr ⟨_, r_x, hthr, by rw [hT9]; exact hB, by rw [hT9]; exact hO⟩⟩) hS.2.2 dL_trackLength_14
  · have hO : va_at D vwCl (qo, eL cl f) H := hO.kept (hfr qo hqo hqz)
    have hPq := wCons hO hP
    have hDq : va_D (wA ad qo s.heap.size) ((qo, eL cl f) :: cW ad cy (pm) (rj) (σ)) := wApart hi hqa (Or.inr rfl) (fun k hk => Or.inl (Or.inl ⟨k, hk, rfl⟩))
    refine W.eq (g2 := F0 m 7 ls [.int (atO (f_findTrack σ id) 0 (fun k => f_len σ k)), .int 0, .ref qo]) rfl ?_
    refine lv_i2l (v := Int32.toInt64 (atO (f_findTrack σ id) 0 (fun k => f_len σ k))) hx hb dL_trackLength_7 rfl ?_
    refine va_last hx hb hK hPq hDq hS 0 6 rfl rfl (i := 0) (x := Int32.toInt64 (atO (f_findTrack σ id) 0 (fun k => f_len σ k))) vp01 dL_trackLength_8 (fun H locs hP hD hS => ?_)
    refine lv_goto (tgt := 15) hx hb dL_trackLength_9 (by decide) ?_
    refine lv_iconst (v := 0) hx hb dL_trackLength_15 (by decide) ?_
    exact W.iret (v := 0) hx hb hr (fun T9 hT9 _ => ⟨by rw [hthr]; rfl, hS.F hT9, Or.inl ⟨hthr, by rw [hT9]; exact wTail hP, by rw [hT9]; exact wHead hP⟩⟩) hS.2.2 dL_trackLength_16
set_option maxHeartbeats 4000000 in
set_option maxRecDepth 100000 in
theorem c_L_trackLengthAgain (l : Launch) (D : va_G) (ad : Nat → Nat) (cy : Nat → ClassId) (pm : Nat → Nat) (rj : Option Nat) (σ : Nat → Nat → Int32) (xq : Nat → Nat) (hst : l.stackTraces = false) (sz : Nat) (hi : sp_inj ad 459) (id : Int32) (cl cd : ClassId) (qo : Nat) (f : Nat → Int64) (g : Nat → UInt64) : Met l yL_trackLengthAgain wsL_trackLengthAgain ({ frames := 8, cells := 1, slots := 6, locals := 133 } : Room) (wPc xq ad D cy cl cd sz [.ref (ad 429), .int (id), .ref qo] (cW ad cy pm rj σ) qo (eL cl f) (fun _ => True)) (wQ (f_xTrack σ id) [eIOO] D qo (eL cl f) (eL cl (vp_updL f (0 : Int32).toNatClampNeg (Int32.toInt64 (atO (f_findTrack σ id) 0 (fun k => f_lenD σ k))))) (cW ad cy (pm) (rj) (σ)) (sp_B D ad cy (pm) (σ) sz rj) (wA ad qo sz)) 1 6 (wA ad qo sz) := by
  refine va_MetW (cc := cL_trackLengthAgain) (maxL := 4) (ret := (some .int)) (by decide) rfl ?_
  intro p e s m args below meth c s₁ B hml hv
  obtain ⟨rfl, hsz, hP, hO, hK, hE, hNC, hqa, hZ⟩ := hv
  have hx := B.exec
  have hb := B.bytes
  have hr := B.returns
  have hts := atoms_spec (ws := wsL_trackLengthAgain) B.pre
  have hown : s.vm.findClass RL = some m.cls := findClass_of_methodNamed B.named
  have ht := vx_table (x := yL_trackLengthAgain) B (hts _ (List.mem_of_getElem? (i := 0) rfl))
  subst hsz
  have hqo : qo < s.heap.size := hO.lt
  have hqz := wNot hqa hqo
  have hS : va_S (wA ad qo s.heap.size) s.heap s.heap [] := va_S.rf
  have hKg := hK.sub (tys' := tyG cy) [0, 1, 2, 3, 4, 5] rfl
  have hXI : XI [eIOO] (f_xTrack σ id) := XI.ft List.mem_cons_self
  have hl := lv_entry ([.ref (ad 429), .int (id), .ref qo]) (n := 4) (Nat.le_of_ble_eq_true rfl)
  refine W.eq (lg_entry_eq _ ([.ref (ad 429), .int (id), .ref qo]) _) ?_
  generalize (lg_sl ([.ref (ad 429), .int (id), .ref qo]) ++ List.replicate (4 - (lg_sl ([.ref (ad 429), .int (id), .ref qo])).length) Slot.unset).toArray = ls at hl ⊢
  have hl : lv_has ls 4 [(0, .ref (ad 429)), (1, .int (id)), (2, .ref qo)] := hl
  refine lv_aload_n hx hb dL_trackLengthAgain_0 rfl (lv_at hl 2 rfl) ?_
  refine lv_iconst (v := 0) hx hb dL_trackLengthAgain_1 (by decide) ?_
  refine lv_aload_n hx hb dL_trackLengthAgain_2 rfl (lv_at hl 0 rfl) ?_
  refine lv_iload_n hx hb dL_trackLengthAgain_3 rfl (lv_at hl 1 rfl) ?_
  refine sp_callx (vx_runV (As := [.int (id)]) (rest := [.int 0, .ref qo]) ⟨hx, hb, hml, hown, hts⟩ (c_X9_trackLengthAgain l D ad cy pm rj σ xq hst _ hi id) (cwV 1 hts gL_trackLengthAgain_X9_trackLengthAgain rfl rfl rfl (by decide +kernel) ⟨Nat.le_of_ble_eq_true rfl, Nat.le_of_ble_eq_true rfl⟩) (sp_preVmx hKg hP hE (κ := 429) (by decide) cE_sp rfl) rfl rfl hl.1 rfl (lv_room (Nat.le_of_ble_eq_true rfl)) dL_trackLengthAgain_4 ⟨Nat.le_of_ble_eq_true rfl, Nat.le_of_ble_eq_true rfl⟩) hS (fun q _ h => Or.inl h) (fun q h => Or.inl h) (fun E_x r_x ce q9 H locs hthr hB hle hfr hS hce hcv hcl => ?_) (fun hthr H locs hP hle hfr hS => ?_)
  · have hO : va_at D vwCl (qo, eL cl f) H := hO.kept (hfr qo hqo hqz)
    have hmem := hXI E_x r_x hthr
    obtain rfl := List.mem_singleton.mp hmem
    refine vx_catch (name := "java/lang/IndexOutOfBoundsException") hown ([]) (⟨0, 9, 12, 20⟩ : ExceptionTableEntry) (tableOf []) (by rw [ht]; rfl) (fun z hz => absurd hz List.not_mem_nil) (by decide) (by decide) (hts _ (List.mem_of_getElem? (i := 1) rfl)) (va_Nw.use rfl hE.k0) hce hcv hcl ?_
    refine lv_astore_n (lv' := [(3, .ref q9), (0, .ref (ad 429)), (1, .int (id)), (2, .ref qo)]) hx hb dL_trackLengthAgain_12 rfl hl (by decide) rfl (fun ls hl => ?_)
    refine lv_iconst (v := 1) hx hb dL_trackLengthAgain_13 (by decide) ?_
    exact W.iret (v := 1) hx hb hr (fun T9 hT9 _ => ⟨by rw [hthr]; exact congrArg (fun z9 => Outcome.returned (some (Value.int z9))) (kC_1).symm, hS.F hT9, Or.inr ⟨_, r_x, hthr, by rw [hT9]; exact hB, by rw [hT9]; exact hO⟩⟩) hS.2.2 dL_trackLengthAgain_14
  · have hO : va_at D vwCl (qo, eL cl f) H := hO.kept (hfr qo hqo hqz)
    have hPq := wCons hO hP
    have hDq : va_D (wA ad qo s.heap.size) ((qo, eL cl f) :: cW ad cy (pm) (rj) (σ)) := wApart hi hqa (Or.inr rfl) (fun k hk => Or.inl (Or.inl ⟨k, hk, rfl⟩))
    refine W.eq (g2 := F0 m 7 ls [.int (atO (f_findTrack σ id) 0 (fun k => f_lenD σ k)), .int 0, .ref qo]) rfl ?_
    refine lv_i2l (v := Int32.toInt64 (atO (f_findTrack σ id) 0 (fun k => f_lenD σ k))) hx hb dL_trackLengthAgain_7 rfl ?_
    refine va_last hx hb hK hPq hDq hS 0 6 rfl rfl (i := 0) (x := Int32.toInt64 (atO (f_findTrack σ id) 0 (fun k => f_lenD σ k))) vp01 dL_trackLengthAgain_8 (fun H locs hP hD hS => ?_)
    refine lv_goto (tgt := 15) hx hb dL_trackLengthAgain_9 (by decide) ?_
    refine lv_iconst (v := 0) hx hb dL_trackLengthAgain_15 (by decide) ?_
    exact W.iret (v := 0) hx hb hr (fun T9 hT9 _ => ⟨by rw [hthr]; rfl, hS.F hT9, Or.inl ⟨hthr, by rw [hT9]; exact wTail hP, by rw [hT9]; exact wHead hP⟩⟩) hS.2.2 dL_trackLengthAgain_16
set_option maxHeartbeats 4000000 in
set_option maxRecDepth 100000 in
theorem c_L_errorCount (l : Launch) (D : va_G) (ad : Nat → Nat) (cy : Nat → ClassId) (pm : Nat → Nat) (rj : Option Nat) (σ : Nat → Nat → Int32) (xq : Nat → Nat) (hst : l.stackTraces = false) (sz : Nat) (hi : sp_inj ad 459) (id : Int32) (cl cd : ClassId) (qo : Nat) (f : Nat → Int64) (g : Nat → UInt64) : Met l yL_errorCount wsL_errorCount ({ frames := 8, cells := 1, slots := 6, locals := 133 } : Room) (wPc xq ad D cy cl cd sz [.ref (ad 429), .int (id), .ref qo] (cW ad cy pm rj σ) qo (eL cl f) (fun _ => True)) (wQ (f_xTrack σ id) [eIOO] D qo (eL cl f) (eL cl (vp_updL f (0 : Int32).toNatClampNeg (Int32.toInt64 (atO (f_findTrack σ id) 0 (fun k => f_errs σ (σ (3 + k) 1)))))) (cW ad cy (pm) (rj) (σ)) (sp_B D ad cy (pm) (σ) sz rj) (wA ad qo sz)) 1 6 (wA ad qo sz) := by
  refine va_MetW (cc := cL_errorCount) (maxL := 4) (ret := (some .int)) (by decide) rfl ?_
  intro p e s m args below meth c s₁ B hml hv
  obtain ⟨rfl, hsz, hP, hO, hK, hE, hNC, hqa, hZ⟩ := hv
  have hx := B.exec
  have hb := B.bytes
  have hr := B.returns
  have hts := atoms_spec (ws := wsL_errorCount) B.pre
  have hown : s.vm.findClass RL = some m.cls := findClass_of_methodNamed B.named
  have ht := vx_table (x := yL_errorCount) B (hts _ (List.mem_of_getElem? (i := 0) rfl))
  subst hsz
  have hqo : qo < s.heap.size := hO.lt
  have hqz := wNot hqa hqo
  have hS : va_S (wA ad qo s.heap.size) s.heap s.heap [] := va_S.rf
  have hKg := hK.sub (tys' := tyG cy) [0, 1, 2, 3, 4, 5] rfl
  have hXI : XI [eIOO] (f_xTrack σ id) := XI.ft List.mem_cons_self
  have hl := lv_entry ([.ref (ad 429), .int (id), .ref qo]) (n := 4) (Nat.le_of_ble_eq_true rfl)
  refine W.eq (lg_entry_eq _ ([.ref (ad 429), .int (id), .ref qo]) _) ?_
  generalize (lg_sl ([.ref (ad 429), .int (id), .ref qo]) ++ List.replicate (4 - (lg_sl ([.ref (ad 429), .int (id), .ref qo])).length) Slot.unset).toArray = ls at hl ⊢
  have hl : lv_has ls 4 [(0, .ref (ad 429)), (1, .int (id)), (2, .ref qo)] := hl
  refine lv_aload_n hx hb dL_errorCount_0 rfl (lv_at hl 2 rfl) ?_
  refine lv_iconst (v := 0) hx hb dL_errorCount_1 (by decide) ?_
  refine lv_aload_n hx hb dL_errorCount_2 rfl (lv_at hl 0 rfl) ?_
  refine lv_iload_n hx hb dL_errorCount_3 rfl (lv_at hl 1 rfl) ?_
  refine sp_callx (vx_runV (As := [.int (id)]) (rest := [.int 0, .ref qo]) ⟨hx, hb, hml, hown, hts⟩ (c_X9_errorCount l D ad cy pm rj σ xq hst _ hi id) (cwV 1 hts gL_errorCount_X9_errorCount rfl rfl rfl (by decide +kernel) ⟨Nat.le_of_ble_eq_true rfl, Nat.le_of_ble_eq_true rfl⟩) (sp_preVmx hKg hP hE (κ := 429) (by decide) cE_sp rfl) rfl rfl hl.1 rfl (lv_room (Nat.le_of_ble_eq_true rfl)) dL_errorCount_4 ⟨Nat.le_of_ble_eq_true rfl, Nat.le_of_ble_eq_true rfl⟩) hS (fun q _ h => Or.inl h) (fun q h => Or.inl h) (fun E_x r_x ce q9 H locs hthr hB hle hfr hS hce hcv hcl => ?_) (fun hthr H locs hP hle hfr hS => ?_)
  · have hO : va_at D vwCl (qo, eL cl f) H := hO.kept (hfr qo hqo hqz)
    have hmem := hXI E_x r_x hthr
    obtain rfl := List.mem_singleton.mp hmem
    refine vx_catch (name := "java/lang/IndexOutOfBoundsException") hown ([]) (⟨0, 9, 12, 20⟩ : ExceptionTableEntry) (tableOf []) (by rw [ht]; rfl) (fun z hz => absurd hz List.not_mem_nil) (by decide) (by decide) (hts _ (List.mem_of_getElem? (i := 1) rfl)) (va_Nw.use rfl hE.k0) hce hcv hcl ?_
    refine lv_astore_n (lv' := [(3, .ref q9), (0, .ref (ad 429)), (1, .int (id)), (2, .ref qo)]) hx hb dL_errorCount_12 rfl hl (by decide) rfl (fun ls hl => ?_)
    refine lv_iconst (v := 1) hx hb dL_errorCount_13 (by decide) ?_
    exact W.iret (v := 1) hx hb hr (fun T9 hT9 _ => ⟨by rw [hthr]; exact congrArg (fun z9 => Outcome.returned (some (Value.int z9))) (kC_1).symm, hS.F hT9, Or.inr ⟨_, r_x, hthr, by rw [hT9]; exact hB, by rw [hT9]; exact hO⟩⟩) hS.2.2 dL_errorCount_14
  · have hO : va_at D vwCl (qo, eL cl f) H := hO.kept (hfr qo hqo hqz)
    have hPq := wCons hO hP
    have hDq : va_D (wA ad qo s.heap.size) ((qo, eL cl f) :: cW ad cy (pm) (rj) (σ)) := wApart hi hqa (Or.inr rfl) (fun k hk => Or.inl (Or.inl ⟨k, hk, rfl⟩))
    refine W.eq (g2 := F0 m 7 ls [.int (atO (f_findTrack σ id) 0 (fun k => f_errs σ (σ (3 + k) 1))), .int 0, .ref qo]) rfl ?_
    refine lv_i2l (v := Int32.toInt64 (atO (f_findTrack σ id) 0 (fun k => f_errs σ (σ (3 + k) 1)))) hx hb dL_errorCount_7 rfl ?_
    refine va_last hx hb hK hPq hDq hS 0 6 rfl rfl (i := 0) (x := Int32.toInt64 (atO (f_findTrack σ id) 0 (fun k => f_errs σ (σ (3 + k) 1)))) vp01 dL_errorCount_8 (fun H locs hP hD hS => ?_)
    refine lv_goto (tgt := 15) hx hb dL_errorCount_9 (by decide) ?_
    refine lv_iconst (v := 0) hx hb dL_errorCount_15 (by decide) ?_
    exact W.iret (v := 0) hx hb hr (fun T9 hT9 _ => ⟨by rw [hthr]; rfl, hS.F hT9, Or.inl ⟨hthr, by rw [hT9]; exact wTail hP, by rw [hT9]; exact wHead hP⟩⟩) hS.2.2 dL_errorCount_16
set_option maxHeartbeats 4000000 in
set_option maxRecDepth 100000 in
theorem c_L_errorCountAgain (l : Launch) (D : va_G) (ad : Nat → Nat) (cy : Nat → ClassId) (pm : Nat → Nat) (rj : Option Nat) (σ : Nat → Nat → Int32) (xq : Nat → Nat) (hst : l.stackTraces = false) (sz : Nat) (hi : sp_inj ad 459) (id : Int32) (cl cd : ClassId) (qo : Nat) (f : Nat → Int64) (g : Nat → UInt64) : Met l yL_errorCountAgain wsL_errorCountAgain ({ frames := 8, cells := 1, slots := 6, locals := 133 } : Room) (wPc xq ad D cy cl cd sz [.ref (ad 429), .int (id), .ref qo] (cW ad cy pm rj σ) qo (eL cl f) (fun _ => True)) (wQ (f_xTrack σ id) [eIOO] D qo (eL cl f) (eL cl (vp_updL f (0 : Int32).toNatClampNeg (Int32.toInt64 (atO (f_findTrack σ id) 0 (fun k => f_errsK σ (σ (3 + k) 1)))))) (cW ad cy (pm) (rj) (σ)) (sp_B D ad cy (pm) (σ) sz rj) (wA ad qo sz)) 1 6 (wA ad qo sz) := by
  refine va_MetW (cc := cL_errorCountAgain) (maxL := 4) (ret := (some .int)) (by decide) rfl ?_
  intro p e s m args below meth c s₁ B hml hv
  obtain ⟨rfl, hsz, hP, hO, hK, hE, hNC, hqa, hZ⟩ := hv
  have hx := B.exec
  have hb := B.bytes
  have hr := B.returns
  have hts := atoms_spec (ws := wsL_errorCountAgain) B.pre
  have hown : s.vm.findClass RL = some m.cls := findClass_of_methodNamed B.named
  have ht := vx_table (x := yL_errorCountAgain) B (hts _ (List.mem_of_getElem? (i := 0) rfl))
  subst hsz
  have hqo : qo < s.heap.size := hO.lt
  have hqz := wNot hqa hqo
  have hS : va_S (wA ad qo s.heap.size) s.heap s.heap [] := va_S.rf
  have hKg := hK.sub (tys' := tyG cy) [0, 1, 2, 3, 4, 5] rfl
  have hXI : XI [eIOO] (f_xTrack σ id) := XI.ft List.mem_cons_self
  have hl := lv_entry ([.ref (ad 429), .int (id), .ref qo]) (n := 4) (Nat.le_of_ble_eq_true rfl)
  refine W.eq (lg_entry_eq _ ([.ref (ad 429), .int (id), .ref qo]) _) ?_
  generalize (lg_sl ([.ref (ad 429), .int (id), .ref qo]) ++ List.replicate (4 - (lg_sl ([.ref (ad 429), .int (id), .ref qo])).length) Slot.unset).toArray = ls at hl ⊢
  have hl : lv_has ls 4 [(0, .ref (ad 429)), (1, .int (id)), (2, .ref qo)] := hl
  refine lv_aload_n hx hb dL_errorCountAgain_0 rfl (lv_at hl 2 rfl) ?_
  refine lv_iconst (v := 0) hx hb dL_errorCountAgain_1 (by decide) ?_
  refine lv_aload_n hx hb dL_errorCountAgain_2 rfl (lv_at hl 0 rfl) ?_
  refine lv_iload_n hx hb dL_errorCountAgain_3 rfl (lv_at hl 1 rfl) ?_
  refine sp_callx (vx_runV (As := [.int (id)]) (rest := [.int 0, .ref qo]) ⟨hx, hb, hml, hown, hts⟩ (c_X9_errorCountAgain l D ad cy pm rj σ xq hst _ hi id) (cwV 1 hts gL_errorCountAgain_X9_errorCountAgain rfl rfl rfl (by decide +kernel) ⟨Nat.le_of_ble_eq_true rfl, Nat.le_of_ble_eq_true rfl⟩) (sp_preVmx hKg hP hE (κ := 429) (by decide) cE_sp rfl) rfl rfl hl.1 rfl (lv_room (Nat.le_of_ble_eq_true rfl)) dL_errorCountAgain_4 ⟨Nat.le_of_ble_eq_true rfl, Nat.le_of_ble_eq_true rfl⟩) hS (fun q _ h => Or.inl h) (fun q h => Or.inl h) (fun E_x r_x ce q9 H locs hthr hB hle hfr hS hce hcv hcl => ?_) (fun hthr H locs hP hle hfr hS => ?_)
  · have hO : va_at D vwCl (qo, eL cl f) H := hO.kept (hfr qo hqo hqz)
    have hmem := hXI E_x r_x hthr
    obtain rfl := List.mem_singleton.mp hmem
    refine vx_catch (name := "java/lang/IndexOutOfBoundsException") hown ([]) (⟨0, 9, 12, 20⟩ : ExceptionTableEntry) (tableOf []) (by rw [ht]; rfl) (fun z hz => absurd hz List.not_mem_nil) (by decide) (by decide) (hts _ (List.mem_of_getElem? (i := 1) rfl)) (va_Nw.use rfl hE.k0) hce hcv hcl ?_
    refine lv_astore_n (lv' := [(3, .ref q9), (0, .ref (ad 429)), (1, .int (id)), (2, .ref qo)]) hx hb dL_errorCountAgain_12 rfl hl (by decide) rfl (fun ls hl => ?_)
    refine lv_iconst (v := 1) hx hb dL_errorCountAgain_13 (by decide) ?_
    exact W.iret (v := 1) hx hb hr (fun T9 hT9 _ => ⟨by rw [hthr]; exact congrArg (fun z9 => Outcome.returned (some (Value.int z9))) (kC_1).symm, hS.F hT9, Or.inr ⟨_, r_x, hthr, by rw [hT9]; exact hB, by rw [hT9]; exact hO⟩⟩) hS.2.2 dL_errorCountAgain_14
  · have hO : va_at D vwCl (qo, eL cl f) H := hO.kept (hfr qo hqo hqz)
    have hPq := wCons hO hP
    have hDq : va_D (wA ad qo s.heap.size) ((qo, eL cl f) :: cW ad cy (pm) (rj) (σ)) := wApart hi hqa (Or.inr rfl) (fun k hk => Or.inl (Or.inl ⟨k, hk, rfl⟩))
    refine W.eq (g2 := F0 m 7 ls [.int (atO (f_findTrack σ id) 0 (fun k => f_errsK σ (σ (3 + k) 1))), .int 0, .ref qo]) rfl ?_
    refine lv_i2l (v := Int32.toInt64 (atO (f_findTrack σ id) 0 (fun k => f_errsK σ (σ (3 + k) 1)))) hx hb dL_errorCountAgain_7 rfl ?_
    refine va_last hx hb hK hPq hDq hS 0 6 rfl rfl (i := 0) (x := Int32.toInt64 (atO (f_findTrack σ id) 0 (fun k => f_errsK σ (σ (3 + k) 1)))) vp01 dL_errorCountAgain_8 (fun H locs hP hD hS => ?_)
    refine lv_goto (tgt := 15) hx hb dL_errorCountAgain_9 (by decide) ?_
    refine lv_iconst (v := 0) hx hb dL_errorCountAgain_15 (by decide) ?_
    exact W.iret (v := 0) hx hb hr (fun T9 hT9 _ => ⟨by rw [hthr]; rfl, hS.F hT9, Or.inl ⟨hthr, by rw [hT9]; exact wTail hP, by rw [hT9]; exact wHead hP⟩⟩) hS.2.2 dL_errorCountAgain_16
set_option maxHeartbeats 4000000 in
set_option maxRecDepth 100000 in
theorem c_L_duration (l : Launch) (D : va_G) (ad : Nat → Nat) (cy : Nat → ClassId) (pm : Nat → Nat) (rj : Option Nat) (σ : Nat → Nat → Int32) (xq : Nat → Nat) (hst : l.stackTraces = false) (sz : Nat) (hi : sp_inj ad 459) (id : Int32) (cl cd : ClassId) (qo : Nat) (f : Nat → Int64) (g : Nat → UInt64) : Met l yL_duration wsL_duration ({ frames := 8, cells := 3, slots := 18, locals := 136 } : Room) (wPc xq ad D cy cl cd sz [.ref (ad 429), .int (id), .ref qo] (cW ad cy pm rj σ) qo (eL cl f) (fun _ => True)) (wQ ((f_xTrack σ id).or (atO (f_findTrack σ id) none (fun k => (f_xFound (f_inPlace σ k 0)).or (f_xFound (f_inPlace σ k (f_countPrints σ k - 1)))))) [eIOO, eNSE] D qo (eL cl f) (eL cl (vp_updL f (0 : Int32).toNatClampNeg (Int32.toInt64 (atO (f_findTrack σ id) 0 (fun k => atO (f_inPlace σ k 0) 0 (fun a => atO (f_inPlace σ k (f_countPrints σ k - 1)) 0 (fun b => σ (9 + b) 3 - σ (9 + a) 3))))))) (cW ad cy (pm) (rj) (σ)) (sp_B D ad cy (pm) (σ) sz rj) (wA ad qo sz)) 3 18 (wA ad qo sz) := by
  refine va_MetW (cc := cL_duration) (maxL := 4) (ret := (some .int)) (by decide) rfl ?_
  intro p e s m args below meth c s₁ B hml hv
  obtain ⟨rfl, hsz, hP, hO, hK, hE, hNC, hqa, hZ⟩ := hv
  have hx := B.exec
  have hb := B.bytes
  have hr := B.returns
  have hts := atoms_spec (ws := wsL_duration) B.pre
  have hown : s.vm.findClass RL = some m.cls := findClass_of_methodNamed B.named
  have ht := vx_table (x := yL_duration) B (hts _ (List.mem_of_getElem? (i := 0) rfl))
  subst hsz
  have hqo : qo < s.heap.size := hO.lt
  have hqz := wNot hqa hqo
  have hS : va_S (wA ad qo s.heap.size) s.heap s.heap [] := va_S.rf
  have hKg := hK.sub (tys' := tyG cy) [0, 1, 2, 3, 4, 5] rfl
  have hXI : XI [eIOO, eNSE] ((f_xTrack σ id).or (atO (f_findTrack σ id) none (fun k => (f_xFound (f_inPlace σ k 0)).or (f_xFound (f_inPlace σ k (f_countPrints σ k - 1)))))) := XI.or (XI.ft List.mem_cons_self) (XI.at (fun k => XI.or (XI.ff (List.mem_cons_of_mem _ List.mem_cons_self)) (XI.ff (List.mem_cons_of_mem _ List.mem_cons_self))))
  have hl := lv_entry ([.ref (ad 429), .int (id), .ref qo]) (n := 4) (Nat.le_of_ble_eq_true rfl)
  refine W.eq (lg_entry_eq _ ([.ref (ad 429), .int (id), .ref qo]) _) ?_
  generalize (lg_sl ([.ref (ad 429), .int (id), .ref qo]) ++ List.replicate (4 - (lg_sl ([.ref (ad 429), .int (id), .ref qo])).length) Slot.unset).toArray = ls at hl ⊢
  have hl : lv_has ls 4 [(0, .ref (ad 429)), (1, .int (id)), (2, .ref qo)] := hl
  refine lv_aload_n hx hb dL_duration_0 rfl (lv_at hl 2 rfl) ?_
  refine lv_iconst (v := 0) hx hb dL_duration_1 (by decide) ?_
  refine lv_aload_n hx hb dL_duration_2 rfl (lv_at hl 0 rfl) ?_
  refine lv_iload_n hx hb dL_duration_3 rfl (lv_at hl 1 rfl) ?_
  refine sp_callx (vx_runV (As := [.int (id)]) (rest := [.int 0, .ref qo]) ⟨hx, hb, hml, hown, hts⟩ (c_X9_duration l D ad cy pm rj σ xq hst _ hi id) (cwV 1 hts gL_duration_X9_duration rfl rfl rfl (by decide +kernel) ⟨Nat.le_of_ble_eq_true rfl, Nat.le_of_ble_eq_true rfl⟩) (sp_preVmx hKg hP hE (κ := 429) (by decide) cE_sp rfl) rfl rfl hl.1 rfl (lv_room (Nat.le_of_ble_eq_true rfl)) dL_duration_4 ⟨Nat.le_of_ble_eq_true rfl, Nat.le_of_ble_eq_true rfl⟩) hS (fun q _ h => Or.inl h) (fun q h => Or.inl h) (fun E_x r_x ce q9 H locs hthr hB hle hfr hS hce hcv hcl => ?_) (fun hthr H locs hP hle hfr hS => ?_)
  · have hO : va_at D vwCl (qo, eL cl f) H := hO.kept (hfr qo hqo hqz)
    have hmem := hXI E_x r_x hthr
    rcases List.mem_cons.mp hmem with rfl | hmem
    · refine vx_catch (name := "java/lang/IndexOutOfBoundsException") hown ([]) (⟨0, 9, 12, 20⟩ : ExceptionTableEntry) (tableOf [(0, 9, 15, 77)]) (by rw [ht]; rfl) (fun z hz => absurd hz List.not_mem_nil) (by decide) (by decide) (hts _ (List.mem_of_getElem? (i := 1) rfl)) (va_Nw.use rfl hE.k0) hce hcv hcl ?_
      refine lv_astore_n (lv' := [(3, .ref q9), (0, .ref (ad 429)), (1, .int (id)), (2, .ref qo)]) hx hb dL_duration_12 rfl hl (by decide) rfl (fun ls hl => ?_)
      refine lv_iconst (v := 1) hx hb dL_duration_13 (by decide) ?_
      exact W.iret (v := 1) hx hb hr (fun T9 hT9 _ => ⟨by rw [hthr]; exact congrArg (fun z9 => Outcome.returned (some (Value.int z9))) (kC_1).symm, hS.F hT9, Or.inr ⟨_, r_x, hthr, by rw [hT9]; exact hB, by rw [hT9]; exact hO⟩⟩) hS.2.2 dL_duration_14
    · skip
      obtain rfl := List.mem_singleton.mp hmem
      refine vx_catch (name := "java/util/NoSuchElementException") hown (tableOf [(0, 9, 12, 20)]) (⟨0, 9, 15, 77⟩ : ExceptionTableEntry) (tableOf []) (by rw [ht]; rfl) (fun z hz => ((fun h9 => (List.mem_cons.mp h9).elim (fun e9 => by (subst e9; exact Or.inr ⟨by decide, "java/lang/IndexOutOfBoundsException", hts _ (List.mem_of_getElem? (i := 1) rfl), hNC _ _ (by decide +kernel) (by decide +kernel) (by decide +kernel)⟩)) (fun h9 => absurd h9 List.not_mem_nil)) : z ∈ tableOf [(0, 9, 12, 20)] → covers z 4 = false ∨ (z.catchType ≠ 0 ∧ ∃ nm : String, (Cond.classLink RL z.catchType nm).before _ s = true ∧ va_Nc eNSE nm s)) hz) (by decide) (by decide) (hts _ (List.mem_of_getElem? (i := 2) rfl)) (va_Nw.use rfl hE.k3) hce hcv hcl ?_
      refine lv_astore_n (lv' := [(3, .ref q9), (0, .ref (ad 429)), (1, .int (id)), (2, .ref qo)]) hx hb dL_duration_15 rfl hl (by decide) rfl (fun ls hl => ?_)
      refine lv_iconst (v := 2) hx hb dL_duration_16 (by decide) ?_
      exact W.iret (v := 2) hx hb hr (fun T9 hT9 _ => ⟨by rw [hthr]; exact congrArg (fun z9 => Outcome.returned (some (Value.int z9))) (kC_2 (by decide +kernel)).symm, hS.F hT9, Or.inr ⟨_, r_x, hthr, by rw [hT9]; exact hB, by rw [hT9]; exact hO⟩⟩) hS.2.2 dL_duration_17
  · have hO : va_at D vwCl (qo, eL cl f) H := hO.kept (hfr qo hqo hqz)
    have hPq := wCons hO hP
    have hDq : va_D (wA ad qo s.heap.size) ((qo, eL cl f) :: cW ad cy (pm) (rj) (σ)) := wApart hi hqa (Or.inr rfl) (fun k hk => Or.inl (Or.inl ⟨k, hk, rfl⟩))
    refine W.eq (g2 := F0 m 7 ls [.int (atO (f_findTrack σ id) 0 (fun k => atO (f_inPlace σ k 0) 0 (fun a => atO (f_inPlace σ k (f_countPrints σ k - 1)) 0 (fun b => σ (9 + b) 3 - σ (9 + a) 3)))), .int 0, .ref qo]) rfl ?_
    refine lv_i2l (v := Int32.toInt64 (atO (f_findTrack σ id) 0 (fun k => atO (f_inPlace σ k 0) 0 (fun a => atO (f_inPlace σ k (f_countPrints σ k - 1)) 0 (fun b => σ (9 + b) 3 - σ (9 + a) 3))))) hx hb dL_duration_7 rfl ?_
    refine va_last hx hb hK hPq hDq hS 0 6 rfl rfl (i := 0) (x := Int32.toInt64 (atO (f_findTrack σ id) 0 (fun k => atO (f_inPlace σ k 0) 0 (fun a => atO (f_inPlace σ k (f_countPrints σ k - 1)) 0 (fun b => σ (9 + b) 3 - σ (9 + a) 3))))) vp01 dL_duration_8 (fun H locs hP hD hS => ?_)
    refine lv_goto (tgt := 18) hx hb dL_duration_9 (by decide) ?_
    refine lv_iconst (v := 0) hx hb dL_duration_18 (by decide) ?_
    exact W.iret (v := 0) hx hb hr (fun T9 hT9 _ => ⟨by rw [hthr]; rfl, hS.F hT9, Or.inl ⟨hthr, by rw [hT9]; exact wTail hP, by rw [hT9]; exact wHead hP⟩⟩) hS.2.2 dL_duration_19
set_option maxHeartbeats 4000000 in
set_option maxRecDepth 100000 in
theorem c_L_averageStride (l : Launch) (D : va_G) (ad : Nat → Nat) (cy : Nat → ClassId) (pm : Nat → Nat) (rj : Option Nat) (σ : Nat → Nat → Int32) (xq : Nat → Nat) (hst : l.stackTraces = false) (sz : Nat) (hi : sp_inj ad 459) (id : Int32) (hd : ∀ k, f_findTrack σ id = some k → ¬ f_countPrints σ k - 1 < 1 → vf_n64 (FP.ddiv (FP.i2d (f_len σ k)) (FP.i2d (f_countPrints σ k - 1)))) (cl cd : ClassId) (qo : Nat) (f : Nat → Int64) (g : Nat → UInt64) : Met l yL_averageStride wsL_averageStride ({ frames := 8, cells := 2, slots := 12, locals := 135 } : Room) (wPc xq ad D cy cl cd sz [.ref (ad 429), .int (id), .ref qo] (cW ad cy pm rj σ) qo (eD cd g) (fun _ => True)) (wQ ((f_xTrack σ id).or (atO (f_findTrack σ id) none (fun k => if f_countPrints σ k - 1 < 1 then some (eARE, none) else none))) [eIOO, eARE] D qo (eD cd g) (eD cd (vf_upd g (0 : Int32).toNatClampNeg (atO (f_findTrack σ id) 0 (fun k => FP.ddiv (FP.i2d (f_len σ k)) (FP.i2d (f_countPrints σ k - 1)))))) (cW ad cy (pm) (rj) (σ)) (sp_B D ad cy (pm) (σ) sz rj) (wA ad qo sz)) 2 12 (wA ad qo sz) := by
  refine va_MetW (cc := cL_averageStride) (maxL := 4) (ret := (some .int)) (by decide) rfl ?_
  intro p e s m args below meth c s₁ B hml hv
  obtain ⟨rfl, hsz, hP, hO, hK, hE, hNC, hqa, hZ⟩ := hv
  have hx := B.exec
  have hb := B.bytes
  have hr := B.returns
  have hts := atoms_spec (ws := wsL_averageStride) B.pre
  have hown : s.vm.findClass RL = some m.cls := findClass_of_methodNamed B.named
  have ht := vx_table (x := yL_averageStride) B (hts _ (List.mem_of_getElem? (i := 0) rfl))
  subst hsz
  have hqo : qo < s.heap.size := hO.lt
  have hqz := wNot hqa hqo
  have hS : va_S (wA ad qo s.heap.size) s.heap s.heap [] := va_S.rf
  have hKg := hK.sub (tys' := tyG cy) [0, 1, 2, 3, 4, 5] rfl
  have hXI : XI [eIOO, eARE] ((f_xTrack σ id).or (atO (f_findTrack σ id) none (fun k => if f_countPrints σ k - 1 < 1 then some (eARE, none) else none))) := XI.or (XI.ft List.mem_cons_self) (XI.at (fun k => XI.ite (XI.of (List.mem_cons_of_mem _ List.mem_cons_self)) XI.no))
  have hl := lv_entry ([.ref (ad 429), .int (id), .ref qo]) (n := 4) (Nat.le_of_ble_eq_true rfl)
  refine W.eq (lg_entry_eq _ ([.ref (ad 429), .int (id), .ref qo]) _) ?_
  generalize (lg_sl ([.ref (ad 429), .int (id), .ref qo]) ++ List.replicate (4 - (lg_sl ([.ref (ad 429), .int (id), .ref qo])).length) Slot.unset).toArray = ls at hl ⊢
  have hl : lv_has ls 4 [(0, .ref (ad 429)), (1, .int (id)), (2, .ref qo)] := hl
  refine lv_aload_n hx hb dL_averageStride_0 rfl (lv_at hl 2 rfl) ?_
  refine lv_iconst (v := 0) hx hb dL_averageStride_1 (by decide) ?_
  refine lv_aload_n hx hb dL_averageStride_2 rfl (lv_at hl 0 rfl) ?_
  refine lv_iload_n hx hb dL_averageStride_3 rfl (lv_at hl 1 rfl) ?_
  refine sp_callx (vx_runV (As := [.int (id)]) (rest := [.int 0, .ref qo]) ⟨hx, hb, hml, hown, hts⟩ (c_X9_averageStride l D ad cy pm rj σ xq hst _ hi id hd) (cwV 1 hts gL_averageStride_X9_averageStride rfl rfl rfl (by decide +kernel) ⟨Nat.le_of_ble_eq_true rfl, Nat.le_of_ble_eq_true rfl⟩) (sp_preVmx hKg hP hE (κ := 429) (by decide) cE_sp rfl) rfl rfl hl.1 rfl (lv_room (Nat.le_of_ble_eq_true rfl)) dL_averageStride_4 ⟨Nat.le_of_ble_eq_true rfl, Nat.le_of_ble_eq_true rfl⟩) hS (fun q _ h => Or.inl h) (fun q h => Or.inl h) (fun E_x r_x ce q9 H locs hthr hB hle hfr hS hce hcv hcl => ?_) (fun hthr H locs hP hle hfr hS => ?_)
  · have hO : va_at D vwCl (qo, eD cd g) H := hO.kept (hfr qo hqo hqz)
    have hmem := hXI E_x r_x hthr
    rcases List.mem_cons.mp hmem with rfl | hmem
    · refine vx_catch (name := "java/lang/IndexOutOfBoundsException") hown ([]) (⟨0, 8, 11, 20⟩ : ExceptionTableEntry) (tableOf [(0, 8, 14, 122)]) (by rw [ht]; rfl) (fun z hz => absurd hz List.not_mem_nil) (by decide) (by decide) (hts _ (List.mem_of_getElem? (i := 1) rfl)) (va_Nw.use rfl hE.k0) hce hcv hcl ?_
      refine lv_astore_n (lv' := [(3, .ref q9), (0, .ref (ad 429)), (1, .int (id)), (2, .ref qo)]) hx hb dL_averageStride_11 rfl hl (by decide) rfl (fun ls hl => ?_)
      refine lv_iconst (v := 1) hx hb dL_averageStride_12 (by decide) ?_
      exact W.iret (v := 1) hx hb hr (fun T9 hT9 _ => ⟨by rw [hthr]; exact congrArg (fun z9 => Outcome.returned (some (Value.int z9))) (kC_1).symm, hS.F hT9, Or.inr ⟨_, r_x, hthr, by rw [hT9]; exact hB, by rw [hT9]; exact hO⟩⟩) hS.2.2 dL_averageStride_13
    · skip
      obtain rfl := List.mem_singleton.mp hmem
      refine vx_catch (name := "java/lang/ArithmeticException") hown (tableOf [(0, 8, 11, 20)]) (⟨0, 8, 14, 122⟩ : ExceptionTableEntry) (tableOf []) (by rw [ht]; rfl) (fun z hz => ((fun h9 => (List.mem_cons.mp h9).elim (fun e9 => by (subst e9; exact Or.inr ⟨by decide, "java/lang/IndexOutOfBoundsException", hts _ (List.mem_of_getElem? (i := 1) rfl), hNC _ _ (by decide +kernel) (by decide +kernel) (by decide +kernel)⟩)) (fun h9 => absurd h9 List.not_mem_nil)) : z ∈ tableOf [(0, 8, 11, 20)] → covers z 4 = false ∨ (z.catchType ≠ 0 ∧ ∃ nm : String, (Cond.classLink RL z.catchType nm).before _ s = true ∧ va_Nc eARE nm s)) hz) (by decide) (by decide) (hts _ (List.mem_of_getElem? (i := 2) rfl)) (va_Nw.use rfl hE.k4) hce hcv hcl ?_
      refine lv_astore_n (lv' := [(3, .ref q9), (0, .ref (ad 429)), (1, .int (id)), (2, .ref qo)]) hx hb dL_averageStride_14 rfl hl (by decide) rfl (fun ls hl => ?_)
      refine lv_iconst (v := 2) hx hb dL_averageStride_15 (by decide) ?_
      exact W.iret (v := 2) hx hb hr (fun T9 hT9 _ => ⟨by rw [hthr]; exact congrArg (fun z9 => Outcome.returned (some (Value.int z9))) (kC_2 (by decide +kernel)).symm, hS.F hT9, Or.inr ⟨_, r_x, hthr, by rw [hT9]; exact hB, by rw [hT9]; exact hO⟩⟩) hS.2.2 dL_averageStride_16
  · have hO : va_at D vwCl (qo, eD cd g) H := hO.kept (hfr qo hqo hqz)
    have hPq := wCons hO hP
    have hDq : va_D (wA ad qo s.heap.size) ((qo, eD cd g) :: cW ad cy (pm) (rj) (σ)) := wApart hi hqa (Or.inr rfl) (fun k hk => Or.inl (Or.inl ⟨k, hk, rfl⟩))
    refine W.eq (g2 := F0 m 7 ls [.double (atO (f_findTrack σ id) 0 (fun k => FP.ddiv (FP.i2d (f_len σ k)) (FP.i2d (f_countPrints σ k - 1)))), .int 0, .ref qo]) rfl ?_
    refine va_dast hx hb hK hPq hDq hS 0 7 rfl rfl (i := 0) (x := atO (f_findTrack σ id) 0 (fun k => FP.ddiv (FP.i2d (f_len σ k)) (FP.i2d (f_countPrints σ k - 1)))) vp01 dL_averageStride_7 (fun H locs hP hD hS => ?_)
    refine lv_goto (tgt := 17) hx hb dL_averageStride_8 (by decide) ?_
    refine lv_iconst (v := 0) hx hb dL_averageStride_17 (by decide) ?_
    exact W.iret (v := 0) hx hb hr (fun T9 hT9 _ => ⟨by rw [hthr]; rfl, hS.F hT9, Or.inl ⟨hthr, by rw [hT9]; exact wTail hP, by rw [hT9]; exact wHead hP⟩⟩) hS.2.2 dL_averageStride_18
set_option maxHeartbeats 4000000 in
set_option maxRecDepth 100000 in
theorem c_L_errorsIfMoved (l : Launch) (D : va_G) (ad : Nat → Nat) (cy : Nat → ClassId) (pm : Nat → Nat) (rj : Option Nat) (σ : Nat → Nat → Int32) (xq : Nat → Nat) (hst : l.stackTraces = false) (sz : Nat) (hi : sp_inj ad 459) (id : Int32) (r : Int32) (c1 : Int32) (cl cd : ClassId) (qo : Nat) (f : Nat → Int64) (g : Nat → UInt64) : Met l yL_errorsIfMoved wsL_errorsIfMoved ({ frames := 8, cells := 2, slots := 12, locals := 144 } : Room) (wPc xq ad D cy cl cd sz [.ref (ad 429), .int (id), .int (r), .int (c1), .ref qo] (cW ad cy pm rj σ) qo (eL cl f) (fun _ => True)) (wQ ((f_xPrint σ id).or (f_xCell r c1)) [eIOO] D qo (eL cl f) (eL cl (vp_updL f (0 : Int32).toNatClampNeg (Int32.toInt64 (atO (f_findPrint σ id) 0 (fun k => f_errsW σ k r c1))))) (cW ad cy (pm) (rj) (σ)) (sp_B D ad cy (pm) (σ) sz rj) (wA ad qo sz)) 2 12 (wA ad qo sz) := by
  refine va_MetW (cc := cL_errorsIfMoved) (maxL := 6) (ret := (some .int)) (by decide) rfl ?_
  intro p e s m args below meth c s₁ B hml hv
  obtain ⟨rfl, hsz, hP, hO, hK, hE, hNC, hqa, hZ⟩ := hv
  have hx := B.exec
  have hb := B.bytes
  have hr := B.returns
  have hts := atoms_spec (ws := wsL_errorsIfMoved) B.pre
  have hown : s.vm.findClass RL = some m.cls := findClass_of_methodNamed B.named
  have ht := vx_table (x := yL_errorsIfMoved) B (hts _ (List.mem_of_getElem? (i := 0) rfl))
  subst hsz
  have hqo : qo < s.heap.size := hO.lt
  have hqz := wNot hqa hqo
  have hS : va_S (wA ad qo s.heap.size) s.heap s.heap [] := va_S.rf
  have hKg := hK.sub (tys' := tyG cy) [0, 1, 2, 3, 4, 5] rfl
  have hXI : XI [eIOO] ((f_xPrint σ id).or (f_xCell r c1)) := XI.or (XI.fp List.mem_cons_self) (XI.fc List.mem_cons_self)
  have hl := lv_entry ([.ref (ad 429), .int (id), .int (r), .int (c1), .ref qo]) (n := 6) (Nat.le_of_ble_eq_true rfl)
  refine W.eq (lg_entry_eq _ ([.ref (ad 429), .int (id), .int (r), .int (c1), .ref qo]) _) ?_
  generalize (lg_sl ([.ref (ad 429), .int (id), .int (r), .int (c1), .ref qo]) ++ List.replicate (6 - (lg_sl ([.ref (ad 429), .int (id), .int (r), .int (c1), .ref qo])).length) Slot.unset).toArray = ls at hl ⊢
  have hl : lv_has ls 6 [(0, .ref (ad 429)), (1, .int (id)), (2, .int (r)), (3, .int (c1)), (4, .ref qo)] := hl
  refine lv_aload hx hb dL_errorsIfMoved_0 (lv_at hl 4 rfl) ?_
  refine lv_iconst (v := 0) hx hb dL_errorsIfMoved_2 (by decide) ?_
  refine lv_aload_n hx hb dL_errorsIfMoved_3 rfl (lv_at hl 0 rfl) ?_
  refine lv_iload_n hx hb dL_errorsIfMoved_4 rfl (lv_at hl 1 rfl) ?_
  refine lv_iload_n hx hb dL_errorsIfMoved_5 rfl (lv_at hl 2 rfl) ?_
  refine lv_iload_n hx hb dL_errorsIfMoved_6 rfl (lv_at hl 3 rfl) ?_
  refine sp_callx (vx_runV (As := [.int (id), .int (r), .int (c1)]) (rest := [.int 0, .ref qo]) ⟨hx, hb, hml, hown, hts⟩ (c_X9_errorsIfMoved l D ad cy pm rj σ xq hst _ hi id r c1) (cwV 3 hts gL_errorsIfMoved_X9_errorsIfMoved rfl rfl rfl (by decide +kernel) ⟨Nat.le_of_ble_eq_true rfl, Nat.le_of_ble_eq_true rfl⟩) (sp_preVmx hKg hP hE (κ := 429) (by decide) cE_sp rfl) rfl rfl hl.1 rfl (lv_room (Nat.le_of_ble_eq_true rfl)) dL_errorsIfMoved_7 ⟨Nat.le_of_ble_eq_true rfl, Nat.le_of_ble_eq_true rfl⟩) hS (fun q _ h => Or.inl h) (fun q h => Or.inl h) (fun E_x r_x ce q9 H locs hthr hB hle hfr hS hce hcv hcl => ?_) (fun hthr H locs hP hle hfr hS => ?_)
  · have hO : va_at D vwCl (qo, eL cl f) H := hO.kept (hfr qo hqo hqz)
    have hmem := hXI E_x r_x hthr
    obtain rfl := List.mem_singleton.mp hmem
    refine vx_catch (name := "java/lang/IndexOutOfBoundsException") hown ([]) (⟨0, 12, 15, 20⟩ : ExceptionTableEntry) (tableOf []) (by rw [ht]; rfl) (fun z hz => absurd hz List.not_mem_nil) (by decide) (by decide) (hts _ (List.mem_of_getElem? (i := 1) rfl)) (va_Nw.use rfl hE.k0) hce hcv hcl ?_
    refine lv_astore (lv' := [(5, .ref q9), (0, .ref (ad 429)), (1, .int (id)), (2, .int (r)), (3, .int (c1)), (4, .ref qo)]) hx hb dL_errorsIfMoved_15 hl (by decide) rfl (fun ls hl => ?_)
    refine lv_iconst (v := 1) hx hb dL_errorsIfMoved_17 (by decide) ?_
    exact W.iret (v := 1) hx hb hr (fun T9 hT9 _ => ⟨by rw [hthr]; exact congrArg (fun z9 => Outcome.returned (some (Value.int z9))) (kC_1).symm, hS.F hT9, Or.inr ⟨_, r_x, hthr, by rw [hT9]; exact hB, by rw [hT9]; exact hO⟩⟩) hS.2.2 dL_errorsIfMoved_18
  · have hO : va_at D vwCl (qo, eL cl f) H := hO.kept (hfr qo hqo hqz)
    have hPq := wCons hO hP
    have hDq : va_D (wA ad qo s.heap.size) ((qo, eL cl f) :: cW ad cy (pm) (rj) (σ)) := wApart hi hqa (Or.inr rfl) (fun k hk => Or.inl (Or.inl ⟨k, hk, rfl⟩))
    refine W.eq (g2 := F0 m 10 ls [.int (atO (f_findPrint σ id) 0 (fun k => f_errsW σ k r c1)), .int 0, .ref qo]) rfl ?_
    refine lv_i2l (v := Int32.toInt64 (atO (f_findPrint σ id) 0 (fun k => f_errsW σ k r c1))) hx hb dL_errorsIfMoved_10 rfl ?_
    refine va_last hx hb hK hPq hDq hS 0 6 rfl rfl (i := 0) (x := Int32.toInt64 (atO (f_findPrint σ id) 0 (fun k => f_errsW σ k r c1))) vp01 dL_errorsIfMoved_11 (fun H locs hP hD hS => ?_)
    refine lv_goto (tgt := 19) hx hb dL_errorsIfMoved_12 (by decide) ?_
    refine lv_iconst (v := 0) hx hb dL_errorsIfMoved_19 (by decide) ?_
    exact W.iret (v := 0) hx hb hr (fun T9 hT9 _ => ⟨by rw [hthr]; rfl, hS.F hT9, Or.inl ⟨hthr, by rw [hT9]; exact wTail hP, by rw [hT9]; exact wHead hP⟩⟩) hS.2.2 dL_errorsIfMoved_20
set_option maxHeartbeats 4000000 in
set_option maxRecDepth 100000 in
theorem c_L_canMove (l : Launch) (D : va_G) (ad : Nat → Nat) (cy : Nat → ClassId) (pm : Nat → Nat) (rj : Option Nat) (σ : Nat → Nat → Int32) (xq : Nat → Nat) (hst : l.stackTraces = false) (sz : Nat) (hi : sp_inj ad 459) (id : Int32) (r : Int32) (c1 : Int32) (cl cd : ClassId) (qo : Nat) (f : Nat → Int64) (g : Nat → UInt64) : Met l yL_canMove wsL_canMove ({ frames := 8, cells := 3, slots := 15, locals := 136 } : Room) (wPc xq ad D cy cl cd sz [.ref (ad 429), .int (id), .int (r), .int (c1), .ref qo] (cW ad cy pm rj σ) qo (eL cl f) (fun _ => True)) (wQ ((f_xPrint σ id).or (f_xCell r c1)) [eIOO] D qo (eL cl f) (eL cl (vp_updL f (0 : Int32).toNatClampNeg (Int32.toInt64 (b2i (atO (f_findPrint σ id) false (fun k => (f_objMove σ k r c1).isNone)))))) (cW ad cy (pm) (rj) (σ)) (sp_B D ad cy (pm) (σ) sz rj) (wA ad qo sz)) 3 15 (wA ad qo sz) := by
  refine va_MetW (cc := cL_canMove) (maxL := 6) (ret := (some .int)) (by decide) rfl ?_
  intro p e s m args below meth c s₁ B hml hv
  obtain ⟨rfl, hsz, hP, hO, hK, hE, hNC, hqa, hZ⟩ := hv
  have hx := B.exec
  have hb := B.bytes
  have hr := B.returns
  have hts := atoms_spec (ws := wsL_canMove) B.pre
  have hown : s.vm.findClass RL = some m.cls := findClass_of_methodNamed B.named
  have ht := vx_table (x := yL_canMove) B (hts _ (List.mem_of_getElem? (i := 0) rfl))
  subst hsz
  have hqo : qo < s.heap.size := hO.lt
  have hqz := wNot hqa hqo
  have hS : va_S (wA ad qo s.heap.size) s.heap s.heap [] := va_S.rf
  have hKg := hK.sub (tys' := tyG cy) [0, 1, 2, 3, 4, 5] rfl
  have hXI : XI [eIOO] ((f_xPrint σ id).or (f_xCell r c1)) := XI.or (XI.fp List.mem_cons_self) (XI.fc List.mem_cons_self)
  have hl := lv_entry ([.ref (ad 429), .int (id), .int (r), .int (c1), .ref qo]) (n := 6) (Nat.le_of_ble_eq_true rfl)
  refine W.eq (lg_entry_eq _ ([.ref (ad 429), .int (id), .int (r), .int (c1), .ref qo]) _) ?_
  generalize (lg_sl ([.ref (ad 429), .int (id), .int (r), .int (c1), .ref qo]) ++ List.replicate (6 - (lg_sl ([.ref (ad 429), .int (id), .int (r), .int (c1), .ref qo])).length) Slot.unset).toArray = ls at hl ⊢
  have hl : lv_has ls 6 [(0, .ref (ad 429)), (1, .int (id)), (2, .int (r)), (3, .int (c1)), (4, .ref qo)] := hl
  refine lv_aload hx hb dL_canMove_0 (lv_at hl 4 rfl) ?_
  refine lv_iconst (v := 0) hx hb dL_canMove_2 (by decide) ?_
  refine lv_aload_n hx hb dL_canMove_3 rfl (lv_at hl 0 rfl) ?_
  refine lv_iload_n hx hb dL_canMove_4 rfl (lv_at hl 1 rfl) ?_
  refine lv_iload_n hx hb dL_canMove_5 rfl (lv_at hl 2 rfl) ?_
  refine lv_iload_n hx hb dL_canMove_6 rfl (lv_at hl 3 rfl) ?_
  refine sp_callx (vx_runV (As := [.int (id), .int (r), .int (c1)]) (rest := [.int 0, .ref qo]) ⟨hx, hb, hml, hown, hts⟩ (c_X9_canMove l D ad cy pm rj σ xq hst _ hi id r c1) (cwV 3 hts gL_canMove_X9_canMove rfl rfl rfl (by decide +kernel) ⟨Nat.le_of_ble_eq_true rfl, Nat.le_of_ble_eq_true rfl⟩) (sp_preVmx hKg hP hE (κ := 429) (by decide) cE_sp rfl) rfl rfl hl.1 rfl (lv_room (Nat.le_of_ble_eq_true rfl)) dL_canMove_7 ⟨Nat.le_of_ble_eq_true rfl, Nat.le_of_ble_eq_true rfl⟩) hS (fun q _ h => Or.inl h) (fun q h => Or.inl h) (fun E_x r_x ce q9 H locs hthr hB hle hfr hS hce hcv hcl => ?_) (fun hthr H locs hP hle hfr hS => ?_)
  · have hO : va_at D vwCl (qo, eL cl f) H := hO.kept (hfr qo hqo hqz)
    have hmem := hXI E_x r_x hthr
    obtain rfl := List.mem_singleton.mp hmem
    refine vx_catch (name := "java/lang/IndexOutOfBoundsException") hown ([]) (⟨0, 19, 22, 20⟩ : ExceptionTableEntry) (tableOf []) (by rw [ht]; rfl) (fun z hz => absurd hz List.not_mem_nil) (by decide) (by decide) (hts _ (List.mem_of_getElem? (i := 1) rfl)) (va_Nw.use rfl hE.k0) hce hcv hcl ?_
    refine lv_astore (lv' := [(5, .ref q9), (0, .ref (ad 429)), (1, .int (id)), (2, .int (r)), (3, .int (c1)), (4, .ref qo)]) hx hb dL_canMove_22 hl (by decide) rfl (fun ls hl => ?_)
    refine lv_iconst (v := 1) hx hb dL_canMove_24 (by decide) ?_
    exact W.iret (v := 1) hx hb hr (fun T9 hT9 _ => ⟨by rw [hthr]; exact congrArg (fun z9 => Outcome.returned (some (Value.int z9))) (kC_1).symm, hS.F hT9, Or.inr ⟨_, r_x, hthr, by rw [hT9]; exact hB, by rw [hT9]; exact hO⟩⟩) hS.2.2 dL_canMove_25
  · have hO : va_at D vwCl (qo, eL cl f) H := hO.kept (hfr qo hqo hqz)
    have hPq := wCons hO hP
    have hDq : va_D (wA ad qo s.heap.size) ((qo, eL cl f) :: cW ad cy (pm) (rj) (σ)) := wApart hi hqa (Or.inr rfl) (fun k hk => Or.inl (Or.inl ⟨k, hk, rfl⟩))
    refine W.eq (g2 := F0 m 10 ls [.int (b2i (atO (f_findPrint σ id) false (fun k => (f_objMove σ k r c1).isNone))), .int 0, .ref qo]) rfl ?_
    refine lv_if_eq (tgt := 17) hx hb dL_canMove_10 (by decide) (fun c_1 => ?_) (fun c_1 => ?_)
    · refine lv_lconst (v := 0) hx hb dL_canMove_17 rfl ?_
      refine W.eq (g2 := F0 m 18 ls [.long (Int32.toInt64 (b2i (atO (f_findPrint σ id) false (fun k => (f_objMove σ k r c1).isNone)))), .int 0, .ref qo]) (by rw [c_1]; rfl) ?_
      refine va_last hx hb hK hPq hDq hS 0 6 rfl rfl (i := 0) (x := Int32.toInt64 (b2i (atO (f_findPrint σ id) false (fun k => (f_objMove σ k r c1).isNone)))) vp01 dL_canMove_18 (fun H locs hP hD hS => ?_)
      refine lv_goto (tgt := 26) hx hb dL_canMove_19 (by decide) ?_
      refine lv_iconst (v := 0) hx hb dL_canMove_26 (by decide) ?_
      exact W.iret (v := 0) hx hb hr (fun T9 hT9 _ => ⟨by rw [hthr]; rfl, hS.F hT9, Or.inl ⟨hthr, by rw [hT9]; exact wTail hP, by rw [hT9]; exact wHead hP⟩⟩) hS.2.2 dL_canMove_27
    · refine lv_lconst (v := 1) hx hb dL_canMove_13 rfl ?_
      refine lv_goto (tgt := 18) hx hb dL_canMove_14 (by decide) ?_
      refine W.eq (g2 := F0 m 18 ls [.long (Int32.toInt64 (b2i (atO (f_findPrint σ id) false (fun k => (f_objMove σ k r c1).isNone)))), .int 0, .ref qo]) (by rw [b01 c_1]; rfl) ?_
      refine va_last hx hb hK hPq hDq hS 0 6 rfl rfl (i := 0) (x := Int32.toInt64 (b2i (atO (f_findPrint σ id) false (fun k => (f_objMove σ k r c1).isNone)))) vp01 dL_canMove_18 (fun H locs hP hD hS => ?_)
      refine lv_goto (tgt := 26) hx hb dL_canMove_19 (by decide) ?_
      refine lv_iconst (v := 0) hx hb dL_canMove_26 (by decide) ?_
      exact W.iret (v := 0) hx hb hr (fun T9 hT9 _ => ⟨by rw [hthr]; rfl, hS.F hT9, Or.inl ⟨hthr, by rw [hT9]; exact wTail hP, by rw [hT9]; exact wHead hP⟩⟩) hS.2.2 dL_canMove_27
set_option maxHeartbeats 4000000 in
set_option maxRecDepth 100000 in
theorem c_L_suggestCell (l : Launch) (D : va_G) (ad : Nat → Nat) (cy : Nat → ClassId) (pm : Nat → Nat) (rj : Option Nat) (σ : Nat → Nat → Int32) (xq : Nat → Nat) (hst : l.stackTraces = false) (sz : Nat) (hi : sp_inj ad 459) (id : Int32) (cl cd : ClassId) (qo : Nat) (f : Nat → Int64) (g : Nat → UInt64) : Met l yL_suggestCell wsL_suggestCell ({ frames := 8, cells := 26, slots := 81, locals := 170 } : Room) (wPc xq ad D cy cl cd sz [.ref (ad 429), .int (id), .ref qo] (cW ad cy pm rj σ) qo (eL cl f) (fun _ => True)) (wQ (f_xPrint σ id) [eIOO] D qo (eL cl f) (eL cl (vp_updL f (0 : Int32).toNatClampNeg (Int32.toInt64 (atO (f_findPrint σ id) 0 (fun k => f_best σ k))))) (cW ad cy (pm) (rj) (σ)) (sp_B D ad cy (pm) (σ) sz rj) (wA ad qo sz)) 26 81 (wA ad qo sz) := by
  refine va_MetW (cc := cL_suggestCell) (maxL := 4) (ret := (some .int)) (by decide) rfl ?_
  intro p e s m args below meth c s₁ B hml hv
  obtain ⟨rfl, hsz, hP, hO, hK, hE, hNC, hqa, hZ⟩ := hv
  have hx := B.exec
  have hb := B.bytes
  have hr := B.returns
  have hts := atoms_spec (ws := wsL_suggestCell) B.pre
  have hown : s.vm.findClass RL = some m.cls := findClass_of_methodNamed B.named
  have ht := vx_table (x := yL_suggestCell) B (hts _ (List.mem_of_getElem? (i := 0) rfl))
  subst hsz
  have hqo : qo < s.heap.size := hO.lt
  have hqz := wNot hqa hqo
  have hS : va_S (wA ad qo s.heap.size) s.heap s.heap [] := va_S.rf
  have hKg := hK.sub (tys' := tyG cy) [0, 1, 2, 3, 4, 5] rfl
  have hXI : XI [eIOO] (f_xPrint σ id) := XI.fp List.mem_cons_self
  have hl := lv_entry ([.ref (ad 429), .int (id), .ref qo]) (n := 4) (Nat.le_of_ble_eq_true rfl)
  refine W.eq (lg_entry_eq _ ([.ref (ad 429), .int (id), .ref qo]) _) ?_
  generalize (lg_sl ([.ref (ad 429), .int (id), .ref qo]) ++ List.replicate (4 - (lg_sl ([.ref (ad 429), .int (id), .ref qo])).length) Slot.unset).toArray = ls at hl ⊢
  have hl : lv_has ls 4 [(0, .ref (ad 429)), (1, .int (id)), (2, .ref qo)] := hl
  refine lv_aload_n hx hb dL_suggestCell_0 rfl (lv_at hl 2 rfl) ?_
  refine lv_iconst (v := 0) hx hb dL_suggestCell_1 (by decide) ?_
  refine lv_aload_n hx hb dL_suggestCell_2 rfl (lv_at hl 0 rfl) ?_
  refine lv_iload_n hx hb dL_suggestCell_3 rfl (lv_at hl 1 rfl) ?_
  refine sp_callx (vx_runV (As := [.int (id)]) (rest := [.int 0, .ref qo]) ⟨hx, hb, hml, hown, hts⟩ (c_X9_suggestCell l D ad cy pm rj σ xq hst _ hi id) (cwV 1 hts gL_suggestCell_X9_suggestCell rfl rfl rfl (by decide +kernel) ⟨Nat.le_of_ble_eq_true rfl, Nat.le_of_ble_eq_true rfl⟩) (sp_preVmx hKg hP hE (κ := 429) (by decide) cE_sp rfl) rfl rfl hl.1 rfl (lv_room (Nat.le_of_ble_eq_true rfl)) dL_suggestCell_4 ⟨Nat.le_of_ble_eq_true rfl, Nat.le_of_ble_eq_true rfl⟩) hS (fun q _ h => Or.inl h) (fun q h => Or.inl h) (fun E_x r_x ce q9 H locs hthr hB hle hfr hS hce hcv hcl => ?_) (fun hthr H locs hP hle hfr hS => ?_)
  · have hO : va_at D vwCl (qo, eL cl f) H := hO.kept (hfr qo hqo hqz)
    have hmem := hXI E_x r_x hthr
    obtain rfl := List.mem_singleton.mp hmem
    refine vx_catch (name := "java/lang/IndexOutOfBoundsException") hown ([]) (⟨0, 9, 12, 20⟩ : ExceptionTableEntry) (tableOf []) (by rw [ht]; rfl) (fun z hz => absurd hz List.not_mem_nil) (by decide) (by decide) (hts _ (List.mem_of_getElem? (i := 1) rfl)) (va_Nw.use rfl hE.k0) hce hcv hcl ?_
    refine lv_astore_n (lv' := [(3, .ref q9), (0, .ref (ad 429)), (1, .int (id)), (2, .ref qo)]) hx hb dL_suggestCell_12 rfl hl (by decide) rfl (fun ls hl => ?_)
    refine lv_iconst (v := 1) hx hb dL_suggestCell_13 (by decide) ?_
    exact W.iret (v := 1) hx hb hr (fun T9 hT9 _ => ⟨by rw [hthr]; exact congrArg (fun z9 => Outcome.returned (some (Value.int z9))) (kC_1).symm, hS.F hT9, Or.inr ⟨_, r_x, hthr, by rw [hT9]; exact hB, by rw [hT9]; exact hO⟩⟩) hS.2.2 dL_suggestCell_14
  · have hO : va_at D vwCl (qo, eL cl f) H := hO.kept (hfr qo hqo hqz)
    have hPq := wCons hO hP
    have hDq : va_D (wA ad qo s.heap.size) ((qo, eL cl f) :: cW ad cy (pm) (rj) (σ)) := wApart hi hqa (Or.inr rfl) (fun k hk => Or.inl (Or.inl ⟨k, hk, rfl⟩))
    refine W.eq (g2 := F0 m 7 ls [.int (atO (f_findPrint σ id) 0 (fun k => f_best σ k)), .int 0, .ref qo]) rfl ?_
    refine lv_i2l (v := Int32.toInt64 (atO (f_findPrint σ id) 0 (fun k => f_best σ k))) hx hb dL_suggestCell_7 rfl ?_
    refine va_last hx hb hK hPq hDq hS 0 6 rfl rfl (i := 0) (x := Int32.toInt64 (atO (f_findPrint σ id) 0 (fun k => f_best σ k))) vp01 dL_suggestCell_8 (fun H locs hP hD hS => ?_)
    refine lv_goto (tgt := 15) hx hb dL_suggestCell_9 (by decide) ?_
    refine lv_iconst (v := 0) hx hb dL_suggestCell_15 (by decide) ?_
    exact W.iret (v := 0) hx hb hr (fun T9 hT9 _ => ⟨by rw [hthr]; rfl, hS.F hT9, Or.inl ⟨hthr, by rw [hT9]; exact wTail hP, by rw [hT9]; exact wHead hP⟩⟩) hS.2.2 dL_suggestCell_16
