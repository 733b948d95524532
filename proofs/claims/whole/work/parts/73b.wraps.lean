set_option maxHeartbeats 4000000 in
set_option maxRecDepth 100000 in
theorem c_L_trackOf (l : Launch) (D : va_G) (ad : Nat → Nat) (cy : Nat → ClassId) (pm : Nat → Nat) (rj : Option Nat) (σ : Nat → Nat → Int32) (xq : Nat → Nat) (hst : l.stackTraces = false) (sz : Nat) (hi : sp_inj ad 459) (id : Int32) (cl cd : ClassId) (qo : Nat) (f : Nat → Int64) (g : Nat → UInt64) : Met l yL_trackOf wsL_trackOf ({ frames := 8, cells := 1, slots := 6, locals := 133 } : Room) (wPc xq ad D cy cl cd sz [.ref (ad 429), .int (id), .ref qo] (cW ad cy pm rj σ) qo (eL cl f) (fun _ => True)) (wQ (f_xPrint σ id) [eIOO] D qo (eL cl f) (eL cl (vp_updL f (0 : Int32).toNatClampNeg (Int32.toInt64 (atO (f_findPrint σ id) 0 (fun k => σ (9 + k) 2))))) (cW ad cy (pm) (rj) (σ)) (sp_B D ad cy (pm) (σ) sz rj) (wA ad qo sz)) 1 6 (wA ad qo sz) := by
  refine va_MetW (cc := cL_trackOf) (maxL := 4) (ret := (some .int)) (by decide) rfl ?_
  intro p e s m args below meth c s₁ B hml hv
  obtain ⟨rfl, hsz, hP, hO, hK, hE, hNC, hqa, hZ⟩ := hv
  have hx := B.exec
  have hb := B.bytes
  have hr := B.returns
  have hts := atoms_spec (ws := wsL_trackOf) B.pre
  have hown : s.vm.findClass RL = some m.cls := findClass_of_methodNamed B.named
  have ht := vx_table (x := yL_trackOf) B (hts _ (List.mem_of_getElem? (i := 0) rfl))
  subst hsz
  have hqo : qo < s.heap.size := hO.lt
  have hqz := wNot hqa hqo
  have hS : va_S (wA ad qo s.heap.size) s.heap s.heap [] := va_S.rf
  have hKg := hK.sub (tys' := tyG cy) [0, 1, 2, 3, 4, 5] rfl
  have hXI : XI [eIOO] (f_xPrint σ id) := XI.fp List.mem_cons_self
  have hl := lv_entry ([.ref (ad 429), .int (id), .ref qo]) (n := 4) (Nat.le_of_ble_eq_true rfl)
  refine W.eq (lg_entry_eq _ ([.ref (ad 429), .int (id), .ref qo]) _) ?_
  generalize (lg_sl ([.ref (ad 429), .int (id), .ref qo]) ++ List.replicate (4 - (lg_sl ([.ref (ad 429), .int (id), .ref qo])).length) Slot.unset).toArray = ls at hl ⊢
  have hl : lv_has ls 4 [(0, .ref (ad 429)), (1, .int (id)), (2, .ref qo)] := hl
  refine lv_aload_n hx hb dL_trackOf_0 rfl (lv_at hl 2 rfl) ?_
  refine lv_iconst (v := 0) hx hb dL_trackOf_1 (by decide) ?_
  refine lv_aload_n hx hb dL_trackOf_2 rfl (lv_at hl 0 rfl) ?_
  refine lv_iload_n hx hb dL_trackOf_3 rfl (lv_at hl 1 rfl) ?_
  refine sp_callx (vx_runV (As := [.int (id)]) (rest := [.int 0, .ref qo]) ⟨hx, hb, hml, hown, hts⟩ (c_X9_trackOf l D ad cy pm rj σ xq hst _ hi id) (cwV 1 hts gL_trackOf_X9_trackOf rfl rfl rfl (by decide +kernel) ⟨Nat.le_of_ble_eq_true rfl, Nat.le_of_ble_eq_true rfl⟩) (sp_preVmx hKg hP hE (κ := 429) (by decide) cE_sp rfl) rfl rfl hl.1 rfl (lv_room (Nat.le_of_ble_eq_true rfl)) dL_trackOf_4 ⟨Nat.le_of_ble_eq_true rfl, Nat.le_of_ble_eq_true rfl⟩) hS (fun q _ h => Or.inl h) (fun q h => Or.inl h) (fun E_x r_x ce q9 H locs hthr hB hle hfr hS hce hcv hcl => ?_) (fun hthr H locs hP hle hfr hS => ?_)
  · have hO : va_at D vwCl (qo, eL cl f) H := hO.kept (hfr qo hqo hqz)
    have hmem := hXI E_x r_x hthr
    obtain rfl := List.mem_singleton.mp hmem
    refine vx_catch (name := "java/lang/IndexOutOfBoundsException") hown ([]) (⟨0, 9, 12, 20⟩ : ExceptionTableEntry) (tableOf []) (by rw [ht]; rfl) (fun z hz => absurd hz List.not_mem_nil) (by decide) (by decide) (hts _ (List.mem_of_getElem? (i := 1) rfl)) (va_Nw.use rfl hE.k0) hce hcv hcl ?_
    refine lv_astore_n (lv' := [(3, .ref q9), (0, .ref (ad 429)), (1, .int (id)), (2, .ref qo)]) hx hb dL_trackOf_12 rfl hl (by decide) rfl (fun ls hl => ?_)
    refine lv_iconst (v := 1) hx hb dL_trackOf_13 (by decide) ?_
    exact W.iret (v := 1) hx hb hr (fun T9 hT9 _ => ⟨by rw [hthr]; exact congrArg (fun z9 => Outcome.returned (some (Value.int z9))) (kC_1).symm, hS.F hT9, Or.inr ⟨_, r_x, hthr, by rw [hT9]; exact hB, by rw [hT9]; exact hO⟩⟩) hS.2.2 dL_trackOf_14
  · have hO : va_at D vwCl (qo, eL cl f) H := hO.kept (hfr qo hqo hqz)
    have hPq := wCons hO hP
    have hDq : va_D (wA ad qo s.heap.size) ((qo, eL cl f) :: cW ad cy (pm) (rj) (σ)) := wApart hi hqa (Or.inr rfl) (fun k hk => Or.inl (Or.inl ⟨k, hk, rfl⟩))
    refine W.eq (g2 := F0 m 7 ls [.int (atO (f_findPrint σ id) 0 (fun k => σ (9 + k) 2)), .int 0, .ref qo]) rfl ?_
    refine lv_i2l (v := Int32.toInt64 (atO (f_findPrint σ id) 0 (fun k => σ (9 + k) 2))) hx hb dL_trackOf_7 rfl ?_
    refine va_last hx hb hK hPq hDq hS 0 6 rfl rfl (i := 0) (x := Int32.toInt64 (atO (f_findPrint σ id) 0 (fun k => σ (9 + k) 2))) vp01 dL_trackOf_8 (fun H locs hP hD hS => ?_)
    refine lv_goto (tgt := 15) hx hb dL_trackOf_9 (by decide) ?_
    refine lv_iconst (v := 0) hx hb dL_trackOf_15 (by decide) ?_
    exact W.iret (v := 0) hx hb hr (fun T9 hT9 _ => ⟨by rw [hthr]; rfl, hS.F hT9, Or.inl ⟨hthr, by rw [hT9]; exact wTail hP, by rw [hT9]; exact wHead hP⟩⟩) hS.2.2 dL_trackOf_16
set_option maxHeartbeats 4000000 in
set_option maxRecDepth 100000 in
theorem c_L_timeOf (l : Launch) (D : va_G) (ad : Nat → Nat) (cy : Nat → ClassId) (pm : Nat → Nat) (rj : Option Nat) (σ : Nat → Nat → Int32) (xq : Nat → Nat) (hst : l.stackTraces = false) (sz : Nat) (hi : sp_inj ad 459) (id : Int32) (cl cd : ClassId) (qo : Nat) (f : Nat → Int64) (g : Nat → UInt64) : Met l yL_timeOf wsL_timeOf ({ frames := 8, cells := 1, slots := 6, locals := 133 } : Room) (wPc xq ad D cy cl cd sz [.ref (ad 429), .int (id), .ref qo] (cW ad cy pm rj σ) qo (eL cl f) (fun _ => True)) (wQ (f_xPrint σ id) [eIOO] D qo (eL cl f) (eL cl (vp_updL f (0 : Int32).toNatClampNeg (Int32.toInt64 (atO (f_findPrint σ id) 0 (fun k => σ (9 + k) 3))))) (cW ad cy (pm) (rj) (σ)) (sp_B D ad cy (pm) (σ) sz rj) (wA ad qo sz)) 1 6 (wA ad qo sz) := by
  refine va_MetW (cc := cL_timeOf) (maxL := 4) (ret := (some .int)) (by decide) rfl ?_
  intro p e s m args below meth c s₁ B hml hv
  obtain ⟨rfl, hsz, hP, hO, hK, hE, hNC, hqa, hZ⟩ := hv
  have hx := B.exec
  have hb := B.bytes
  have hr := B.returns
  have hts := atoms_spec (ws := wsL_timeOf) B.pre
  have hown : s.vm.findClass RL = some m.cls := findClass_of_methodNamed B.named
  have ht := vx_table (x := yL_timeOf) B (hts _ (List.mem_of_getElem? (i := 0) rfl))
  subst hsz
  have hqo : qo < s.heap.size := hO.lt
  have hqz := wNot hqa hqo
  have hS : va_S (wA ad qo s.heap.size) s.heap s.heap [] := va_S.rf
  have hKg := hK.sub (tys' := tyG cy) [0, 1, 2, 3, 4, 5] rfl
  have hXI : XI [eIOO] (f_xPrint σ id) := XI.fp List.mem_cons_self
  have hl := lv_entry ([.ref (ad 429), .int (id), .ref qo]) (n := 4) (Nat.le_of_ble_eq_true rfl)
  refine W.eq (lg_entry_eq _ ([.ref (ad 429), .int (id), .ref qo]) _) ?_
  generalize (lg_sl ([.ref (ad 429), .int (id), .ref qo]) ++ List.replicate (4 - (lg_sl ([.ref (ad 429), .int (id), .ref qo])).length) Slot.unset).toArray = ls at hl ⊢
  have hl : lv_has ls 4 [(0, .ref (ad 429)), (1, .int (id)), (2, .ref qo)] := hl
  refine lv_aload_n hx hb dL_timeOf_0 rfl (lv_at hl 2 rfl) ?_
  refine lv_iconst (v := 0) hx hb dL_timeOf_1 (by decide) ?_
  refine lv_aload_n hx hb dL_timeOf_2 rfl (lv_at hl 0 rfl) ?_
  refine lv_iload_n hx hb dL_timeOf_3 rfl (lv_at hl 1 rfl) ?_
  refine sp_callx (vx_runV (As := [.int (id)]) (rest := [.int 0, .ref qo]) ⟨hx, hb, hml, hown, hts⟩ (c_X9_timeOf l D ad cy pm rj σ xq hst _ hi id) (cwV 1 hts gL_timeOf_X9_timeOf rfl rfl rfl (by decide +kernel) ⟨Nat.le_of_ble_eq_true rfl, Nat.le_of_ble_eq_true rfl⟩) (sp_preVmx hKg hP hE (κ := 429) (by decide) cE_sp rfl) rfl rfl hl.1 rfl (lv_room (Nat.le_of_ble_eq_true rfl)) dL_timeOf_4 ⟨Nat.le_of_ble_eq_true rfl, Nat.le_of_ble_eq_true rfl⟩) hS (fun q _ h => Or.inl h) (fun q h => Or.inl h) (fun E_x r_x ce q9 H locs hthr hB hle hfr hS hce hcv hcl => ?_) (fun hthr H locs hP hle hfr hS => ?_)
  · have hO : va_at D vwCl (qo, eL cl f) H := hO.kept (hfr qo hqo hqz)
    have hmem := hXI E_x r_x hthr
    obtain rfl := List.mem_singleton.mp hmem
    refine vx_catch (name := "java/lang/IndexOutOfBoundsException") hown ([]) (⟨0, 9, 12, 20⟩ : ExceptionTableEntry) (tableOf []) (by rw [ht]; rfl) (fun z hz => absurd hz List.not_mem_nil) (by decide) (by decide) (hts _ (List.mem_of_getElem? (i := 1) rfl)) (va_Nw.use rfl hE.k0) hce hcv hcl ?_
    refine lv_astore_n (lv' := [(3, .ref q9), (0, .ref (ad 429)), (1, .int (id)), (2, .ref qo)]) hx hb dL_timeOf_12 rfl hl (by decide) rfl (fun ls hl => ?_)
    refine lv_iconst (v := 1) hx hb dL_timeOf_13 (by decide) ?_
    exact W.iret (v := 1) hx hb hr (fun T9 hT9 _ => ⟨by rw [hthr]; exact congrArg (fun z9 => Outcome.returned (some (Value.int z9))) (kC_1).symm, hS.F hT9, Or.inr ⟨_, r_x, hthr, by rw [hT9]; exact hB, by rw [hT9]; exact hO⟩⟩) hS.2.2 dL_timeOf_14
  · have hO : va_at D vwCl (qo, eL cl f) H := hO.kept (hfr qo hqo hqz)
    have hPq := wCons hO hP
    have hDq : va_D (wA ad qo s.heap.size) ((qo, eL cl f) :: cW ad cy (pm) (rj) (σ)) := wApart hi hqa (Or.inr rfl) (fun k hk => Or.inl (Or.inl ⟨k, hk, rfl⟩))
    refine W.eq (g2 := F0 m 7 ls [.int (atO (f_findPrint σ id) 0 (fun k => σ (9 + k) 3)), .int 0, .ref qo]) rfl ?_
    refine lv_i2l (v := Int32.toInt64 (atO (f_findPrint σ id) 0 (fun k => σ (9 + k) 3))) hx hb dL_timeOf_7 rfl ?_
    refine va_last hx hb hK hPq hDq hS 0 6 rfl rfl (i := 0) (x := Int32.toInt64 (atO (f_findPrint σ id) 0 (fun k => σ (9 + k) 3))) vp01 dL_timeOf_8 (fun H locs hP hD hS => ?_)
    refine lv_goto (tgt := 15) hx hb dL_timeOf_9 (by decide) ?_
    refine lv_iconst (v := 0) hx hb dL_timeOf_15 (by decide) ?_
    exact W.iret (v := 0) hx hb hr (fun T9 hT9 _ => ⟨by rw [hthr]; rfl, hS.F hT9, Or.inl ⟨hthr, by rw [hT9]; exact wTail hP, by rw [hT9]; exact wHead hP⟩⟩) hS.2.2 dL_timeOf_16
set_option maxHeartbeats 4000000 in
set_option maxRecDepth 100000 in
theorem c_L_rowOf (l : Launch) (D : va_G) (ad : Nat → Nat) (cy : Nat → ClassId) (pm : Nat → Nat) (rj : Option Nat) (σ : Nat → Nat → Int32) (xq : Nat → Nat) (hst : l.stackTraces = false) (sz : Nat) (hi : sp_inj ad 459) (id : Int32) (cl cd : ClassId) (qo : Nat) (f : Nat → Int64) (g : Nat → UInt64) : Met l yL_rowOf wsL_rowOf ({ frames := 8, cells := 1, slots := 6, locals := 133 } : Room) (wPc xq ad D cy cl cd sz [.ref (ad 429), .int (id), .ref qo] (cW ad cy pm rj σ) qo (eL cl f) (fun _ => True)) (wQ (f_xPrint σ id) [eIOO] D qo (eL cl f) (eL cl (vp_updL f (0 : Int32).toNatClampNeg (Int32.toInt64 (atO (f_findPrint σ id) 0 (fun k => σ (9 + k) 4))))) (cW ad cy (pm) (rj) (σ)) (sp_B D ad cy (pm) (σ) sz rj) (wA ad qo sz)) 1 6 (wA ad qo sz) := by
  refine va_MetW (cc := cL_rowOf) (maxL := 4) (ret := (some .int)) (by decide) rfl ?_
  intro p e s m args below meth c s₁ B hml hv
  obtain ⟨rfl, hsz, hP, hO, hK, hE, hNC, hqa, hZ⟩ := hv
  have hx := B.exec
  have hb := B.bytes
  have hr := B.returns
  have hts := atoms_spec (ws := wsL_rowOf) B.pre
  have hown : s.vm.findClass RL = some m.cls := findClass_of_methodNamed B.named
  have ht := vx_table (x := yL_rowOf) B (hts _ (List.mem_of_getElem? (i := 0) rfl))
  subst hsz
  have hqo : qo < s.heap.size := hO.lt
  have hqz := wNot hqa hqo
  have hS : va_S (wA ad qo s.heap.size) s.heap s.heap [] := va_S.rf
  have hKg := hK.sub (tys' := tyG cy) [0, 1, 2, 3, 4, 5] rfl
  have hXI : XI [eIOO] (f_xPrint σ id) := XI.fp List.mem_cons_self
  have hl := lv_entry ([.ref (ad 429), .int (id), .ref qo]) (n := 4) (Nat.le_of_ble_eq_true rfl)
  refine W.eq (lg_entry_eq _ ([.ref (ad 429), .int (id), .ref qo]) _) ?_
  generalize (lg_sl ([.ref (ad 429), .int (id), .ref qo]) ++ List.replicate (4 - (lg_sl ([.ref (ad 429), .int (id), .ref qo])).length) Slot.unset).toArray = ls at hl ⊢
  have hl : lv_has ls 4 [(0, .ref (ad 429)), (1, .int (id)), (2, .ref qo)] := hl
  refine lv_aload_n hx hb dL_rowOf_0 rfl (lv_at hl 2 rfl) ?_
  refine lv_iconst (v := 0) hx hb dL_rowOf_1 (by decide) ?_
  refine lv_aload_n hx hb dL_rowOf_2 rfl (lv_at hl 0 rfl) ?_
  refine lv_iload_n hx hb dL_rowOf_3 rfl (lv_at hl 1 rfl) ?_
  refine sp_callx (vx_runV (As := [.int (id)]) (rest := [.int 0, .ref qo]) ⟨hx, hb, hml, hown, hts⟩ (c_X9_rowOf l D ad cy pm rj σ xq hst _ hi id) (cwV 1 hts gL_rowOf_X9_rowOf rfl rfl rfl (by decide +kernel) ⟨Nat.le_of_ble_eq_true rfl, Nat.le_of_ble_eq_true rfl⟩) (sp_preVmx hKg hP hE (κ := 429) (by decide) cE_sp rfl) rfl rfl hl.1 rfl (lv_room (Nat.le_of_ble_eq_true rfl)) dL_rowOf_4 ⟨Nat.le_of_ble_eq_true rfl, Nat.le_of_ble_eq_true rfl⟩) hS (fun q _ h => Or.inl h) (fun q h => Or.inl h) (fun E_x r_x ce q9 H locs hthr hB hle hfr hS hce hcv hcl => ?_) (fun hthr H locs hP hle hfr hS => ?_)
  · have hO : va_at D vwCl (qo, eL cl f) H := hO.kept (hfr qo hqo hqz)
    have hmem := hXI E_x r_x hthr
    obtain rfl := List.mem_singleton.mp hmem
    refine vx_catch (name := "java/lang/IndexOutOfBoundsException") hown ([]) (⟨0, 9, 12, 20⟩ : ExceptionTableEntry) (tableOf []) (by rw [ht]; rfl) (fun z hz => absurd hz List.not_mem_nil) (by decide) (by decide) (hts _ (List.mem_of_getElem? (i := 1) rfl)) (va_Nw.use rfl hE.k0) hce hcv hcl ?_
    refine lv_astore_n (lv' := [(3, .ref q9), (0, .ref (ad 429)), (1, .int (id)), (2, .ref qo)]) hx hb dL_rowOf_12 rfl hl (by decide) rfl (fun ls hl => ?_)
    refine lv_iconst (v := 1) hx hb dL_rowOf_13 (by decide) ?_
    exact W.iret (v := 1) hx hb hr (fun T9 hT9 _ => ⟨by rw [hthr]; exact congrArg (fun z9 => Outcome.returned (some (Value.int z9))) (kC_1).symm, hS.F hT9, Or.inr ⟨_, r_x, hthr, by rw [hT9]; exact hB, by rw [hT9]; exact hO⟩⟩) hS.2.2 dL_rowOf_14
  · have hO : va_at D vwCl (qo, eL cl f) H := hO.kept (hfr qo hqo hqz)
    have hPq := wCons hO hP
    have hDq : va_D (wA ad qo s.heap.size) ((qo, eL cl f) :: cW ad cy (pm) (rj) (σ)) := wApart hi hqa (Or.inr rfl) (fun k hk => Or.inl (Or.inl ⟨k, hk, rfl⟩))
    refine W.eq (g2 := F0 m 7 ls [.int (atO (f_findPrint σ id) 0 (fun k => σ (9 + k) 4)), .int 0, .ref qo]) rfl ?_
    refine lv_i2l (v := Int32.toInt64 (atO (f_findPrint σ id) 0 (fun k => σ (9 + k) 4))) hx hb dL_rowOf_7 rfl ?_
    refine va_last hx hb hK hPq hDq hS 0 6 rfl rfl (i := 0) (x := Int32.toInt64 (atO (f_findPrint σ id) 0 (fun k => σ (9 + k) 4))) vp01 dL_rowOf_8 (fun H locs hP hD hS => ?_)
    refine lv_goto (tgt := 15) hx hb dL_rowOf_9 (by decide) ?_
    refine lv_iconst (v := 0) hx hb dL_rowOf_15 (by decide) ?_
    exact W.iret (v := 0) hx hb hr (fun T9 hT9 _ => ⟨by rw [hthr]; rfl, hS.F hT9, Or.inl ⟨hthr, by rw [hT9]; exact wTail hP, by rw [hT9]; exact wHead hP⟩⟩) hS.2.2 dL_rowOf_16
set_option maxHeartbeats 4000000 in
set_option maxRecDepth 100000 in
theorem c_L_columnOf (l : Launch) (D : va_G) (ad : Nat → Nat) (cy : Nat → ClassId) (pm : Nat → Nat) (rj : Option Nat) (σ : Nat → Nat → Int32) (xq : Nat → Nat) (hst : l.stackTraces = false) (sz : Nat) (hi : sp_inj ad 459) (id : Int32) (cl cd : ClassId) (qo : Nat) (f : Nat → Int64) (g : Nat → UInt64) : Met l yL_columnOf wsL_columnOf ({ frames := 8, cells := 1, slots := 6, locals := 133 } : Room) (wPc xq ad D cy cl cd sz [.ref (ad 429), .int (id), .ref qo] (cW ad cy pm rj σ) qo (eL cl f) (fun _ => True)) (wQ (f_xPrint σ id) [eIOO] D qo (eL cl f) (eL cl (vp_updL f (0 : Int32).toNatClampNeg (Int32.toInt64 (atO (f_findPrint σ id) 0 (fun k => σ (9 + k) 5))))) (cW ad cy (pm) (rj) (σ)) (sp_B D ad cy (pm) (σ) sz rj) (wA ad qo sz)) 1 6 (wA ad qo sz) := by
  refine va_MetW (cc := cL_columnOf) (maxL := 4) (ret := (some .int)) (by decide) rfl ?_
  intro p e s m args below meth c s₁ B hml hv
  obtain ⟨rfl, hsz, hP, hO, hK, hE, hNC, hqa, hZ⟩ := hv
  have hx := B.exec
  have hb := B.bytes
  have hr := B.returns
  have hts := atoms_spec (ws := wsL_columnOf) B.pre
  have hown : s.vm.findClass RL = some m.cls := findClass_of_methodNamed B.named
  have ht := vx_table (x := yL_columnOf) B (hts _ (List.mem_of_getElem? (i := 0) rfl))
  subst hsz
  have hqo : qo < s.heap.size := hO.lt
  have hqz := wNot hqa hqo
  have hS : va_S (wA ad qo s.heap.size) s.heap s.heap [] := va_S.rf
  have hKg := hK.sub (tys' := tyG cy) [0, 1, 2, 3, 4, 5] rfl
  have hXI : XI [eIOO] (f_xPrint σ id) := XI.fp List.mem_cons_self
  have hl := lv_entry ([.ref (ad 429), .int (id), .ref qo]) (n := 4) (Nat.le_of_ble_eq_true rfl)
  refine W.eq (lg_entry_eq _ ([.ref (ad 429), .int (id), .ref qo]) _) ?_
  generalize (lg_sl ([.ref (ad 429), .int (id), .ref qo]) ++ List.replicate (4 - (lg_sl ([.ref (ad 429), .int (id), .ref qo])).length) Slot.unset).toArray = ls at hl ⊢
  have hl : lv_has ls 4 [(0, .ref (ad 429)), (1, .int (id)), (2, .ref qo)] := hl
  refine lv_aload_n hx hb dL_columnOf_0 rfl (lv_at hl 2 rfl) ?_
  refine lv_iconst (v := 0) hx hb dL_columnOf_1 (by decide) ?_
  refine lv_aload_n hx hb dL_columnOf_2 rfl (lv_at hl 0 rfl) ?_
  refine lv_iload_n hx hb dL_columnOf_3 rfl (lv_at hl 1 rfl) ?_
  refine sp_callx (vx_runV (As := [.int (id)]) (rest := [.int 0, .ref qo]) ⟨hx, hb, hml, hown, hts⟩ (c_X9_columnOf l D ad cy pm rj σ xq hst _ hi id) (cwV 1 hts gL_columnOf_X9_columnOf rfl rfl rfl (by decide +kernel) ⟨Nat.le_of_ble_eq_true rfl, Nat.le_of_ble_eq_true rfl⟩) (sp_preVmx hKg hP hE (κ := 429) (by decide) cE_sp rfl) rfl rfl hl.1 rfl (lv_room (Nat.le_of_ble_eq_true rfl)) dL_columnOf_4 ⟨Nat.le_of_ble_eq_true rfl, Nat.le_of_ble_eq_true rfl⟩) hS (fun q _ h => Or.inl h) (fun q h => Or.inl h) (fun E_x r_x ce q9 H locs hthr hB hle hfr hS hce hcv hcl => ?_) (fun hthr H locs hP hle hfr hS => ?_)
  · have hO : va_at D vwCl (qo, eL cl f) H := hO.kept (hfr qo hqo hqz)
    have hmem := hXI E_x r_x hthr
    obtain rfl := List.mem_singleton.mp hmem
    refine vx_catch (name := "java/lang/IndexOutOfBoundsException") hown ([]) (⟨0, 9, 12, 20⟩ : ExceptionTableEntry) (tableOf []) (by rw [ht]; rfl) (fun z hz => absurd hz List.not_mem_nil) (by decide) (by decide) (hts _ (List.mem_of_getElem? (i := 1) rfl)) (va_Nw.use rfl hE.k0) hce hcv hcl ?_
    refine lv_astore_n (lv' := [(3, .ref q9), (0, .ref (ad 429)), (1, .int (id)), (2, .ref qo)]) hx hb dL_columnOf_12 rfl hl (by decide) rfl (fun ls hl => ?_)
    refine lv_iconst (v := 1) hx hb dL_columnOf_13 (by decide) ?_
    exact W.iret (v := 1) hx hb hr (fun T9 hT9 _ => ⟨by rw [hthr]; exact congrArg (fun z9 => Outcome.returned (some (Value.int z9))) (kC_1).symm, hS.F hT9, Or.inr ⟨_, r_x, hthr, by rw [hT9]; exact hB, by rw [hT9]; exact hO⟩⟩) hS.2.2 dL_columnOf_14
  · have hO : va_at D vwCl (qo, eL cl f) H := hO.kept (hfr qo hqo hqz)
    have hPq := wCons hO hP
    have hDq : va_D (wA ad qo s.heap.size) ((qo, eL cl f) :: cW ad cy (pm) (rj) (σ)) := wApart hi hqa (Or.inr rfl) (fun k hk => Or.inl (Or.inl ⟨k, hk, rfl⟩))
    refine W.eq (g2 := F0 m 7 ls [.int (atO (f_findPrint σ id) 0 (fun k => σ (9 + k) 5)), .int 0, .ref qo]) rfl ?_
    refine lv_i2l (v := Int32.toInt64 (atO (f_findPrint σ id) 0 (fun k => σ (9 + k) 5))) hx hb dL_columnOf_7 rfl ?_
    refine va_last hx hb hK hPq hDq hS 0 6 rfl rfl (i := 0) (x := Int32.toInt64 (atO (f_findPrint σ id) 0 (fun k => σ (9 + k) 5))) vp01 dL_columnOf_8 (fun H locs hP hD hS => ?_)
    refine lv_goto (tgt := 15) hx hb dL_columnOf_9 (by decide) ?_
    refine lv_iconst (v := 0) hx hb dL_columnOf_15 (by decide) ?_
    exact W.iret (v := 0) hx hb hr (fun T9 hT9 _ => ⟨by rw [hthr]; rfl, hS.F hT9, Or.inl ⟨hthr, by rw [hT9]; exact wTail hP, by rw [hT9]; exact wHead hP⟩⟩) hS.2.2 dL_columnOf_16
set_option maxHeartbeats 4000000 in
set_option maxRecDepth 100000 in
theorem c_L_isLeft (l : Launch) (D : va_G) (ad : Nat → Nat) (cy : Nat → ClassId) (pm : Nat → Nat) (rj : Option Nat) (σ : Nat → Nat → Int32) (xq : Nat → Nat) (hst : l.stackTraces = false) (sz : Nat) (hi : sp_inj ad 459) (id : Int32) (cl cd : ClassId) (qo : Nat) (f : Nat → Int64) (g : Nat → UInt64) : Met l yL_isLeft wsL_isLeft ({ frames := 8, cells := 1, slots := 6, locals := 133 } : Room) (wPc xq ad D cy cl cd sz [.ref (ad 429), .int (id), .ref qo] (cW ad cy pm rj σ) qo (eL cl f) (fun _ => True)) (wQ (f_xPrint σ id) [eIOO] D qo (eL cl f) (eL cl (vp_updL f (0 : Int32).toNatClampNeg (Int32.toInt64 (atO (f_findPrint σ id) 0 (fun k => bz (σ (9 + k) 6)))))) (cW ad cy (pm) (rj) (σ)) (sp_B D ad cy (pm) (σ) sz rj) (wA ad qo sz)) 1 6 (wA ad qo sz) := by
  refine va_MetW (cc := cL_isLeft) (maxL := 4) (ret := (some .int)) (by decide) rfl ?_
  intro p e s m args below meth c s₁ B hml hv
  obtain ⟨rfl, hsz, hP, hO, hK, hE, hNC, hqa, hZ⟩ := hv
  have hx := B.exec
  have hb := B.bytes
  have hr := B.returns
  have hts := atoms_spec (ws := wsL_isLeft) B.pre
  have hown : s.vm.findClass RL = some m.cls := findClass_of_methodNamed B.named
  have ht := vx_table (x := yL_isLeft) B (hts _ (List.mem_of_getElem? (i := 0) rfl))
  subst hsz
  have hqo : qo < s.heap.size := hO.lt
  have hqz := wNot hqa hqo
  have hS : va_S (wA ad qo s.heap.size) s.heap s.heap [] := va_S.rf
  have hKg := hK.sub (tys' := tyG cy) [0, 1, 2, 3, 4, 5] rfl
  have hXI : XI [eIOO] (f_xPrint σ id) := XI.fp List.mem_cons_self
  have hl := lv_entry ([.ref (ad 429), .int (id), .ref qo]) (n := 4) (Nat.le_of_ble_eq_true rfl)
  refine W.eq (lg_entry_eq _ ([.ref (ad 429), .int (id), .ref qo]) _) ?_
  generalize (lg_sl ([.ref (ad 429), .int (id), .ref qo]) ++ List.replicate (4 - (lg_sl ([.ref (ad 429), .int (id), .ref qo])).length) Slot.unset).toArray = ls at hl ⊢
  have hl : lv_has ls 4 [(0, .ref (ad 429)), (1, .int (id)), (2, .ref qo)] := hl
  refine lv_aload_n hx hb dL_isLeft_0 rfl (lv_at hl 2 rfl) ?_
  refine lv_iconst (v := 0) hx hb dL_isLeft_1 (by decide) ?_
  refine lv_aload_n hx hb dL_isLeft_2 rfl (lv_at hl 0 rfl) ?_
  refine lv_iload_n hx hb dL_isLeft_3 rfl (lv_at hl 1 rfl) ?_
  refine sp_callx (vx_runV (As := [.int (id)]) (rest := [.int 0, .ref qo]) ⟨hx, hb, hml, hown, hts⟩ (c_X9_isLeft l D ad cy pm rj σ xq hst _ hi id) (cwV 1 hts gL_isLeft_X9_isLeft rfl rfl rfl (by decide +kernel) ⟨Nat.le_of_ble_eq_true rfl, Nat.le_of_ble_eq_true rfl⟩) (sp_preVmx hKg hP hE (κ := 429) (by decide) cE_sp rfl) rfl rfl hl.1 rfl (lv_room (Nat.le_of_ble_eq_true rfl)) dL_isLeft_4 ⟨Nat.le_of_ble_eq_true rfl, Nat.le_of_ble_eq_true rfl⟩) hS (fun q _ h => Or.inl h) (fun q h => Or.inl h) (fun E_x r_x ce q9 H locs hthr hB hle hfr hS hce hcv hcl => ?_) (fun hthr H locs hP hle hfr hS => ?_)
  · have hO : va_at D vwCl (qo, eL cl f) H := hO.kept (hfr qo hqo hqz)
    have hmem := hXI E_x r_x hthr
    obtain rfl := List.mem_singleton.mp hmem
    refine vx_catch (name := "java/lang/IndexOutOfBoundsException") hown ([]) (⟨0, 16, 19, 20⟩ : ExceptionTableEntry) (tableOf []) (by rw [ht]; rfl) (fun z hz => absurd hz List.not_mem_nil) (by decide) (by decide) (hts _ (List.mem_of_getElem? (i := 1) rfl)) (va_Nw.use rfl hE.k0) hce hcv hcl ?_
    refine lv_astore_n (lv' := [(3, .ref q9), (0, .ref (ad 429)), (1, .int (id)), (2, .ref qo)]) hx hb dL_isLeft_19 rfl hl (by decide) rfl (fun ls hl => ?_)
    refine lv_iconst (v := 1) hx hb dL_isLeft_20 (by decide) ?_
    exact W.iret (v := 1) hx hb hr (fun T9 hT9 _ => ⟨by rw [hthr]; exact congrArg (fun z9 => Outcome.returned (some (Value.int z9))) (kC_1).symm, hS.F hT9, Or.inr ⟨_, r_x, hthr, by rw [hT9]; exact hB, by rw [hT9]; exact hO⟩⟩) hS.2.2 dL_isLeft_21
  · have hO : va_at D vwCl (qo, eL cl f) H := hO.kept (hfr qo hqo hqz)
    have hPq := wCons hO hP
    have hDq : va_D (wA ad qo s.heap.size) ((qo, eL cl f) :: cW ad cy (pm) (rj) (σ)) := wApart hi hqa (Or.inr rfl) (fun k hk => Or.inl (Or.inl ⟨k, hk, rfl⟩))
    refine W.eq (g2 := F0 m 7 ls [.int (atO (f_findPrint σ id) 0 (fun k => bz (σ (9 + k) 6))), .int 0, .ref qo]) rfl ?_
    refine lv_if_eq (tgt := 14) hx hb dL_isLeft_7 (by decide) (fun c_1 => ?_) (fun c_1 => ?_)
    · refine lv_lconst (v := 0) hx hb dL_isLeft_14 rfl ?_
      refine W.eq (g2 := F0 m 15 ls [.long (Int32.toInt64 (atO (f_findPrint σ id) 0 (fun k => bz (σ (9 + k) 6)))), .int 0, .ref qo]) (by rw [c_1]; rfl) ?_
      refine va_last hx hb hK hPq hDq hS 0 6 rfl rfl (i := 0) (x := Int32.toInt64 (atO (f_findPrint σ id) 0 (fun k => bz (σ (9 + k) 6)))) vp01 dL_isLeft_15 (fun H locs hP hD hS => ?_)
      refine lv_goto (tgt := 22) hx hb dL_isLeft_16 (by decide) ?_
      refine lv_iconst (v := 0) hx hb dL_isLeft_22 (by decide) ?_
      exact W.iret (v := 0) hx hb hr (fun T9 hT9 _ => ⟨by rw [hthr]; rfl, hS.F hT9, Or.inl ⟨hthr, by rw [hT9]; exact wTail hP, by rw [hT9]; exact wHead hP⟩⟩) hS.2.2 dL_isLeft_23
    · refine lv_lconst (v := 1) hx hb dL_isLeft_10 rfl ?_
      refine lv_goto (tgt := 15) hx hb dL_isLeft_11 (by decide) ?_
      refine W.eq (g2 := F0 m 15 ls [.long (Int32.toInt64 (atO (f_findPrint σ id) 0 (fun k => bz (σ (9 + k) 6)))), .int 0, .ref qo]) (by rw [b01a c_1]; rfl) ?_
      refine va_last hx hb hK hPq hDq hS 0 6 rfl rfl (i := 0) (x := Int32.toInt64 (atO (f_findPrint σ id) 0 (fun k => bz (σ (9 + k) 6)))) vp01 dL_isLeft_15 (fun H locs hP hD hS => ?_)
      refine lv_goto (tgt := 22) hx hb dL_isLeft_16 (by decide) ?_
      refine lv_iconst (v := 0) hx hb dL_isLeft_22 (by decide) ?_
      exact W.iret (v := 0) hx hb hr (fun T9 hT9 _ => ⟨by rw [hthr]; rfl, hS.F hT9, Or.inl ⟨hthr, by rw [hT9]; exact wTail hP, by rw [hT9]; exact wHead hP⟩⟩) hS.2.2 dL_isLeft_23
set_option maxHeartbeats 4000000 in
set_option maxRecDepth 100000 in
theorem c_L_depthOf (l : Launch) (D : va_G) (ad : Nat → Nat) (cy : Nat → ClassId) (pm : Nat → Nat) (rj : Option Nat) (σ : Nat → Nat → Int32) (xq : Nat → Nat) (hst : l.stackTraces = false) (sz : Nat) (hi : sp_inj ad 459) (id : Int32) (cl cd : ClassId) (qo : Nat) (f : Nat → Int64) (g : Nat → UInt64) : Met l yL_depthOf wsL_depthOf ({ frames := 8, cells := 1, slots := 6, locals := 133 } : Room) (wPc xq ad D cy cl cd sz [.ref (ad 429), .int (id), .ref qo] (cW ad cy pm rj σ) qo (eL cl f) (fun _ => True)) (wQ (f_xPrint σ id) [eIOO] D qo (eL cl f) (eL cl (vp_updL f (0 : Int32).toNatClampNeg (Int32.toInt64 (atO (f_findPrint σ id) 0 (fun k => σ (9 + k) 7))))) (cW ad cy (pm) (rj) (σ)) (sp_B D ad cy (pm) (σ) sz rj) (wA ad qo sz)) 1 6 (wA ad qo sz) := by
  refine va_MetW (cc := cL_depthOf) (maxL := 4) (ret := (some .int)) (by decide) rfl ?_
  intro p e s m args below meth c s₁ B hml hv
  obtain ⟨rfl, hsz, hP, hO, hK, hE, hNC, hqa, hZ⟩ := hv
  have hx := B.exec
  have hb := B.bytes
  have hr := B.returns
  have hts := atoms_spec (ws := wsL_depthOf) B.pre
  have hown : s.vm.findClass RL = some m.cls := findClass_of_methodNamed B.named
  have ht := vx_table (x := yL_depthOf) B (hts _ (List.mem_of_getElem? (i := 0) rfl))
  subst hsz
  have hqo : qo < s.heap.size := hO.lt
  have hqz := wNot hqa hqo
  have hS : va_S (wA ad qo s.heap.size) s.heap s.heap [] := va_S.rf
  have hKg := hK.sub (tys' := tyG cy) [0, 1, 2, 3, 4, 5] rfl
  have hXI : XI [eIOO] (f_xPrint σ id) := XI.fp List.mem_cons_self
  have hl := lv_entry ([.ref (ad 429), .int (id), .ref qo]) (n := 4) (Nat.le_of_ble_eq_true rfl)
  refine W.eq (lg_entry_eq _ ([.ref (ad 429), .int (id), .ref qo]) _) ?_
  generalize (lg_sl ([.ref (ad 429), .int (id), .ref qo]) ++ List.replicate (4 - (lg_sl ([.ref (ad 429), .int (id), .ref qo])).length) Slot.unset).toArray = ls at hl ⊢
  have hl : lv_has ls 4 [(0, .ref (ad 429)), (1, .int (id)), (2, .ref qo)] := hl
  refine lv_aload_n hx hb dL_depthOf_0 rfl (lv_at hl 2 rfl) ?_
  refine lv_iconst (v := 0) hx hb dL_depthOf_1 (by decide) ?_
  refine lv_aload_n hx hb dL_depthOf_2 rfl (lv_at hl 0 rfl) ?_
  refine lv_iload_n hx hb dL_depthOf_3 rfl (lv_at hl 1 rfl) ?_
  refine sp_callx (vx_runV (As := [.int (id)]) (rest := [.int 0, .ref qo]) ⟨hx, hb, hml, hown, hts⟩ (c_X9_depthOf l D ad cy pm rj σ xq hst _ hi id) (cwV 1 hts gL_depthOf_X9_depthOf rfl rfl rfl (by decide +kernel) ⟨Nat.le_of_ble_eq_true rfl, Nat.le_of_ble_eq_true rfl⟩) (sp_preVmx hKg hP hE (κ := 429) (by decide) cE_sp rfl) rfl rfl hl.1 rfl (lv_room (Nat.le_of_ble_eq_true rfl)) dL_depthOf_4 ⟨Nat.le_of_ble_eq_true rfl, Nat.le_of_ble_eq_true rfl⟩) hS (fun q _ h => Or.inl h) (fun q h => Or.inl h) (fun E_x r_x ce q9 H locs hthr hB hle hfr hS hce hcv hcl => ?_) (fun hthr H locs hP hle hfr hS => ?_)
  · have hO : va_at D vwCl (qo, eL cl f) H := hO.kept (hfr qo hqo hqz)
    have hmem := hXI E_x r_x hthr
    obtain rfl := List.mem_singleton.mp hmem
    refine vx_catch (name := "java/lang/IndexOutOfBoundsException") hown ([]) (⟨0, 9, 12, 20⟩ : ExceptionTableEntry) (tableOf []) (by rw [ht]; rfl) (fun z hz => absurd hz List.not_mem_nil) (by decide) (by decide) (hts _ (List.mem_of_getElem? (i := 1) rfl)) (va_Nw.use rfl hE.k0) hce hcv hcl ?_
    refine lv_astore_n (lv' := [(3, .ref q9), (0, .ref (ad 429)), (1, .int (id)), (2, .ref qo)]) hx hb dL_depthOf_12 rfl hl (by decide) rfl (fun ls hl => ?_)
    refine lv_iconst (v := 1) hx hb dL_depthOf_13 (by decide) ?_
    exact W.iret (v := 1) hx hb hr (fun T9 hT9 _ => ⟨by rw [hthr]; exact congrArg (fun z9 => Outcome.returned (some (Value.int z9))) (kC_1).symm, hS.F hT9, Or.inr ⟨_, r_x, hthr, by rw [hT9]; exact hB, by rw [hT9]; exact hO⟩⟩) hS.2.2 dL_depthOf_14
  · have hO : va_at D vwCl (qo, eL cl f) H := hO.kept (hfr qo hqo hqz)
    have hPq := wCons hO hP
    have hDq : va_D (wA ad qo s.heap.size) ((qo, eL cl f) :: cW ad cy (pm) (rj) (σ)) := wApart hi hqa (Or.inr rfl) (fun k hk => Or.inl (Or.inl ⟨k, hk, rfl⟩))
    refine W.eq (g2 := F0 m 7 ls [.int (atO (f_findPrint σ id) 0 (fun k => σ (9 + k) 7)), .int 0, .ref qo]) rfl ?_
    refine lv_i2l (v := Int32.toInt64 (atO (f_findPrint σ id) 0 (fun k => σ (9 + k) 7))) hx hb dL_depthOf_7 rfl ?_
    refine va_last hx hb hK hPq hDq hS 0 6 rfl rfl (i := 0) (x := Int32.toInt64 (atO (f_findPrint σ id) 0 (fun k => σ (9 + k) 7))) vp01 dL_depthOf_8 (fun H locs hP hD hS => ?_)
    refine lv_goto (tgt := 15) hx hb dL_depthOf_9 (by decide) ?_
    refine lv_iconst (v := 0) hx hb dL_depthOf_15 (by decide) ?_
    exact W.iret (v := 0) hx hb hr (fun T9 hT9 _ => ⟨by rw [hthr]; rfl, hS.F hT9, Or.inl ⟨hthr, by rw [hT9]; exact wTail hP, by rw [hT9]; exact wHead hP⟩⟩) hS.2.2 dL_depthOf_16
set_option maxHeartbeats 4000000 in
set_option maxRecDepth 100000 in
theorem c_L_doubtsOf (l : Launch) (D : va_G) (ad : Nat → Nat) (cy : Nat → ClassId) (pm : Nat → Nat) (rj : Option Nat) (σ : Nat → Nat → Int32) (xq : Nat → Nat) (hst : l.stackTraces = false) (sz : Nat) (hi : sp_inj ad 459) (id : Int32) (cl cd : ClassId) (qo : Nat) (f : Nat → Int64) (g : Nat → UInt64) : Met l yL_doubtsOf wsL_doubtsOf ({ frames := 8, cells := 1, slots := 6, locals := 133 } : Room) (wPc xq ad D cy cl cd sz [.ref (ad 429), .int (id), .ref qo] (cW ad cy pm rj σ) qo (eL cl f) (fun _ => True)) (wQ (f_xPrint σ id) [eIOO] D qo (eL cl f) (eL cl (vp_updL f (0 : Int32).toNatClampNeg (Int32.toInt64 (atO (f_findPrint σ id) 0 (fun k => σ (9 + k) 8))))) (cW ad cy (pm) (rj) (σ)) (sp_B D ad cy (pm) (σ) sz rj) (wA ad qo sz)) 1 6 (wA ad qo sz) := by
  refine va_MetW (cc := cL_doubtsOf) (maxL := 4) (ret := (some .int)) (by decide) rfl ?_
  intro p e s m args below meth c s₁ B hml hv
  obtain ⟨rfl, hsz, hP, hO, hK, hE, hNC, hqa, hZ⟩ := hv
  have hx := B.exec
  have hb := B.bytes
  have hr := B.returns
  have hts := atoms_spec (ws := wsL_doubtsOf) B.pre
  have hown : s.vm.findClass RL = some m.cls := findClass_of_methodNamed B.named
  have ht := vx_table (x := yL_doubtsOf) B (hts _ (List.mem_of_getElem? (i := 0) rfl))
  subst hsz
  have hqo : qo < s.heap.size := hO.lt
  have hqz := wNot hqa hqo
  have hS : va_S (wA ad qo s.heap.size) s.heap s.heap [] := va_S.rf
  have hKg := hK.sub (tys' := tyG cy) [0, 1, 2, 3, 4, 5] rfl
  have hXI : XI [eIOO] (f_xPrint σ id) := XI.fp List.mem_cons_self
  have hl := lv_entry ([.ref (ad 429), .int (id), .ref qo]) (n := 4) (Nat.le_of_ble_eq_true rfl)
  refine W.eq (lg_entry_eq _ ([.ref (ad 429), .int (id), .ref qo]) _) ?_
  generalize (lg_sl ([.ref (ad 429), .int (id), .ref qo]) ++ List.replicate (4 - (lg_sl ([.ref (ad 429), .int (id), .ref qo])).length) Slot.unset).toArray = ls at hl ⊢
  have hl : lv_has ls 4 [(0, .ref (ad 429)), (1, .int (id)), (2, .ref qo)] := hl
  refine lv_aload_n hx hb dL_doubtsOf_0 rfl (lv_at hl 2 rfl) ?_
  refine lv_iconst (v := 0) hx hb dL_doubtsOf_1 (by decide) ?_
  refine lv_aload_n hx hb dL_doubtsOf_2 rfl (lv_at hl 0 rfl) ?_
  refine lv_iload_n hx hb dL_doubtsOf_3 rfl (lv_at hl 1 rfl) ?_
  refine sp_callx (vx_runV (As := [.int (id)]) (rest := [.int 0, .ref qo]) ⟨hx, hb, hml, hown, hts⟩ (c_X9_doubtsOf l D ad cy pm rj σ xq hst _ hi id) (cwV 1 hts gL_doubtsOf_X9_doubtsOf rfl rfl rfl (by decide +kernel) ⟨Nat.le_of_ble_eq_true rfl, Nat.le_of_ble_eq_true rfl⟩) (sp_preVmx hKg hP hE (κ := 429) (by decide) cE_sp rfl) rfl rfl hl.1 rfl (lv_room (Nat.le_of_ble_eq_true rfl)) dL_doubtsOf_4 ⟨Nat.le_of_ble_eq_true rfl, Nat.le_of_ble_eq_true rfl⟩) hS (fun q _ h => Or.inl h) (fun q h => Or.inl h) (fun E_x r_x ce q9 H locs hthr hB hle hfr hS hce hcv hcl => ?_) (fun hthr H locs hP hle hfr hS => ?_)
  · have hO : va_at D vwCl (qo, eL cl f) H := hO.kept (hfr qo hqo hqz)
    have hmem := hXI E_x r_x hthr
    obtain rfl := List.mem_singleton.mp hmem
    refine vx_catch (name := "java/lang/IndexOutOfBoundsException") hown ([]) (⟨0, 9, 12, 20⟩ : ExceptionTableEntry) (tableOf []) (by rw [ht]; rfl) (fun z hz => absurd hz List.not_mem_nil) (by decide) (by decide) (hts _ (List.mem_of_getElem? (i := 1) rfl)) (va_Nw.use rfl hE.k0) hce hcv hcl ?_
    refine lv_astore_n (lv' := [(3, .ref q9), (0, .ref (ad 429)), (1, .int (id)), (2, .ref qo)]) hx hb dL_doubtsOf_12 rfl hl (by decide) rfl (fun ls hl => ?_)
    refine lv_iconst (v := 1) hx hb dL_doubtsOf_13 (by decide) ?_
    exact W.iret (v := 1) hx hb hr (fun T9 hT9 _ => ⟨by rw [hthr]; exact congrArg (fun z9 => Outcome.returned (some (Value.int z9))) (kC_1).symm, hS.F hT9, Or.inr ⟨_, r_x, hthr, by rw [hT9]; exact hB, by rw [hT9]; exact hO⟩⟩) hS.2.2 dL_doubtsOf_14
  · have hO : va_at D vwCl (qo, eL cl f) H := hO.kept (hfr qo hqo hqz)
    have hPq := wCons hO hP
    have hDq : va_D (wA ad qo s.heap.size) ((qo, eL cl f) :: cW ad cy (pm) (rj) (σ)) := wApart hi hqa (Or.inr rfl) (fun k hk => Or.inl (Or.inl ⟨k, hk, rfl⟩))
    refine W.eq (g2 := F0 m 7 ls [.int (atO (f_findPrint σ id) 0 (fun k => σ (9 + k) 8)), .int 0, .ref qo]) rfl ?_
    refine lv_i2l (v := Int32.toInt64 (atO (f_findPrint σ id) 0 (fun k => σ (9 + k) 8))) hx hb dL_doubtsOf_7 rfl ?_
    refine va_last hx hb hK hPq hDq hS 0 6 rfl rfl (i := 0) (x := Int32.toInt64 (atO (f_findPrint σ id) 0 (fun k => σ (9 + k) 8))) vp01 dL_doubtsOf_8 (fun H locs hP hD hS => ?_)
    refine lv_goto (tgt := 15) hx hb dL_doubtsOf_9 (by decide) ?_
    refine lv_iconst (v := 0) hx hb dL_doubtsOf_15 (by decide) ?_
    exact W.iret (v := 0) hx hb hr (fun T9 hT9 _ => ⟨by rw [hthr]; rfl, hS.F hT9, Or.inl ⟨hthr, by rw [hT9]; exact wTail hP, by rw [hT9]; exact wHead hP⟩⟩) hS.2.2 dL_doubtsOf_16
set_option maxHeartbeats 4000000 in
set_option maxRecDepth 100000 in
theorem c_L_confidence (l : Launch) (D : va_G) (ad : Nat → Nat) (cy : Nat → ClassId) (pm : Nat → Nat) (rj : Option Nat) (σ : Nat → Nat → Int32) (xq : Nat → Nat) (hst : l.stackTraces = false) (sz : Nat) (hi : sp_inj ad 459) (id : Int32) (hd : ∀ k, f_findPrint σ id = some k → σ (9 + k) 8 = 0 ∨ σ (9 + k) 8 = 1 ∨ σ (9 + k) 8 = 2 ∨ σ (9 + k) 8 = 3) (cl cd : ClassId) (qo : Nat) (f : Nat → Int64) (g : Nat → UInt64) : Met l yL_confidence wsL_confidence ({ frames := 8, cells := 1, slots := 6, locals := 133 } : Room) (wPc xq ad D cy cl cd sz [.ref (ad 429), .int (id), .ref qo] (cW ad cy pm rj σ) qo (eD cd g) (fun _ => True)) (wQ (f_xPrint σ id) [eIOO] D qo (eD cd g) (eD cd (vf_upd g (0 : Int32).toNatClampNeg (atO (f_findPrint σ id) 0 (fun k => FP.ddiv FP.dconst1 (FP.dadd FP.dconst1 (FP.i2d (σ (9 + k) 8))))))) (cW ad cy (pm) (rj) (σ)) (sp_B D ad cy (pm) (σ) sz rj) (wA ad qo sz)) 1 6 (wA ad qo sz) := by
  refine va_MetW (cc := cL_confidence) (maxL := 4) (ret := (some .int)) (by decide) rfl ?_
  intro p e s m args below meth c s₁ B hml hv
  obtain ⟨rfl, hsz, hP, hO, hK, hE, hNC, hqa, hZ⟩ := hv
  have hx := B.exec
  have hb := B.bytes
  have hr := B.returns
  have hts := atoms_spec (ws := wsL_confidence) B.pre
  have hown : s.vm.findClass RL = some m.cls := findClass_of_methodNamed B.named
  have ht := vx_table (x := yL_confidence) B (hts _ (List.mem_of_getElem? (i := 0) rfl))
  subst hsz
  have hqo : qo < s.heap.size := hO.lt
  have hqz := wNot hqa hqo
  have hS : va_S (wA ad qo s.heap.size) s.heap s.heap [] := va_S.rf
  have hKg := hK.sub (tys' := tyG cy) [0, 1, 2, 3, 4, 5] rfl
  have hXI : XI [eIOO] (f_xPrint σ id) := XI.fp List.mem_cons_self
  have hl := lv_entry ([.ref (ad 429), .int (id), .ref qo]) (n := 4) (Nat.le_of_ble_eq_true rfl)
  refine W.eq (lg_entry_eq _ ([.ref (ad 429), .int (id), .ref qo]) _) ?_
  generalize (lg_sl ([.ref (ad 429), .int (id), .ref qo]) ++ List.replicate (4 - (lg_sl ([.ref (ad 429), .int (id), .ref qo])).length) Slot.unset).toArray = ls at hl ⊢
  have hl : lv_has ls 4 [(0, .ref (ad 429)), (1, .int (id)), (2, .ref qo)] := hl
  refine lv_aload_n hx hb dL_confidence_0 rfl (lv_at hl 2 rfl) ?_
  refine lv_iconst (v := 0) hx hb dL_confidence_1 (by decide) ?_
  refine lv_aload_n hx hb dL_confidence_2 rfl (lv_at hl 0 rfl) ?_
  refine lv_iload_n hx hb dL_confidence_3 rfl (lv_at hl 1 rfl) ?_
  refine sp_callx (vx_runV (As := [.int (id)]) (rest := [.int 0, .ref qo]) ⟨hx, hb, hml, hown, hts⟩ (c_X9_confidence l D ad cy pm rj σ xq hst _ hi id hd) (cwV 1 hts gL_confidence_X9_confidence rfl rfl rfl (by decide +kernel) ⟨Nat.le_of_ble_eq_true rfl, Nat.le_of_ble_eq_true rfl⟩) (sp_preVmx hKg hP hE (κ := 429) (by decide) cE_sp rfl) rfl rfl hl.1 rfl (lv_room (Nat.le_of_ble_eq_true rfl)) dL_confidence_4 ⟨Nat.le_of_ble_eq_true rfl, Nat.le_of_ble_eq_true rfl⟩) hS (fun q _ h => Or.inl h) (fun q h => Or.inl h) (fun E_x r_x ce q9 H locs hthr hB hle hfr hS hce hcv hcl => ?_) (fun hthr H locs hP hle hfr hS => ?_)
  · have hO : va_at D vwCl (qo, eD cd g) H := hO.kept (hfr qo hqo hqz)
    have hmem := hXI E_x r_x hthr
    obtain rfl := List.mem_singleton.mp hmem
    refine vx_catch (name := "java/lang/IndexOutOfBoundsException") hown ([]) (⟨0, 8, 11, 20⟩ : ExceptionTableEntry) (tableOf []) (by rw [ht]; rfl) (fun z hz => absurd hz List.not_mem_nil) (by decide) (by decide) (hts _ (List.mem_of_getElem? (i := 1) rfl)) (va_Nw.use rfl hE.k0) hce hcv hcl ?_
    refine lv_astore_n (lv' := [(3, .ref q9), (0, .ref (ad 429)), (1, .int (id)), (2, .ref qo)]) hx hb dL_confidence_11 rfl hl (by decide) rfl (fun ls hl => ?_)
    refine lv_iconst (v := 1) hx hb dL_confidence_12 (by decide) ?_
    exact W.iret (v := 1) hx hb hr (fun T9 hT9 _ => ⟨by rw [hthr]; exact congrArg (fun z9 => Outcome.returned (some (Value.int z9))) (kC_1).symm, hS.F hT9, Or.inr ⟨_, r_x, hthr, by rw [hT9]; exact hB, by rw [hT9]; exact hO⟩⟩) hS.2.2 dL_confidence_13
  · have hO : va_at D vwCl (qo, eD cd g) H := hO.kept (hfr qo hqo hqz)
    have hPq := wCons hO hP
    have hDq : va_D (wA ad qo s.heap.size) ((qo, eD cd g) :: cW ad cy (pm) (rj) (σ)) := wApart hi hqa (Or.inr rfl) (fun k hk => Or.inl (Or.inl ⟨k, hk, rfl⟩))
    refine W.eq (g2 := F0 m 7 ls [.double (atO (f_findPrint σ id) 0 (fun k => FP.ddiv FP.dconst1 (FP.dadd FP.dconst1 (FP.i2d (σ (9 + k) 8))))), .int 0, .ref qo]) rfl ?_
    refine va_dast hx hb hK hPq hDq hS 0 7 rfl rfl (i := 0) (x := atO (f_findPrint σ id) 0 (fun k => FP.ddiv FP.dconst1 (FP.dadd FP.dconst1 (FP.i2d (σ (9 + k) 8))))) vp01 dL_confidence_7 (fun H locs hP hD hS => ?_)
    refine lv_goto (tgt := 14) hx hb dL_confidence_8 (by decide) ?_
    refine lv_iconst (v := 0) hx hb dL_confidence_14 (by decide) ?_
    exact W.iret (v := 0) hx hb hr (fun T9 hT9 _ => ⟨by rw [hthr]; rfl, hS.F hT9, Or.inl ⟨hthr, by rw [hT9]; exact wTail hP, by rw [hT9]; exact wHead hP⟩⟩) hS.2.2 dL_confidence_15
set_option maxHeartbeats 4000000 in
set_option maxRecDepth 100000 in
theorem c_L_isLate (l : Launch) (D : va_G) (ad : Nat → Nat) (cy : Nat → ClassId) (pm : Nat → Nat) (rj : Option Nat) (σ : Nat → Nat → Int32) (xq : Nat → Nat) (hst : l.stackTraces = false) (sz : Nat) (hi : sp_inj ad 459) (id : Int32) (cl cd : ClassId) (qo : Nat) (f : Nat → Int64) (g : Nat → UInt64) : Met l yL_isLate wsL_isLate ({ frames := 8, cells := 1, slots := 6, locals := 133 } : Room) (wPc xq ad D cy cl cd sz [.ref (ad 429), .int (id), .ref qo] (cW ad cy pm rj σ) qo (eL cl f) (fun _ => True)) (wQ (f_xPrint σ id) [eIOO] D qo (eL cl f) (eL cl (vp_updL f (0 : Int32).toNatClampNeg (Int32.toInt64 (atO (f_findPrint σ id) 0 (fun k => bz (σ (9 + k) 9)))))) (cW ad cy (pm) (rj) (σ)) (sp_B D ad cy (pm) (σ) sz rj) (wA ad qo sz)) 1 6 (wA ad qo sz) := by
  refine va_MetW (cc := cL_isLate) (maxL := 4) (ret := (some .int)) (by decide) rfl ?_
  intro p e s m args below meth c s₁ B hml hv
  obtain ⟨rfl, hsz, hP, hO, hK, hE, hNC, hqa, hZ⟩ := hv
  have hx := B.exec
  have hb := B.bytes
  have hr := B.returns
  have hts := atoms_spec (ws := wsL_isLate) B.pre
  have hown : s.vm.findClass RL = some m.cls := findClass_of_methodNamed B.named
  have ht := vx_table (x := yL_isLate) B (hts _ (List.mem_of_getElem? (i := 0) rfl))
  subst hsz
  have hqo : qo < s.heap.size := hO.lt
  have hqz := wNot hqa hqo
  have hS : va_S (wA ad qo s.heap.size) s.heap s.heap [] := va_S.rf
  have hKg := hK.sub (tys' := tyG cy) [0, 1, 2, 3, 4, 5] rfl
  have hXI : XI [eIOO] (f_xPrint σ id) := XI.fp List.mem_cons_self
  have hl := lv_entry ([.ref (ad 429), .int (id), .ref qo]) (n := 4) (Nat.le_of_ble_eq_true rfl)
  refine W.eq (lg_entry_eq _ ([.ref (ad 429), .int (id), .ref qo]) _) ?_
  generalize (lg_sl ([.ref (ad 429), .int (id), .ref qo]) ++ List.replicate (4 - (lg_sl ([.ref (ad 429), .int (id), .ref qo])).length) Slot.unset).toArray = ls at hl ⊢
  have hl : lv_has ls 4 [(0, .ref (ad 429)), (1, .int (id)), (2, .ref qo)] := hl
  refine lv_aload_n hx hb dL_isLate_0 rfl (lv_at hl 2 rfl) ?_
  refine lv_iconst (v := 0) hx hb dL_isLate_1 (by decide) ?_
  refine lv_aload_n hx hb dL_isLate_2 rfl (lv_at hl 0 rfl) ?_
  refine lv_iload_n hx hb dL_isLate_3 rfl (lv_at hl 1 rfl) ?_
  refine sp_callx (vx_runV (As := [.int (id)]) (rest := [.int 0, .ref qo]) ⟨hx, hb, hml, hown, hts⟩ (c_X9_isLate l D ad cy pm rj σ xq hst _ hi id) (cwV 1 hts gL_isLate_X9_isLate rfl rfl rfl (by decide +kernel) ⟨Nat.le_of_ble_eq_true rfl, Nat.le_of_ble_eq_true rfl⟩) (sp_preVmx hKg hP hE (κ := 429) (by decide) cE_sp rfl) rfl rfl hl.1 rfl (lv_room (Nat.le_of_ble_eq_true rfl)) dL_isLate_4 ⟨Nat.le_of_ble_eq_true rfl, Nat.le_of_ble_eq_true rfl⟩) hS (fun q _ h => Or.inl h) (fun q h => Or.inl h) (fun E_x r_x ce q9 H locs hthr hB hle hfr hS hce hcv hcl => ?_) (fun hthr H locs hP hle hfr hS => ?_)
  · have hO : va_at D vwCl (qo, eL cl f) H := hO.kept (hfr qo hqo hqz)
    have hmem := hXI E_x r_x hthr
    obtain rfl := List.mem_singleton.mp hmem
    refine vx_catch (name := "java/lang/IndexOutOfBoundsException") hown ([]) (⟨0, 16, 19, 20⟩ : ExceptionTableEntry) (tableOf []) (by rw [ht]; rfl) (fun z hz => absurd hz List.not_mem_nil) (by decide) (by decide) (hts _ (List.mem_of_getElem? (i := 1) rfl)) (va_Nw.use rfl hE.k0) hce hcv hcl ?_
    refine lv_astore_n (lv' := [(3, .ref q9), (0, .ref (ad 429)), (1, .int (id)), (2, .ref qo)]) hx hb dL_isLate_19 rfl hl (by decide) rfl (fun ls hl => ?_)
    refine lv_iconst (v := 1) hx hb dL_isLate_20 (by decide) ?_
    exact W.iret (v := 1) hx hb hr (fun T9 hT9 _ => ⟨by rw [hthr]; exact congrArg (fun z9 => Outcome.returned (some (Value.int z9))) (kC_1).symm, hS.F hT9, Or.inr ⟨_, r_x, hthr, by rw [hT9]; exact hB, by rw [hT9]; exact hO⟩⟩) hS.2.2 dL_isLate_21
  · have hO : va_at D vwCl (qo, eL cl f) H := hO.kept (hfr qo hqo hqz)
    have hPq := wCons hO hP
    have hDq : va_D (wA ad qo s.heap.size) ((qo, eL cl f) :: cW ad cy (pm) (rj) (σ)) := wApart hi hqa (Or.inr rfl) (fun k hk => Or.inl (Or.inl ⟨k, hk, rfl⟩))
    refine W.eq (g2 := F0 m 7 ls [.int (atO (f_findPrint σ id) 0 (fun k => bz (σ (9 + k) 9))), .int 0, .ref qo]) rfl ?_
    refine lv_if_eq (tgt := 14) hx hb dL_isLate_7 (by decide) (fun c_1 => ?_) (fun c_1 => ?_)
    · refine lv_lconst (v := 0) hx hb dL_isLate_14 rfl ?_
      refine W.eq (g2 := F0 m 15 ls [.long (Int32.toInt64 (atO (f_findPrint σ id) 0 (fun k => bz (σ (9 + k) 9)))), .int 0, .ref qo]) (by rw [c_1]; rfl) ?_
      refine va_last hx hb hK hPq hDq hS 0 6 rfl rfl (i := 0) (x := Int32.toInt64 (atO (f_findPrint σ id) 0 (fun k => bz (σ (9 + k) 9)))) vp01 dL_isLate_15 (fun H locs hP hD hS => ?_)
      refine lv_goto (tgt := 22) hx hb dL_isLate_16 (by decide) ?_
      refine lv_iconst (v := 0) hx hb dL_isLate_22 (by decide) ?_
      exact W.iret (v := 0) hx hb hr (fun T9 hT9 _ => ⟨by rw [hthr]; rfl, hS.F hT9, Or.inl ⟨hthr, by rw [hT9]; exact wTail hP, by rw [hT9]; exact wHead hP⟩⟩) hS.2.2 dL_isLate_23
    · refine lv_lconst (v := 1) hx hb dL_isLate_10 rfl ?_
      refine lv_goto (tgt := 15) hx hb dL_isLate_11 (by decide) ?_
      refine W.eq (g2 := F0 m 15 ls [.long (Int32.toInt64 (atO (f_findPrint σ id) 0 (fun k => bz (σ (9 + k) 9)))), .int 0, .ref qo]) (by rw [b01a c_1]; rfl) ?_
      refine va_last hx hb hK hPq hDq hS 0 6 rfl rfl (i := 0) (x := Int32.toInt64 (atO (f_findPrint σ id) 0 (fun k => bz (σ (9 + k) 9)))) vp01 dL_isLate_15 (fun H locs hP hD hS => ?_)
      refine lv_goto (tgt := 22) hx hb dL_isLate_16 (by decide) ?_
      refine lv_iconst (v := 0) hx hb dL_isLate_22 (by decide) ?_
      exact W.iret (v := 0) hx hb hr (fun T9 hT9 _ => ⟨by rw [hthr]; rfl, hS.F hT9, Or.inl ⟨hthr, by rw [hT9]; exact wTail hP, by rw [hT9]; exact wHead hP⟩⟩) hS.2.2 dL_isLate_23
