set_option maxHeartbeats 4000000 in
set_option maxRecDepth 100000 in
theorem c_L_previousPrint (l : Launch) (D : va_G) (ad : Nat → Nat) (cy : Nat → ClassId) (pm : Nat → Nat) (rj : Option Nat) (σ : Nat → Nat → Int32) (xq : Nat → Nat) (hst : l.stackTraces = false) (sz : Nat) (hi : sp_inj ad 459) (id : Int32) (cl cd : ClassId) (qo : Nat) (f : Nat → Int64) (g : Nat → UInt64) : Met l yL_previousPrint wsL_previousPrint ({ frames := 8, cells := 2, slots := 12, locals := 133 } : Room) (wPc xq ad D cy cl cd sz [.ref (ad 429), .int (id), .ref qo] (cW ad cy pm rj σ) qo (eL cl f) (fun _ => True)) (wQ ((f_xPrint σ id).or (atO (f_findPrint σ id) none (fun k => f_xFound (f_before σ k)))) [eIOO, eNSE] D qo (eL cl f) (eL cl (vp_updL f (0 : Int32).toNatClampNeg (Int32.toInt64 (atO (f_findPrint σ id) 0 (fun k => atO (f_before σ k) 0 (fun j => σ (9 + j) 1)))))) (cW ad cy (pm) (rj) (σ)) (sp_B D ad cy (pm) (σ) sz rj) (wA ad qo sz)) 2 12 (wA ad qo sz) := by
  refine va_MetW (cc := cL_previousPrint) (maxL := 4) (ret := (some .int)) (by decide) rfl ?_
  intro p e s m args below meth c s₁ B hml hv
  obtain ⟨rfl, hsz, hP, hO, hK, hE, hNC, hqa, hZ⟩ := hv
  have hx := B.exec
  have hb := B.bytes
  have hr := B.returns
  have hts := atoms_spec (ws := wsL_previousPrint) B.pre
  have hown : s.vm.findClass RL = some m.cls := findClass_of_methodNamed B.named
  have ht := vx_table (x := yL_previousPrint) B (hts _ (List.mem_of_getElem? (i := 0) rfl))
  subst hsz
  have hqo : qo < s.heap.size := hO.lt
  have hqz := wNot hqa hqo
  have hS : va_S (wA ad qo s.heap.size) s.heap s.heap [] := va_S.rf
  have hKg := hK.sub (tys' := tyG cy) [0, 1, 2, 3, 4, 5] rfl
  have hXI : XI [eIOO, eNSE] ((f_xPrint σ id).or (atO (f_findPrint σ id) none (fun k => f_xFound (f_before σ k)))) := XI.or (XI.fp List.mem_cons_self) (XI.at (fun k => XI.ff (List.mem_cons_of_mem _ List.mem_cons_self)))
  have hl := lv_entry ([.ref (ad 429), .int (id), .ref qo]) (n := 4) (Nat.le_of_ble_eq_true rfl)
  refine W.eq (lg_entry_eq _ ([.ref (ad 429), .int (id), .ref qo]) _) ?_
  generalize (lg_sl ([.ref (ad 429), .int (id), .ref qo]) ++ List.replicate (4 - (lg_sl ([.ref (ad 429), .int (id), .ref qo])).length) Slot.unset).toArray = ls at hl ⊢
  have hl : lv_has ls 4 [(0, .ref (ad 429)), (1, .int (id)), (2, .ref qo)] := hl
  refine lv_aload_n hx hb dL_previousPrint_0 rfl (lv_at hl 2 rfl) ?_
  refine lv_iconst (v := 0) hx hb dL_previousPrint_1 (by decide) ?_
  refine lv_aload_n hx hb dL_previousPrint_2 rfl (lv_at hl 0 rfl) ?_
  refine lv_iload_n hx hb dL_previousPrint_3 rfl (lv_at hl 1 rfl) ?_
  refine sp_callx (vx_runV (As := [.int (id)]) (rest := [.int 0, .ref qo]) ⟨hx, hb, hml, hown, hts⟩ (c_X9_previousPrint l D ad cy pm rj σ xq hst _ hi id) (cwV 1 hts gL_previousPrint_X9_previousPrint rfl rfl rfl (by decide +kernel) ⟨Nat.le_of_ble_eq_true rfl, Nat.le_of_ble_eq_true rfl⟩) (sp_preVmx hKg hP hE (κ := 429) (by decide) cE_sp rfl) rfl rfl hl.1 rfl (lv_room (Nat.le_of_ble_eq_true rfl)) dL_previousPrint_4 ⟨Nat.le_of_ble_eq_true rfl, Nat.le_of_ble_eq_true rfl⟩) hS (fun q _ h => Or.inl h) (fun q h => Or.inl h) (fun E_x r_x ce q9 H locs hthr hB hle hfr hS hce hcv hcl => ?_) (fun hthr H locs hP hle hfr hS => ?_)
  · have hO : va_at D vwCl (qo, eL cl f) H := hO.kept (hfr qo hqo hqz)
    have hmem := hXI E_x r_x hthr
    rcases List.mem_cons.mp hmem with rfl | hmem
    · refine vx_catch (name := "java/lang/IndexOutOfBoundsException") hown ([]) (⟨0, 9, 12, 20⟩ : ExceptionTableEntry) (tableOf [(0, 9, 15, 77)]) (by rw [ht]; rfl) (fun z hz => absurd hz List.not_mem_nil) (by decide) (by decide) (hts _ (List.mem_of_getElem? (i := 1) rfl)) (va_Nw.use rfl hE.k0) hce hcv hcl ?_
      refine lv_astore_n (lv' := [(3, .ref q9), (0, .ref (ad 429)), (1, .int (id)), (2, .ref qo)]) hx hb dL_previousPrint_12 rfl hl (by decide) rfl (fun ls hl => ?_)
      refine lv_iconst (v := 1) hx hb dL_previousPrint_13 (by decide) ?_
      exact W.iret (v := 1) hx hb hr (fun T9 hT9 _ => ⟨by rw [hthr]; exact congrArg (fun z9 => Outcome.returned (some (Value.int z9))) (kC_1).symm, hS.F hT9, Or.inr ⟨_, r_x, hthr, by rw [hT9]; exact hB, by rw [hT9]; exact hO⟩⟩) hS.2.2 dL_previousPrint_14
    · skip
      obtain rfl := List.mem_singleton.mp hmem
      refine vx_catch (name := "java/util/NoSuchElementException") hown (tableOf [(0, 9, 12, 20)]) (⟨0, 9, 15, 77⟩ : ExceptionTableEntry) (tableOf []) (by rw [ht]; rfl) (fun z hz => ((fun h9 => (List.mem_cons.mp h9).elim (fun e9 => by (subst e9; exact Or.inr ⟨by decide, "java/lang/IndexOutOfBoundsException", hts _ (List.mem_of_getElem? (i := 1) rfl), hNC _ _ (by decide +kernel) (by decide +kernel) (by decide +kernel)⟩)) (fun h9 => absurd h9 List.not_mem_nil)) : z ∈ tableOf [(0, 9, 12, 20)] → covers z 4 = false ∨ (z.catchType ≠ 0 ∧ ∃ nm : String, (Cond.classLink RL z.catchType nm).before _ s = true ∧ va_Nc eNSE nm s)) hz) (by decide) (by decide) (hts _ (List.mem_of_getElem? (i := 2) rfl)) (va_Nw.use rfl hE.k3) hce hcv hcl ?_
      refine lv_astore_n (lv' := [(3, .ref q9), (0, .ref (ad 429)), (1, .int (id)), (2, .ref qo)]) hx hb dL_previousPrint_15 rfl hl (by decide) rfl (fun ls hl => ?_)
      refine lv_iconst (v := 2) hx hb dL_previousPrint_16 (by decide) ?_
      exact W.iret (v := 2) hx hb hr (fun T9 hT9 _ => ⟨by rw [hthr]; exact congrArg (fun z9 => Outcome.returned (some (Value.int z9))) (kC_2 (by decide +kernel)).symm, hS.F hT9, Or.inr ⟨_, r_x, hthr, by rw [hT9]; exact hB, by rw [hT9]; exact hO⟩⟩) hS.2.2 dL_previousPrint_17
  · have hO : va_at D vwCl (qo, eL cl f) H := hO.kept (hfr qo hqo hqz)
    have hPq := wCons hO hP
    have hDq : va_D (wA ad qo s.heap.size) ((qo, eL cl f) :: cW ad cy (pm) (rj) (σ)) := wApart hi hqa (Or.inr rfl) (fun k hk => Or.inl (Or.inl ⟨k, hk, rfl⟩))
    refine W.eq (g2 := F0 m 7 ls [.int (atO (f_findPrint σ id) 0 (fun k => atO (f_before σ k) 0 (fun j => σ (9 + j) 1))), .int 0, .ref qo]) rfl ?_
    refine lv_i2l (v := Int32.toInt64 (atO (f_findPrint σ id) 0 (fun k => atO (f_before σ k) 0 (fun j => σ (9 + j) 1)))) hx hb dL_previousPrint_7 rfl ?_
    refine va_last hx hb hK hPq hDq hS 0 6 rfl rfl (i := 0) (x := Int32.toInt64 (atO (f_findPrint σ id) 0 (fun k => atO (f_before σ k) 0 (fun j => σ (9 + j) 1)))) vp01 dL_previousPrint_8 (fun H locs hP hD hS => ?_)
    refine lv_goto (tgt := 18) hx hb dL_previousPrint_9 (by decide) ?_
    refine lv_iconst (v := 0) hx hb dL_previousPrint_18 (by decide) ?_
    exact W.iret (v := 0) hx hb hr (fun T9 hT9 _ => ⟨by rw [hthr]; rfl, hS.F hT9, Or.inl ⟨hthr, by rw [hT9]; exact wTail hP, by rw [hT9]; exact wHead hP⟩⟩) hS.2.2 dL_previousPrint_19
set_option maxHeartbeats 4000000 in
set_option maxRecDepth 100000 in
theorem c_L_nextPrint (l : Launch) (D : va_G) (ad : Nat → Nat) (cy : Nat → ClassId) (pm : Nat → Nat) (rj : Option Nat) (σ : Nat → Nat → Int32) (xq : Nat → Nat) (hst : l.stackTraces = false) (sz : Nat) (hi : sp_inj ad 459) (id : Int32) (cl cd : ClassId) (qo : Nat) (f : Nat → Int64) (g : Nat → UInt64) : Met l yL_nextPrint wsL_nextPrint ({ frames := 8, cells := 2, slots := 12, locals := 133 } : Room) (wPc xq ad D cy cl cd sz [.ref (ad 429), .int (id), .ref qo] (cW ad cy pm rj σ) qo (eL cl f) (fun _ => True)) (wQ ((f_xPrint σ id).or (atO (f_findPrint σ id) none (fun k => f_xFound (f_after σ k)))) [eIOO, eNSE] D qo (eL cl f) (eL cl (vp_updL f (0 : Int32).toNatClampNeg (Int32.toInt64 (atO (f_findPrint σ id) 0 (fun k => atO (f_after σ k) 0 (fun j => σ (9 + j) 1)))))) (cW ad cy (pm) (rj) (σ)) (sp_B D ad cy (pm) (σ) sz rj) (wA ad qo sz)) 2 12 (wA ad qo sz) := by
  refine va_MetW (cc := cL_nextPrint) (maxL := 4) (ret := (some .int)) (by decide) rfl ?_
  intro p e s m args below meth c s₁ B hml hv
  obtain ⟨rfl, hsz, hP, hO, hK, hE, hNC, hqa, hZ⟩ := hv
  have hx := B.exec
  have hb := B.bytes
  have hr := B.returns
  have hts := atoms_spec (ws := wsL_nextPrint) B.pre
  have hown : s.vm.findClass RL = some m.cls := findClass_of_methodNamed B.named
  have ht := vx_table (x := yL_nextPrint) B (hts _ (List.mem_of_getElem? (i := 0) rfl))
  subst hsz
  have hqo : qo < s.heap.size := hO.lt
  have hqz := wNot hqa hqo
  have hS : va_S (wA ad qo s.heap.size) s.heap s.heap [] := va_S.rf
  have hKg := hK.sub (tys' := tyG cy) [0, 1, 2, 3, 4, 5] rfl
  have hXI : XI [eIOO, eNSE] ((f_xPrint σ id).or (atO (f_findPrint σ id) none (fun k => f_xFound (f_after σ k)))) := XI.or (XI.fp List.mem_cons_self) (XI.at (fun k => XI.ff (List.mem_cons_of_mem _ List.mem_cons_self)))
  have hl := lv_entry ([.ref (ad 429), .int (id), .ref qo]) (n := 4) (Nat.le_of_ble_eq_true rfl)
  refine W.eq (lg_entry_eq _ ([.ref (ad 429), .int (id), .ref qo]) _) ?_
  generalize (lg_sl ([.ref (ad 429), .int (id), .ref qo]) ++ List.replicate (4 - (lg_sl ([.ref (ad 429), .int (id), .ref qo])).length) Slot.unset).toArray = ls at hl ⊢
  have hl : lv_has ls 4 [(0, .ref (ad 429)), (1, .int (id)), (2, .ref qo)] := hl
  refine lv_aload_n hx hb dL_nextPrint_0 rfl (lv_at hl 2 rfl) ?_
  refine lv_iconst (v := 0) hx hb dL_nextPrint_1 (by decide) ?_
  refine lv_aload_n hx hb dL_nextPrint_2 rfl (lv_at hl 0 rfl) ?_
  refine lv_iload_n hx hb dL_nextPrint_3 rfl (lv_at hl 1 rfl) ?_
  refine sp_callx (vx_runV (As := [.int (id)]) (rest := [.int 0, .ref qo]) ⟨hx, hb, hml, hown, hts⟩ (c_X9_nextPrint l D ad cy pm rj σ xq hst _ hi id) (cwV 1 hts gL_nextPrint_X9_nextPrint rfl rfl rfl (by decide +kernel) ⟨Nat.le_of_ble_eq_true rfl, Nat.le_of_ble_eq_true rfl⟩) (sp_preVmx hKg hP hE (κ := 429) (by decide) cE_sp rfl) rfl rfl hl.1 rfl (lv_room (Nat.le_of_ble_eq_true rfl)) dL_nextPrint_4 ⟨Nat.le_of_ble_eq_true rfl, Nat.le_of_ble_eq_true rfl⟩) hS (fun q _ h => Or.inl h) (fun q h => Or.inl h) (fun E_x r_x ce q9 H locs hthr hB hle hfr hS hce hcv hcl => ?_) (fun hthr H locs hP hle hfr hS => ?_)
  · have hO : va_at D vwCl (qo, eL cl f) H := hO.kept (hfr qo hqo hqz)
    have hmem := hXI E_x r_x hthr
    rcases List.mem_cons.mp hmem with rfl | hmem
    · refine vx_catch (name := "java/lang/IndexOutOfBoundsException") hown ([]) (⟨0, 9, 12, 20⟩ : ExceptionTableEntry) (tableOf [(0, 9, 15, 77)]) (by rw [ht]; rfl) (fun z hz => absurd hz List.not_mem_nil) (by decide) (by decide) (hts _ (List.mem_of_getElem? (i := 1) rfl)) (va_Nw.use rfl hE.k0) hce hcv hcl ?_
      refine lv_astore_n (lv' := [(3, .ref q9), (0, .ref (ad 429)), (1, .int (id)), (2, .ref qo)]) hx hb dL_nextPrint_12 rfl hl (by decide) rfl (fun ls hl => ?_)
      refine lv_iconst (v := 1) hx hb dL_nextPrint_13 (by decide) ?_
      exact W.iret (v := 1) hx hb hr (fun T9 hT9 _ => ⟨by rw [hthr]; exact congrArg (fun z9 => Outcome.returned (some (Value.int z9))) (kC_1).symm, hS.F hT9, Or.inr ⟨_, r_x, hthr, by rw [hT9]; exact hB, by rw [hT9]; exact hO⟩⟩) hS.2.2 dL_nextPrint_14
    · skip
      obtain rfl := List.mem_singleton.mp hmem
      refine vx_catch (name := "java/util/NoSuchElementException") hown (tableOf [(0, 9, 12, 20)]) (⟨0, 9, 15, 77⟩ : ExceptionTableEntry) (tableOf []) (by rw [ht]; rfl) (fun z hz => ((fun h9 => (List.mem_cons.mp h9).elim (fun e9 => by (subst e9; exact Or.inr ⟨by decide, "java/lang/IndexOutOfBoundsException", hts _ (List.mem_of_getElem? (i := 1) rfl), hNC _ _ (by decide +kernel) (by decide +kernel) (by decide +kernel)⟩)) (fun h9 => absurd h9 List.not_mem_nil)) : z ∈ tableOf [(0, 9, 12, 20)] → covers z 4 = false ∨ (z.catchType ≠ 0 ∧ ∃ nm : String, (Cond.classLink RL z.catchType nm).before _ s = true ∧ va_Nc eNSE nm s)) hz) (by decide) (by decide) (hts _ (List.mem_of_getElem? (i := 2) rfl)) (va_Nw.use rfl hE.k3) hce hcv hcl ?_
      refine lv_astore_n (lv' := [(3, .ref q9), (0, .ref (ad 429)), (1, .int (id)), (2, .ref qo)]) hx hb dL_nextPrint_15 rfl hl (by decide) rfl (fun ls hl => ?_)
      refine lv_iconst (v := 2) hx hb dL_nextPrint_16 (by decide) ?_
      exact W.iret (v := 2) hx hb hr (fun T9 hT9 _ => ⟨by rw [hthr]; exact congrArg (fun z9 => Outcome.returned (some (Value.int z9))) (kC_2 (by decide +kernel)).symm, hS.F hT9, Or.inr ⟨_, r_x, hthr, by rw [hT9]; exact hB, by rw [hT9]; exact hO⟩⟩) hS.2.2 dL_nextPrint_17
  · have hO : va_at D vwCl (qo, eL cl f) H := hO.kept (hfr qo hqo hqz)
    have hPq := wCons hO hP
    have hDq : va_D (wA ad qo s.heap.size) ((qo, eL cl f) :: cW ad cy (pm) (rj) (σ)) := wApart hi hqa (Or.inr rfl) (fun k hk => Or.inl (Or.inl ⟨k, hk, rfl⟩))
    refine W.eq (g2 := F0 m 7 ls [.int (atO (f_findPrint σ id) 0 (fun k => atO (f_after σ k) 0 (fun j => σ (9 + j) 1))), .int 0, .ref qo]) rfl ?_
    refine lv_i2l (v := Int32.toInt64 (atO (f_findPrint σ id) 0 (fun k => atO (f_after σ k) 0 (fun j => σ (9 + j) 1)))) hx hb dL_nextPrint_7 rfl ?_
    refine va_last hx hb hK hPq hDq hS 0 6 rfl rfl (i := 0) (x := Int32.toInt64 (atO (f_findPrint σ id) 0 (fun k => atO (f_after σ k) 0 (fun j => σ (9 + j) 1)))) vp01 dL_nextPrint_8 (fun H locs hP hD hS => ?_)
    refine lv_goto (tgt := 18) hx hb dL_nextPrint_9 (by decide) ?_
    refine lv_iconst (v := 0) hx hb dL_nextPrint_18 (by decide) ?_
    exact W.iret (v := 0) hx hb hr (fun T9 hT9 _ => ⟨by rw [hthr]; rfl, hS.F hT9, Or.inl ⟨hthr, by rw [hT9]; exact wTail hP, by rw [hT9]; exact wHead hP⟩⟩) hS.2.2 dL_nextPrint_19
set_option maxHeartbeats 4000000 in
set_option maxRecDepth 100000 in
theorem c_L_strideOf (l : Launch) (D : va_G) (ad : Nat → Nat) (cy : Nat → ClassId) (pm : Nat → Nat) (rj : Option Nat) (σ : Nat → Nat → Int32) (xq : Nat → Nat) (hst : l.stackTraces = false) (sz : Nat) (hi : sp_inj ad 459) (id : Int32) (cl cd : ClassId) (qo : Nat) (f : Nat → Int64) (g : Nat → UInt64) : Met l yL_strideOf wsL_strideOf ({ frames := 8, cells := 2, slots := 12, locals := 135 } : Room) (wPc xq ad D cy cl cd sz [.ref (ad 429), .int (id), .ref qo] (cW ad cy pm rj σ) qo (eL cl f) (fun _ => True)) (wQ ((f_xPrint σ id).or (atO (f_findPrint σ id) none (fun k => f_xFound (f_before σ k)))) [eIOO, eNSE] D qo (eL cl f) (eL cl (vp_updL f (0 : Int32).toNatClampNeg (Int32.toInt64 (atO (f_findPrint σ id) 0 (fun k => atO (f_before σ k) 0 (fun j => f_dist σ (9 + k) (σ (9 + j) 4) (σ (9 + j) 5))))))) (cW ad cy (pm) (rj) (σ)) (sp_B D ad cy (pm) (σ) sz rj) (wA ad qo sz)) 2 12 (wA ad qo sz) := by
  refine va_MetW (cc := cL_strideOf) (maxL := 4) (ret := (some .int)) (by decide) rfl ?_
  intro p e s m args below meth c s₁ B hml hv
  obtain ⟨rfl, hsz, hP, hO, hK, hE, hNC, hqa, hZ⟩ := hv
  have hx := B.exec
  have hb := B.bytes
  have hr := B.returns
  have hts := atoms_spec (ws := wsL_strideOf) B.pre
  have hown : s.vm.findClass RL = some m.cls := findClass_of_methodNamed B.named
  have ht := vx_table (x := yL_strideOf) B (hts _ (List.mem_of_getElem? (i := 0) rfl))
  subst hsz
  have hqo : qo < s.heap.size := hO.lt
  have hqz := wNot hqa hqo
  have hS : va_S (wA ad qo s.heap.size) s.heap s.heap [] := va_S.rf
  have hKg := hK.sub (tys' := tyG cy) [0, 1, 2, 3, 4, 5] rfl
  have hXI : XI [eIOO, eNSE] ((f_xPrint σ id).or (atO (f_findPrint σ id) none (fun k => f_xFound (f_before σ k)))) := XI.or (XI.fp List.mem_cons_self) (XI.at (fun k => XI.ff (List.mem_cons_of_mem _ List.mem_cons_self)))
  have hl := lv_entry ([.ref (ad 429), .int (id), .ref qo]) (n := 4) (Nat.le_of_ble_eq_true rfl)
  refine W.eq (lg_entry_eq _ ([.ref (ad 429), .int (id), .ref qo]) _) ?_
  generalize (lg_sl ([.ref (ad 429), .int (id), .ref qo]) ++ List.replicate (4 - (lg_sl ([.ref (ad 429), .int (id), .ref qo])).length) Slot.unset).toArray = ls at hl ⊢
  have hl : lv_has ls 4 [(0, .ref (ad 429)), (1, .int (id)), (2, .ref qo)] := hl
  refine lv_aload_n hx hb dL_strideOf_0 rfl (lv_at hl 2 rfl) ?_
  refine lv_iconst (v := 0) hx hb dL_strideOf_1 (by decide) ?_
  refine lv_aload_n hx hb dL_strideOf_2 rfl (lv_at hl 0 rfl) ?_
  refine lv_iload_n hx hb dL_strideOf_3 rfl (lv_at hl 1 rfl) ?_
  refine sp_callx (vx_runV (As := [.int (id)]) (rest := [.int 0, .ref qo]) ⟨hx, hb, hml, hown, hts⟩ (c_X9_strideOf l D ad cy pm rj σ xq hst _ hi id) (cwV 1 hts gL_strideOf_X9_strideOf rfl rfl rfl (by decide +kernel) ⟨Nat.le_of_ble_eq_true rfl, Nat.le_of_ble_eq_true rfl⟩) (sp_preVmx hKg hP hE (κ := 429) (by decide) cE_sp rfl) rfl rfl hl.1 rfl (lv_room (Nat.le_of_ble_eq_true rfl)) dL_strideOf_4 ⟨Nat.le_of_ble_eq_true rfl, Nat.le_of_ble_eq_true rfl⟩) hS (fun q _ h => Or.inl h) (fun q h => Or.inl h) (fun E_x r_x ce q9 H locs hthr hB hle hfr hS hce hcv hcl => ?_) (fun hthr H locs hP hle hfr hS => ?_)
  · have hO : va_at D vwCl (qo, eL cl f) H := hO.kept (hfr qo hqo hqz)
    have hmem := hXI E_x r_x hthr
    rcases List.mem_cons.mp hmem with rfl | hmem
    · refine vx_catch (name := "java/lang/IndexOutOfBoundsException") hown ([]) (⟨0, 9, 12, 20⟩ : ExceptionTableEntry) (tableOf [(0, 9, 15, 77)]) (by rw [ht]; rfl) (fun z hz => absurd hz List.not_mem_nil) (by decide) (by decide) (hts _ (List.mem_of_getElem? (i := 1) rfl)) (va_Nw.use rfl hE.k0) hce hcv hcl ?_
      refine lv_astore_n (lv' := [(3, .ref q9), (0, .ref (ad 429)), (1, .int (id)), (2, .ref qo)]) hx hb dL_strideOf_12 rfl hl (by decide) rfl (fun ls hl => ?_)
      refine lv_iconst (v := 1) hx hb dL_strideOf_13 (by decide) ?_
      exact W.iret (v := 1) hx hb hr (fun T9 hT9 _ => ⟨by rw [hthr]; exact congrArg (fun z9 => Outcome.returned (some (Value.int z9))) (kC_1).symm, hS.F hT9, Or.inr ⟨_, r_x, hthr, by rw [hT9]; exact hB, by rw [hT9]; exact hO⟩⟩) hS.2.2 dL_strideOf_14
    · skip
      obtain rfl := List.mem_singleton.mp hmem
      refine vx_catch (name := "java/util/NoSuchElementException") hown (tableOf [(0, 9, 12, 20)]) (⟨0, 9, 15, 77⟩ : ExceptionTableEntry) (tableOf []) (by rw [ht]; rfl) (fun z hz => ((fun h9 => (List.mem_cons.mp h9).elim (fun e9 => by (subst e9; exact Or.inr ⟨by decide, "java/lang/IndexOutOfBoundsException", hts _ (List.mem_of_getElem? (i := 1) rfl), hNC _ _ (by decide +kernel) (by decide +kernel) (by decide +kernel)⟩)) (fun h9 => absurd h9 List.not_mem_nil)) : z ∈ tableOf [(0, 9, 12, 20)] → covers z 4 = false ∨ (z.catchType ≠ 0 ∧ ∃ nm : String, (Cond.classLink RL z.catchType nm).before _ s = true ∧ va_Nc eNSE nm s)) hz) (by decide) (by decide) (hts _ (List.mem_of_getElem? (i := 2) rfl)) (va_Nw.use rfl hE.k3) hce hcv hcl ?_
      refine lv_astore_n (lv' := [(3, .ref q9), (0, .ref (ad 429)), (1, .int (id)), (2, .ref qo)]) hx hb dL_strideOf_15 rfl hl (by decide) rfl (fun ls hl => ?_)
      refine lv_iconst (v := 2) hx hb dL_strideOf_16 (by decide) ?_
      exact W.iret (v := 2) hx hb hr (fun T9 hT9 _ => ⟨by rw [hthr]; exact congrArg (fun z9 => Outcome.returned (some (Value.int z9))) (kC_2 (by decide +kernel)).symm, hS.F hT9, Or.inr ⟨_, r_x, hthr, by rw [hT9]; exact hB, by rw [hT9]; exact hO⟩⟩) hS.2.2 dL_strideOf_17
  · have hO : va_at D vwCl (qo, eL cl f) H := hO.kept (hfr qo hqo hqz)
    have hPq := wCons hO hP
    have hDq : va_D (wA ad qo s.heap.size) ((qo, eL cl f) :: cW ad cy (pm) (rj) (σ)) := wApart hi hqa (Or.inr rfl) (fun k hk => Or.inl (Or.inl ⟨k, hk, rfl⟩))
    refine W.eq (g2 := F0 m 7 ls [.int (atO (f_findPrint σ id) 0 (fun k => atO (f_before σ k) 0 (fun j => f_dist σ (9 + k) (σ (9 + j) 4) (σ (9 + j) 5)))), .int 0, .ref qo]) rfl ?_
    refine lv_i2l (v := Int32.toInt64 (atO (f_findPrint σ id) 0 (fun k => atO (f_before σ k) 0 (fun j => f_dist σ (9 + k) (σ (9 + j) 4) (σ (9 + j) 5))))) hx hb dL_strideOf_7 rfl ?_
    refine va_last hx hb hK hPq hDq hS 0 6 rfl rfl (i := 0) (x := Int32.toInt64 (atO (f_findPrint σ id) 0 (fun k => atO (f_before σ k) 0 (fun j => f_dist σ (9 + k) (σ (9 + j) 4) (σ (9 + j) 5))))) vp01 dL_strideOf_8 (fun H locs hP hD hS => ?_)
    refine lv_goto (tgt := 18) hx hb dL_strideOf_9 (by decide) ?_
    refine lv_iconst (v := 0) hx hb dL_strideOf_18 (by decide) ?_
    exact W.iret (v := 0) hx hb hr (fun T9 hT9 _ => ⟨by rw [hthr]; rfl, hS.F hT9, Or.inl ⟨hthr, by rw [hT9]; exact wTail hP, by rw [hT9]; exact wHead hP⟩⟩) hS.2.2 dL_strideOf_19
set_option maxHeartbeats 4000000 in
set_option maxRecDepth 100000 in
theorem c_L_hasStrideError (l : Launch) (D : va_G) (ad : Nat → Nat) (cy : Nat → ClassId) (pm : Nat → Nat) (rj : Option Nat) (σ : Nat → Nat → Int32) (xq : Nat → Nat) (hst : l.stackTraces = false) (sz : Nat) (hi : sp_inj ad 459) (id : Int32) (cl cd : ClassId) (qo : Nat) (f : Nat → Int64) (g : Nat → UInt64) : Met l yL_hasStrideError wsL_hasStrideError ({ frames := 8, cells := 1, slots := 6, locals := 133 } : Room) (wPc xq ad D cy cl cd sz [.ref (ad 429), .int (id), .ref qo] (cW ad cy pm rj σ) qo (eL cl f) (fun _ => True)) (wQ (f_xPrint σ id) [eIOO] D qo (eL cl f) (eL cl (vp_updL f (0 : Int32).toNatClampNeg (Int32.toInt64 (b2i (atO (f_findPrint σ id) false (fun k => f_tooLong σ (f_before σ k) k)))))) (cW ad cy (pm) (rj) (σ)) (sp_B D ad cy (pm) (σ) sz rj) (wA ad qo sz)) 1 6 (wA ad qo sz) := by
  refine va_MetW (cc := cL_hasStrideError) (maxL := 4) (ret := (some .int)) (by decide) rfl ?_
  intro p e s m args below meth c s₁ B hml hv
  obtain ⟨rfl, hsz, hP, hO, hK, hE, hNC, hqa, hZ⟩ := hv
  have hx := B.exec
  have hb := B.bytes
  have hr := B.returns
  have hts := atoms_spec (ws := wsL_hasStrideError) B.pre
  have hown : s.vm.findClass RL = some m.cls := findClass_of_methodNamed B.named
  have ht := vx_table (x := yL_hasStrideError) B (hts _ (List.mem_of_getElem? (i := 0) rfl))
  subst hsz
  have hqo : qo < s.heap.size := hO.lt
  have hqz := wNot hqa hqo
  have hS : va_S (wA ad qo s.heap.size) s.heap s.heap [] := va_S.rf
  have hKg := hK.sub (tys' := tyG cy) [0, 1, 2, 3, 4, 5] rfl
  have hXI : XI [eIOO] (f_xPrint σ id) := XI.fp List.mem_cons_self
  have hl := lv_entry ([.ref (ad 429), .int (id), .ref qo]) (n := 4) (Nat.le_of_ble_eq_true rfl)
  refine W.eq (lg_entry_eq _ ([.ref (ad 429), .int (id), .ref qo]) _) ?_
  generalize (lg_sl ([.ref (ad 429), .int (id), .ref qo]) ++ List.replicate (4 - (lg_sl ([.ref (ad 429), .int (id), .ref qo])).length) Slot.unset).toArray = ls at hl ⊢
  have hl : lv_has ls 4 [(0, .ref (ad 429)), (1, .int (id)), (2, .ref qo)] := hl
  refine lv_aload_n hx hb dL_hasStrideError_0 rfl (lv_at hl 2 rfl) ?_
  refine lv_iconst (v := 0) hx hb dL_hasStrideError_1 (by decide) ?_
  refine lv_aload_n hx hb dL_hasStrideError_2 rfl (lv_at hl 0 rfl) ?_
  refine lv_iload_n hx hb dL_hasStrideError_3 rfl (lv_at hl 1 rfl) ?_
  refine sp_callx (vx_runV (As := [.int (id)]) (rest := [.int 0, .ref qo]) ⟨hx, hb, hml, hown, hts⟩ (c_X9_hasStrideError l D ad cy pm rj σ xq hst _ hi id) (cwV 1 hts gL_hasStrideError_X9_hasStrideError rfl rfl rfl (by decide +kernel) ⟨Nat.le_of_ble_eq_true rfl, Nat.le_of_ble_eq_true rfl⟩) (sp_preVmx hKg hP hE (κ := 429) (by decide) cE_sp rfl) rfl rfl hl.1 rfl (lv_room (Nat.le_of_ble_eq_true rfl)) dL_hasStrideError_4 ⟨Nat.le_of_ble_eq_true rfl, Nat.le_of_ble_eq_true rfl⟩) hS (fun q _ h => Or.inl h) (fun q h => Or.inl h) (fun E_x r_x ce q9 H locs hthr hB hle hfr hS hce hcv hcl => ?_) (fun hthr H locs hP hle hfr hS => ?_)
  · have hO : va_at D vwCl (qo, eL cl f) H := hO.kept (hfr qo hqo hqz)
    have hmem := hXI E_x r_x hthr
    obtain rfl := List.mem_singleton.mp hmem
    refine vx_catch (name := "java/lang/IndexOutOfBoundsException") hown ([]) (⟨0, 16, 19, 20⟩ : ExceptionTableEntry) (tableOf []) (by rw [ht]; rfl) (fun z hz => absurd hz List.not_mem_nil) (by decide) (by decide) (hts _ (List.mem_of_getElem? (i := 1) rfl)) (va_Nw.use rfl hE.k0) hce hcv hcl ?_
    refine lv_astore_n (lv' := [(3, .ref q9), (0, .ref (ad 429)), (1, .int (id)), (2, .ref qo)]) hx hb dL_hasStrideError_19 rfl hl (by decide) rfl (fun ls hl => ?_)
    refine lv_iconst (v := 1) hx hb dL_hasStrideError_20 (by decide) ?_
    exact W.iret (v := 1) hx hb hr (fun T9 hT9 _ => ⟨by rw [hthr]; exact congrArg (fun z9 => Outcome.returned (some (Value.int z9))) (kC_1).symm, hS.F hT9, Or.inr ⟨_, r_x, hthr, by rw [hT9]; exact hB, by rw [hT9]; exact hO⟩⟩) hS.2.2 dL_hasStrideError_21
  · have hO : va_at D vwCl (qo, eL cl f) H := hO.kept (hfr qo hqo hqz)
    have hPq := wCons hO hP
    have hDq : va_D (wA ad qo s.heap.size) ((qo, eL cl f) :: cW ad cy (pm) (rj) (σ)) := wApart hi hqa (Or.inr rfl) (fun k hk => Or.inl (Or.inl ⟨k, hk, rfl⟩))
    refine W.eq (g2 := F0 m 7 ls [.int (b2i (atO (f_findPrint σ id) false (fun k => f_tooLong σ (f_before σ k) k))), .int 0, .ref qo]) rfl ?_
    refine lv_if_eq (tgt := 14) hx hb dL_hasStrideError_7 (by decide) (fun c_1 => ?_) (fun c_1 => ?_)
    · refine lv_lconst (v := 0) hx hb dL_hasStrideError_14 rfl ?_
      refine W.eq (g2 := F0 m 15 ls [.long (Int32.toInt64 (b2i (atO (f_findPrint σ id) false (fun k => f_tooLong σ (f_before σ k) k)))), .int 0, .ref qo]) (by rw [c_1]; rfl) ?_
      refine va_last hx hb hK hPq hDq hS 0 6 rfl rfl (i := 0) (x := Int32.toInt64 (b2i (atO (f_findPrint σ id) false (fun k => f_tooLong σ (f_before σ k) k)))) vp01 dL_hasStrideError_15 (fun H locs hP hD hS => ?_)
      refine lv_goto (tgt := 22) hx hb dL_hasStrideError_16 (by decide) ?_
      refine lv_iconst (v := 0) hx hb dL_hasStrideError_22 (by decide) ?_
      exact W.iret (v := 0) hx hb hr (fun T9 hT9 _ => ⟨by rw [hthr]; rfl, hS.F hT9, Or.inl ⟨hthr, by rw [hT9]; exact wTail hP, by rw [hT9]; exact wHead hP⟩⟩) hS.2.2 dL_hasStrideError_23
    · refine lv_lconst (v := 1) hx hb dL_hasStrideError_10 rfl ?_
      refine lv_goto (tgt := 15) hx hb dL_hasStrideError_11 (by decide) ?_
      refine W.eq (g2 := F0 m 15 ls [.long (Int32.toInt64 (b2i (atO (f_findPrint σ id) false (fun k => f_tooLong σ (f_before σ k) k)))), .int 0, .ref qo]) (by rw [b01 c_1]; rfl) ?_
      refine va_last hx hb hK hPq hDq hS 0 6 rfl rfl (i := 0) (x := Int32.toInt64 (b2i (atO (f_findPrint σ id) false (fun k => f_tooLong σ (f_before σ k) k)))) vp01 dL_hasStrideError_15 (fun H locs hP hD hS => ?_)
      refine lv_goto (tgt := 22) hx hb dL_hasStrideError_16 (by decide) ?_
      refine lv_iconst (v := 0) hx hb dL_hasStrideError_22 (by decide) ?_
      exact W.iret (v := 0) hx hb hr (fun T9 hT9 _ => ⟨by rw [hthr]; rfl, hS.F hT9, Or.inl ⟨hthr, by rw [hT9]; exact wTail hP, by rw [hT9]; exact wHead hP⟩⟩) hS.2.2 dL_hasStrideError_23
set_option maxHeartbeats 4000000 in
set_option maxRecDepth 100000 in
theorem c_L_hasFootError (l : Launch) (D : va_G) (ad : Nat → Nat) (cy : Nat → ClassId) (pm : Nat → Nat) (rj : Option Nat) (σ : Nat → Nat → Int32) (xq : Nat → Nat) (hst : l.stackTraces = false) (sz : Nat) (hi : sp_inj ad 459) (id : Int32) (cl cd : ClassId) (qo : Nat) (f : Nat → Int64) (g : Nat → UInt64) : Met l yL_hasFootError wsL_hasFootError ({ frames := 8, cells := 1, slots := 6, locals := 133 } : Room) (wPc xq ad D cy cl cd sz [.ref (ad 429), .int (id), .ref qo] (cW ad cy pm rj σ) qo (eL cl f) (fun _ => True)) (wQ (f_xPrint σ id) [eIOO] D qo (eL cl f) (eL cl (vp_updL f (0 : Int32).toNatClampNeg (Int32.toInt64 (b2i (atO (f_findPrint σ id) false (fun k => f_sameFoot σ (f_before σ k) k)))))) (cW ad cy (pm) (rj) (σ)) (sp_B D ad cy (pm) (σ) sz rj) (wA ad qo sz)) 1 6 (wA ad qo sz) := by
  refine va_MetW (cc := cL_hasFootError) (maxL := 4) (ret := (some .int)) (by decide) rfl ?_
  intro p e s m args below meth c s₁ B hml hv
  obtain ⟨rfl, hsz, hP, hO, hK, hE, hNC, hqa, hZ⟩ := hv
  have hx := B.exec
  have hb := B.bytes
  have hr := B.returns
  have hts := atoms_spec (ws := wsL_hasFootError) B.pre
  have hown : s.vm.findClass RL = some m.cls := findClass_of_methodNamed B.named
  have ht := vx_table (x := yL_hasFootError) B (hts _ (List.mem_of_getElem? (i := 0) rfl))
  subst hsz
  have hqo : qo < s.heap.size := hO.lt
  have hqz := wNot hqa hqo
  have hS : va_S (wA ad qo s.heap.size) s.heap s.heap [] := va_S.rf
  have hKg := hK.sub (tys' := tyG cy) [0, 1, 2, 3, 4, 5] rfl
  have hXI : XI [eIOO] (f_xPrint σ id) := XI.fp List.mem_cons_self
  have hl := lv_entry ([.ref (ad 429), .int (id), .ref qo]) (n := 4) (Nat.le_of_ble_eq_true rfl)
  refine W.eq (lg_entry_eq _ ([.ref (ad 429), .int (id), .ref qo]) _) ?_
  generalize (lg_sl ([.ref (ad 429), .int (id), .ref qo]) ++ List.replicate (4 - (lg_sl ([.ref (ad 429), .int (id), .ref qo])).length) Slot.unset).toArray = ls at hl ⊢
  have hl : lv_has ls 4 [(0, .ref (ad 429)), (1, .int (id)), (2, .ref qo)] := hl
  refine lv_aload_n hx hb dL_hasFootError_0 rfl (lv_at hl 2 rfl) ?_
  refine lv_iconst (v := 0) hx hb dL_hasFootError_1 (by decide) ?_
  refine lv_aload_n hx hb dL_hasFootError_2 rfl (lv_at hl 0 rfl) ?_
  refine lv_iload_n hx hb dL_hasFootError_3 rfl (lv_at hl 1 rfl) ?_
  refine sp_callx (vx_runV (As := [.int (id)]) (rest := [.int 0, .ref qo]) ⟨hx, hb, hml, hown, hts⟩ (c_X9_hasFootError l D ad cy pm rj σ xq hst _ hi id) (cwV 1 hts gL_hasFootError_X9_hasFootError rfl rfl rfl (by decide +kernel) ⟨Nat.le_of_ble_eq_true rfl, Nat.le_of_ble_eq_true rfl⟩) (sp_preVmx hKg hP hE (κ := 429) (by decide) cE_sp rfl) rfl rfl hl.1 rfl (lv_room (Nat.le_of_ble_eq_true rfl)) dL_hasFootError_4 ⟨Nat.le_of_ble_eq_true rfl, Nat.le_of_ble_eq_true rfl⟩) hS (fun q _ h => Or.inl h) (fun q h => Or.inl h) (fun E_x r_x ce q9 H locs hthr hB hle hfr hS hce hcv hcl => ?_) (fun hthr H locs hP hle hfr hS => ?_)
  · have hO : va_at D vwCl (qo, eL cl f) H := hO.kept (hfr qo hqo hqz)
    have hmem := hXI E_x r_x hthr
    obtain rfl := List.mem_singleton.mp hmem
    refine vx_catch (name := "java/lang/IndexOutOfBoundsException") hown ([]) (⟨0, 16, 19, 20⟩ : ExceptionTableEntry) (tableOf []) (by rw [ht]; rfl) (fun z hz => absurd hz List.not_mem_nil) (by decide) (by decide) (hts _ (List.mem_of_getElem? (i := 1) rfl)) (va_Nw.use rfl hE.k0) hce hcv hcl ?_
    refine lv_astore_n (lv' := [(3, .ref q9), (0, .ref (ad 429)), (1, .int (id)), (2, .ref qo)]) hx hb dL_hasFootError_19 rfl hl (by decide) rfl (fun ls hl => ?_)
    refine lv_iconst (v := 1) hx hb dL_hasFootError_20 (by decide) ?_
    exact W.iret (v := 1) hx hb hr (fun T9 hT9 _ => ⟨by rw [hthr]; exact congrArg (fun z9 => Outcome.returned (some (Value.int z9))) (kC_1).symm, hS.F hT9, Or.inr ⟨_, r_x, hthr, by rw [hT9]; exact hB, by rw [hT9]; exact hO⟩⟩) hS.2.2 dL_hasFootError_21
  · have hO : va_at D vwCl (qo, eL cl f) H := hO.kept (hfr qo hqo hqz)
    have hPq := wCons hO hP
    have hDq : va_D (wA ad qo s.heap.size) ((qo, eL cl f) :: cW ad cy (pm) (rj) (σ)) := wApart hi hqa (Or.inr rfl) (fun k hk => Or.inl (Or.inl ⟨k, hk, rfl⟩))
    refine W.eq (g2 := F0 m 7 ls [.int (b2i (atO (f_findPrint σ id) false (fun k => f_sameFoot σ (f_before σ k) k))), .int 0, .ref qo]) rfl ?_
    refine lv_if_eq (tgt := 14) hx hb dL_hasFootError_7 (by decide) (fun c_1 => ?_) (fun c_1 => ?_)
    · refine lv_lconst (v := 0) hx hb dL_hasFootError_14 rfl ?_
      refine W.eq (g2 := F0 m 15 ls [.long (Int32.toInt64 (b2i (atO (f_findPrint σ id) false (fun k => f_sameFoot σ (f_before σ k) k)))), .int 0, .ref qo]) (by rw [c_1]; rfl) ?_
      refine va_last hx hb hK hPq hDq hS 0 6 rfl rfl (i := 0) (x := Int32.toInt64 (b2i (atO (f_findPrint σ id) false (fun k => f_sameFoot σ (f_before σ k) k)))) vp01 dL_hasFootError_15 (fun H locs hP hD hS => ?_)
      refine lv_goto (tgt := 22) hx hb dL_hasFootError_16 (by decide) ?_
      refine lv_iconst (v := 0) hx hb dL_hasFootError_22 (by decide) ?_
      exact W.iret (v := 0) hx hb hr (fun T9 hT9 _ => ⟨by rw [hthr]; rfl, hS.F hT9, Or.inl ⟨hthr, by rw [hT9]; exact wTail hP, by rw [hT9]; exact wHead hP⟩⟩) hS.2.2 dL_hasFootError_23
    · refine lv_lconst (v := 1) hx hb dL_hasFootError_10 rfl ?_
      refine lv_goto (tgt := 15) hx hb dL_hasFootError_11 (by decide) ?_
      refine W.eq (g2 := F0 m 15 ls [.long (Int32.toInt64 (b2i (atO (f_findPrint σ id) false (fun k => f_sameFoot σ (f_before σ k) k)))), .int 0, .ref qo]) (by rw [b01 c_1]; rfl) ?_
      refine va_last hx hb hK hPq hDq hS 0 6 rfl rfl (i := 0) (x := Int32.toInt64 (b2i (atO (f_findPrint σ id) false (fun k => f_sameFoot σ (f_before σ k) k)))) vp01 dL_hasFootError_15 (fun H locs hP hD hS => ?_)
      refine lv_goto (tgt := 22) hx hb dL_hasFootError_16 (by decide) ?_
      refine lv_iconst (v := 0) hx hb dL_hasFootError_22 (by decide) ?_
      exact W.iret (v := 0) hx hb hr (fun T9 hT9 _ => ⟨by rw [hthr]; rfl, hS.F hT9, Or.inl ⟨hthr, by rw [hT9]; exact wTail hP, by rw [hT9]; exact wHead hP⟩⟩) hS.2.2 dL_hasFootError_23
set_option maxHeartbeats 4000000 in
set_option maxRecDepth 100000 in
theorem c_L_hasDepthError (l : Launch) (D : va_G) (ad : Nat → Nat) (cy : Nat → ClassId) (pm : Nat → Nat) (rj : Option Nat) (σ : Nat → Nat → Int32) (xq : Nat → Nat) (hst : l.stackTraces = false) (sz : Nat) (hi : sp_inj ad 459) (id : Int32) (cl cd : ClassId) (qo : Nat) (f : Nat → Int64) (g : Nat → UInt64) : Met l yL_hasDepthError wsL_hasDepthError ({ frames := 8, cells := 1, slots := 6, locals := 133 } : Room) (wPc xq ad D cy cl cd sz [.ref (ad 429), .int (id), .ref qo] (cW ad cy pm rj σ) qo (eL cl f) (fun _ => True)) (wQ (f_xPrint σ id) [eIOO] D qo (eL cl f) (eL cl (vp_updL f (0 : Int32).toNatClampNeg (Int32.toInt64 (b2i (atO (f_findPrint σ id) false (fun k => f_uneven σ (f_before σ k) k)))))) (cW ad cy (pm) (rj) (σ)) (sp_B D ad cy (pm) (σ) sz rj) (wA ad qo sz)) 1 6 (wA ad qo sz) := by
  refine va_MetW (cc := cL_hasDepthError) (maxL := 4) (ret := (some .int)) (by decide) rfl ?_
  intro p e s m args below meth c s₁ B hml hv
  obtain ⟨rfl, hsz, hP, hO, hK, hE, hNC, hqa, hZ⟩ := hv
  have hx := B.exec
  have hb := B.bytes
  have hr := B.returns
  have hts := atoms_spec (ws := wsL_hasDepthError) B.pre
  have hown : s.vm.findClass RL = some m.cls := findClass_of_methodNamed B.named
  have ht := vx_table (x := yL_hasDepthError) B (hts _ (List.mem_of_getElem? (i := 0) rfl))
  subst hsz
  have hqo : qo < s.heap.size := hO.lt
  have hqz := wNot hqa hqo
  have hS : va_S (wA ad qo s.heap.size) s.heap s.heap [] := va_S.rf
  have hKg := hK.sub (tys' := tyG cy) [0, 1, 2, 3, 4, 5] rfl
  have hXI : XI [eIOO] (f_xPrint σ id) := XI.fp List.mem_cons_self
  have hl := lv_entry ([.ref (ad 429), .int (id), .ref qo]) (n := 4) (Nat.le_of_ble_eq_true rfl)
  refine W.eq (lg_entry_eq _ ([.ref (ad 429), .int (id), .ref qo]) _) ?_
  generalize (lg_sl ([.ref (ad 429), .int (id), .ref qo]) ++ List.replicate (4 - (lg_sl ([.ref (ad 429), .int (id), .ref qo])).length) Slot.unset).toArray = ls at hl ⊢
  have hl : lv_has ls 4 [(0, .ref (ad 429)), (1, .int (id)), (2, .ref qo)] := hl
  refine lv_aload_n hx hb dL_hasDepthError_0 rfl (lv_at hl 2 rfl) ?_
  refine lv_iconst (v := 0) hx hb dL_hasDepthError_1 (by decide) ?_
  refine lv_aload_n hx hb dL_hasDepthError_2 rfl (lv_at hl 0 rfl) ?_
  refine lv_iload_n hx hb dL_hasDepthError_3 rfl (lv_at hl 1 rfl) ?_
  refine sp_callx (vx_runV (As := [.int (id)]) (rest := [.int 0, .ref qo]) ⟨hx, hb, hml, hown, hts⟩ (c_X9_hasDepthError l D ad cy pm rj σ xq hst _ hi id) (cwV 1 hts gL_hasDepthError_X9_hasDepthError rfl rfl rfl (by decide +kernel) ⟨Nat.le_of_ble_eq_true rfl, Nat.le_of_ble_eq_true rfl⟩) (sp_preVmx hKg hP hE (κ := 429) (by decide) cE_sp rfl) rfl rfl hl.1 rfl (lv_room (Nat.le_of_ble_eq_true rfl)) dL_hasDepthError_4 ⟨Nat.le_of_ble_eq_true rfl, Nat.le_of_ble_eq_true rfl⟩) hS (fun q _ h => Or.inl h) (fun q h => Or.inl h) (fun E_x r_x ce q9 H locs hthr hB hle hfr hS hce hcv hcl => ?_) (fun hthr H locs hP hle hfr hS => ?_)
  · have hO : va_at D vwCl (qo, eL cl f) H := hO.kept (hfr qo hqo hqz)
    have hmem := hXI E_x r_x hthr
    obtain rfl := List.mem_singleton.mp hmem
    refine vx_catch (name := "java/lang/IndexOutOfBoundsException") hown ([]) (⟨0, 16, 19, 20⟩ : ExceptionTableEntry) (tableOf []) (by rw [ht]; rfl) (fun z hz => absurd hz List.not_mem_nil) (by decide) (by decide) (hts _ (List.mem_of_getElem? (i := 1) rfl)) (va_Nw.use rfl hE.k0) hce hcv hcl ?_
    refine lv_astore_n (lv' := [(3, .ref q9), (0, .ref (ad 429)), (1, .int (id)), (2, .ref qo)]) hx hb dL_hasDepthError_19 rfl hl (by decide) rfl (fun ls hl => ?_)
    refine lv_iconst (v := 1) hx hb dL_hasDepthError_20 (by decide) ?_
    exact W.iret (v := 1) hx hb hr (fun T9 hT9 _ => ⟨by rw [hthr]; exact congrArg (fun z9 => Outcome.returned (some (Value.int z9))) (kC_1).symm, hS.F hT9, Or.inr ⟨_, r_x, hthr, by rw [hT9]; exact hB, by rw [hT9]; exact hO⟩⟩) hS.2.2 dL_hasDepthError_21
  · have hO : va_at D vwCl (qo, eL cl f) H := hO.kept (hfr qo hqo hqz)
    have hPq := wCons hO hP
    have hDq : va_D (wA ad qo s.heap.size) ((qo, eL cl f) :: cW ad cy (pm) (rj) (σ)) := wApart hi hqa (Or.inr rfl) (fun k hk => Or.inl (Or.inl ⟨k, hk, rfl⟩))
    refine W.eq (g2 := F0 m 7 ls [.int (b2i (atO (f_findPrint σ id) false (fun k => f_uneven σ (f_before σ k) k))), .int 0, .ref qo]) rfl ?_
    refine lv_if_eq (tgt := 14) hx hb dL_hasDepthError_7 (by decide) (fun c_1 => ?_) (fun c_1 => ?_)
    · refine lv_lconst (v := 0) hx hb dL_hasDepthError_14 rfl ?_
      refine W.eq (g2 := F0 m 15 ls [.long (Int32.toInt64 (b2i (atO (f_findPrint σ id) false (fun k => f_uneven σ (f_before σ k) k)))), .int 0, .ref qo]) (by rw [c_1]; rfl) ?_
      refine va_last hx hb hK hPq hDq hS 0 6 rfl rfl (i := 0) (x := Int32.toInt64 (b2i (atO (f_findPrint σ id) false (fun k => f_uneven σ (f_before σ k) k)))) vp01 dL_hasDepthError_15 (fun H locs hP hD hS => ?_)
      refine lv_goto (tgt := 22) hx hb dL_hasDepthError_16 (by decide) ?_
      refine lv_iconst (v := 0) hx hb dL_hasDepthError_22 (by decide) ?_
      exact W.iret (v := 0) hx hb hr (fun T9 hT9 _ => ⟨by rw [hthr]; rfl, hS.F hT9, Or.inl ⟨hthr, by rw [hT9]; exact wTail hP, by rw [hT9]; exact wHead hP⟩⟩) hS.2.2 dL_hasDepthError_23
    · refine lv_lconst (v := 1) hx hb dL_hasDepthError_10 rfl ?_
      refine lv_goto (tgt := 15) hx hb dL_hasDepthError_11 (by decide) ?_
      refine W.eq (g2 := F0 m 15 ls [.long (Int32.toInt64 (b2i (atO (f_findPrint σ id) false (fun k => f_uneven σ (f_before σ k) k)))), .int 0, .ref qo]) (by rw [b01 c_1]; rfl) ?_
      refine va_last hx hb hK hPq hDq hS 0 6 rfl rfl (i := 0) (x := Int32.toInt64 (b2i (atO (f_findPrint σ id) false (fun k => f_uneven σ (f_before σ k) k)))) vp01 dL_hasDepthError_15 (fun H locs hP hD hS => ?_)
      refine lv_goto (tgt := 22) hx hb dL_hasDepthError_16 (by decide) ?_
      refine lv_iconst (v := 0) hx hb dL_hasDepthError_22 (by decide) ?_
      exact W.iret (v := 0) hx hb hr (fun T9 hT9 _ => ⟨by rw [hthr]; rfl, hS.F hT9, Or.inl ⟨hthr, by rw [hT9]; exact wTail hP, by rw [hT9]; exact wHead hP⟩⟩) hS.2.2 dL_hasDepthError_23
set_option maxHeartbeats 4000000 in
set_option maxRecDepth 100000 in
theorem c_L_maxStride (l : Launch) (D : va_G) (ad : Nat → Nat) (cy : Nat → ClassId) (pm : Nat → Nat) (rj : Option Nat) (σ : Nat → Nat → Int32) (xq : Nat → Nat) (hst : l.stackTraces = false) (sz : Nat) (hi : sp_inj ad 459) (id : Int32) (cl cd : ClassId) (qo : Nat) (f : Nat → Int64) (g : Nat → UInt64) : Met l yL_maxStride wsL_maxStride ({ frames := 8, cells := 1, slots := 6, locals := 133 } : Room) (wPc xq ad D cy cl cd sz [.ref (ad 429), .int (id), .ref qo] (cW ad cy pm rj σ) qo (eL cl f) (fun _ => True)) (wQ (f_xTrack σ id) [eIOO] D qo (eL cl f) (eL cl (vp_updL f (0 : Int32).toNatClampNeg (Int32.toInt64 (atO (f_findTrack σ id) 0 (fun k => σ (3 + k) 2))))) (cW ad cy (pm) (rj) (σ)) (sp_B D ad cy (pm) (σ) sz rj) (wA ad qo sz)) 1 6 (wA ad qo sz) := by
  refine va_MetW (cc := cL_maxStride) (maxL := 4) (ret := (some .int)) (by decide) rfl ?_
  intro p e s m args below meth c s₁ B hml hv
  obtain ⟨rfl, hsz, hP, hO, hK, hE, hNC, hqa, hZ⟩ := hv
  have hx := B.exec
  have hb := B.bytes
  have hr := B.returns
  have hts := atoms_spec (ws := wsL_maxStride) B.pre
  have hown : s.vm.findClass RL = some m.cls := findClass_of_methodNamed B.named
  have ht := vx_table (x := yL_maxStride) B (hts _ (List.mem_of_getElem? (i := 0) rfl))
  subst hsz
  have hqo : qo < s.heap.size := hO.lt
  have hqz := wNot hqa hqo
  have hS : va_S (wA ad qo s.heap.size) s.heap s.heap [] := va_S.rf
  have hKg := hK.sub (tys' := tyG cy) [0, 1, 2, 3, 4, 5] rfl
  have hXI : XI [eIOO] (f_xTrack σ id) := XI.ft List.mem_cons_self
  have hl := lv_entry ([.ref (ad 429), .int (id), .ref qo]) (n := 4) (Nat.le_of_ble_eq_true rfl)
  refine W.eq (lg_entry_eq _ ([.ref (ad 429), .int (id), .ref qo]) _) ?_
  generalize (lg_sl ([.ref (ad 429), .int (id), .ref qo]) ++ List.replicate (4 - (lg_sl ([.ref (ad 429), .int (id), .ref qo])).length) Slot.unset).toArray = ls at hl ⊢
  have hl : lv_has ls 4 [(0, .ref (ad 429)), (1, .int (id)), (2, .ref qo)] := hl
  refine lv_aload_n hx hb dL_maxStride_0 rfl (lv_at hl 2 rfl) ?_
  refine lv_iconst (v := 0) hx hb dL_maxStride_1 (by decide) ?_
  refine lv_aload_n hx hb dL_maxStride_2 rfl (lv_at hl 0 rfl) ?_
  refine lv_iload_n hx hb dL_maxStride_3 rfl (lv_at hl 1 rfl) ?_
  refine sp_callx (vx_runV (As := [.int (id)]) (rest := [.int 0, .ref qo]) ⟨hx, hb, hml, hown, hts⟩ (c_X9_maxStride l D ad cy pm rj σ xq hst _ hi id) (cwV 1 hts gL_maxStride_X9_maxStride rfl rfl rfl (by decide +kernel) ⟨Nat.le_of_ble_eq_true rfl, Nat.le_of_ble_eq_true rfl⟩) (sp_preVmx hKg hP hE (κ := 429) (by decide) cE_sp rfl) rfl rfl hl.1 rfl (lv_room (Nat.le_of_ble_eq_true rfl)) dL_maxStride_4 ⟨Nat.le_of_ble_eq_true rfl, Nat.le_of_ble_eq_true rfl⟩) hS (fun q _ h => Or.inl h) (fun q h => Or.inl h) (fun E_x r_x ce q9 H locs hthr hB hle hfr hS hce hcv hcl => ?_) (fun hthr H locs hP hle hfr hS => ?_)
  · have hO : va_at D vwCl (qo, eL cl f) H := hO.kept (hfr qo hqo hqz)
    have hmem := hXI E_x r_x hthr
    obtain rfl := List.mem_singleton.mp hmem
    refine vx_catch (name := "java/lang/IndexOutOfBoundsException") hown ([]) (⟨0, 9, 12, 20⟩ : ExceptionTableEntry) (tableOf []) (by rw [ht]; rfl) (fun z hz => absurd hz List.not_mem_nil) (by decide) (by decide) (hts _ (List.mem_of_getElem? (i := 1) rfl)) (va_Nw.use rfl hE.k0) hce hcv hcl ?_
    refine lv_astore_n (lv' := [(3, .ref q9), (0, .ref (ad 429)), (1, .int (id)), (2, .ref qo)]) hx hb dL_maxStride_12 rfl hl (by decide) rfl (fun ls hl => ?_)
    refine lv_iconst (v := 1) hx hb dL_maxStride_13 (by decide) ?_
    exact W.iret (v := 1) hx hb hr (fun T9 hT9 _ => ⟨by rw [hthr]; exact congrArg (fun z9 => Outcome.returned (some (Value.int z9))) (kC_1).symm, hS.F hT9, Or.inr ⟨_, r_x, hthr, by rw [hT9]; exact hB, by rw [hT9]; exact hO⟩⟩) hS.2.2 dL_maxStride_14
  · have hO : va_at D vwCl (qo, eL cl f) H := hO.kept (hfr qo hqo hqz)
    have hPq := wCons hO hP
    have hDq : va_D (wA ad qo s.heap.size) ((qo, eL cl f) :: cW ad cy (pm) (rj) (σ)) := wApart hi hqa (Or.inr rfl) (fun k hk => Or.inl (Or.inl ⟨k, hk, rfl⟩))
    refine W.eq (g2 := F0 m 7 ls [.int (atO (f_findTrack σ id) 0 (fun k => σ (3 + k) 2)), .int 0, .ref qo]) rfl ?_
    refine lv_i2l (v := Int32.toInt64 (atO (f_findTrack σ id) 0 (fun k => σ (3 + k) 2))) hx hb dL_maxStride_7 rfl ?_
    refine va_last hx hb hK hPq hDq hS 0 6 rfl rfl (i := 0) (x := Int32.toInt64 (atO (f_findTrack σ id) 0 (fun k => σ (3 + k) 2))) vp01 dL_maxStride_8 (fun H locs hP hD hS => ?_)
    refine lv_goto (tgt := 15) hx hb dL_maxStride_9 (by decide) ?_
    refine lv_iconst (v := 0) hx hb dL_maxStride_15 (by decide) ?_
    exact W.iret (v := 0) hx hb hr (fun T9 hT9 _ => ⟨by rw [hthr]; rfl, hS.F hT9, Or.inl ⟨hthr, by rw [hT9]; exact wTail hP, by rw [hT9]; exact wHead hP⟩⟩) hS.2.2 dL_maxStride_16
set_option maxHeartbeats 4000000 in
set_option maxRecDepth 100000 in
theorem c_L_printCount (l : Launch) (D : va_G) (ad : Nat → Nat) (cy : Nat → ClassId) (pm : Nat → Nat) (rj : Option Nat) (σ : Nat → Nat → Int32) (xq : Nat → Nat) (hst : l.stackTraces = false) (sz : Nat) (hi : sp_inj ad 459) (id : Int32) (cl cd : ClassId) (qo : Nat) (f : Nat → Int64) (g : Nat → UInt64) : Met l yL_printCount wsL_printCount ({ frames := 8, cells := 1, slots := 6, locals := 133 } : Room) (wPc xq ad D cy cl cd sz [.ref (ad 429), .int (id), .ref qo] (cW ad cy pm rj σ) qo (eL cl f) (fun _ => True)) (wQ (f_xTrack σ id) [eIOO] D qo (eL cl f) (eL cl (vp_updL f (0 : Int32).toNatClampNeg (Int32.toInt64 (atO (f_findTrack σ id) 0 (fun k => f_countPrints σ k))))) (cW ad cy (pm) (rj) (σ)) (sp_B D ad cy (pm) (σ) sz rj) (wA ad qo sz)) 1 6 (wA ad qo sz) := by
  refine va_MetW (cc := cL_printCount) (maxL := 4) (ret := (some .int)) (by decide) rfl ?_
  intro p e s m args below meth c s₁ B hml hv
  obtain ⟨rfl, hsz, hP, hO, hK, hE, hNC, hqa, hZ⟩ := hv
  have hx := B.exec
  have hb := B.bytes
  have hr := B.returns
  have hts := atoms_spec (ws := wsL_printCount) B.pre
  have hown : s.vm.findClass RL = some m.cls := findClass_of_methodNamed B.named
  have ht := vx_table (x := yL_printCount) B (hts _ (List.mem_of_getElem? (i := 0) rfl))
  subst hsz
  have hqo : qo < s.heap.size := hO.lt
  have hqz := wNot hqa hqo
  have hS : va_S (wA ad qo s.heap.size) s.heap s.heap [] := va_S.rf
  have hKg := hK.sub (tys' := tyG cy) [0, 1, 2, 3, 4, 5] rfl
  have hXI : XI [eIOO] (f_xTrack σ id) := XI.ft List.mem_cons_self
  have hl := lv_entry ([.ref (ad 429), .int (id), .ref qo]) (n := 4) (Nat.le_of_ble_eq_true rfl)
  refine W.eq (lg_entry_eq _ ([.ref (ad 429), .int (id), .ref qo]) _) ?_
  generalize (lg_sl ([.ref (ad 429), .int (id), .ref qo]) ++ List.replicate (4 - (lg_sl ([.ref (ad 429), .int (id), .ref qo])).length) Slot.unset).toArray = ls at hl ⊢
  have hl : lv_has ls 4 [(0, .ref (ad 429)), (1, .int (id)), (2, .ref qo)] := hl
  refine lv_aload_n hx hb dL_printCount_0 rfl (lv_at hl 2 rfl) ?_
  refine lv_iconst (v := 0) hx hb dL_printCount_1 (by decide) ?_
  refine lv_aload_n hx hb dL_printCount_2 rfl (lv_at hl 0 rfl) ?_
  refine lv_iload_n hx hb dL_printCount_3 rfl (lv_at hl 1 rfl) ?_
  refine sp_callx (vx_runV (As := [.int (id)]) (rest := [.int 0, .ref qo]) ⟨hx, hb, hml, hown, hts⟩ (c_X9_printCount l D ad cy pm rj σ xq hst _ hi id) (cwV 1 hts gL_printCount_X9_printCount rfl rfl rfl (by decide +kernel) ⟨Nat.le_of_ble_eq_true rfl, Nat.le_of_ble_eq_true rfl⟩) (sp_preVmx hKg hP hE (κ := 429) (by decide) cE_sp rfl) rfl rfl hl.1 rfl (lv_room (Nat.le_of_ble_eq_true rfl)) dL_printCount_4 ⟨Nat.le_of_ble_eq_true rfl, Nat.le_of_ble_eq_true rfl⟩) hS (fun q _ h => Or.inl h) (fun q h => Or.inl h) (fun E_x r_x ce q9 H locs hthr hB hle hfr hS hce hcv hcl => ?_) (fun hthr H locs hP hle hfr hS => ?_)
  · have hO : va_at D vwCl (qo, eL cl f) H := hO.kept (hfr qo hqo hqz)
    have hmem := hXI E_x r_x hthr
    obtain rfl := List.mem_singleton.mp hmem
    refine vx_catch (name := "java/lang/IndexOutOfBoundsException") hown ([]) (⟨0, 9, 12, 20⟩ : ExceptionTableEntry) (tableOf []) (by rw [ht]; rfl) (fun z hz => absurd hz List.not_mem_nil) (by decide) (by decide) (hts _ (List.mem_of_getElem? (i := 1) rfl)) (va_Nw.use rfl hE.k0) hce hcv hcl ?_
    refine lv_astore_n (lv' := [(3, .ref q9), (0, .ref (ad 429)), (1, .int (id)), (2, .ref qo)]) hx hb dL_printCount_12 rfl hl (by decide) rfl (fun ls hl => ?_)
    refine lv_iconst (v := 1) hx hb dL_printCount_13 (by decide) ?_
    exact W.iret (v := 1) hx hb hr (fun T9 hT9 _ => ⟨by rw [hthr]; exact congrArg (fun z9 => Outcome.returned (some (Value.int z9))) (kC_1).symm, hS.F hT9, Or.inr ⟨_, r_x, hthr, by rw [hT9]; exact hB, by rw [hT9]; exact hO⟩⟩) hS.2.2 dL_printCount_14
  · have hO : va_at D vwCl (qo, eL cl f) H := hO.kept (hfr qo hqo hqz)
    have hPq := wCons hO hP
    have hDq : va_D (wA ad qo s.heap.size) ((qo, eL cl f) :: cW ad cy (pm) (rj) (σ)) := wApart hi hqa (Or.inr rfl) (fun k hk => Or.inl (Or.inl ⟨k, hk, rfl⟩))
    refine W.eq (g2 := F0 m 7 ls [.int (atO (f_findTrack σ id) 0 (fun k => f_countPrints σ k)), .int 0, .ref qo]) rfl ?_
    refine lv_i2l (v := Int32.toInt64 (atO (f_findTrack σ id) 0 (fun k => f_countPrints σ k))) hx hb dL_printCount_7 rfl ?_
    refine va_last hx hb hK hPq hDq hS 0 6 rfl rfl (i := 0) (x := Int32.toInt64 (atO (f_findTrack σ id) 0 (fun k => f_countPrints σ k))) vp01 dL_printCount_8 (fun H locs hP hD hS => ?_)
    refine lv_goto (tgt := 15) hx hb dL_printCount_9 (by decide) ?_
    refine lv_iconst (v := 0) hx hb dL_printCount_15 (by decide) ?_
    exact W.iret (v := 0) hx hb hr (fun T9 hT9 _ => ⟨by rw [hthr]; rfl, hS.F hT9, Or.inl ⟨hthr, by rw [hT9]; exact wTail hP, by rw [hT9]; exact wHead hP⟩⟩) hS.2.2 dL_printCount_16
set_option maxHeartbeats 4000000 in
set_option maxRecDepth 100000 in
theorem c_L_printAt (l : Launch) (D : va_G) (ad : Nat → Nat) (cy : Nat → ClassId) (pm : Nat → Nat) (rj : Option Nat) (σ : Nat → Nat → Int32) (xq : Nat → Nat) (hst : l.stackTraces = false) (sz : Nat) (hi : sp_inj ad 459) (id : Int32) (q : Int32) (cl cd : ClassId) (qo : Nat) (f : Nat → Int64) (g : Nat → UInt64) : Met l yL_printAt wsL_printAt ({ frames := 8, cells := 2, slots := 12, locals := 134 } : Room) (wPc xq ad D cy cl cd sz [.ref (ad 429), .int (id), .int (q), .ref qo] (cW ad cy pm rj σ) qo (eL cl f) (fun _ => True)) (wQ ((f_xTrack σ id).or (atO (f_findTrack σ id) none (fun k => f_xFound (f_inPlace σ k q)))) [eIOO, eNSE] D qo (eL cl f) (eL cl (vp_updL f (0 : Int32).toNatClampNeg (Int32.toInt64 (atO (f_findTrack σ id) 0 (fun k => atO (f_inPlace σ k q) 0 (fun j => σ (9 + j) 1)))))) (cW ad cy (pm) (rj) (σ)) (sp_B D ad cy (pm) (σ) sz rj) (wA ad qo sz)) 2 12 (wA ad qo sz) := by
  refine va_MetW (cc := cL_printAt) (maxL := 5) (ret := (some .int)) (by decide) rfl ?_
  intro p e s m args below meth c s₁ B hml hv
  obtain ⟨rfl, hsz, hP, hO, hK, hE, hNC, hqa, hZ⟩ := hv
  have hx := B.exec
  have hb := B.bytes
  have hr := B.returns
  have hts := atoms_spec (ws := wsL_printAt) B.pre
  have hown : s.vm.findClass RL = some m.cls := findClass_of_methodNamed B.named
  have ht := vx_table (x := yL_printAt) B (hts _ (List.mem_of_getElem? (i := 0) rfl))
  subst hsz
  have hqo : qo < s.heap.size := hO.lt
  have hqz := wNot hqa hqo
  have hS : va_S (wA ad qo s.heap.size) s.heap s.heap [] := va_S.rf
  have hKg := hK.sub (tys' := tyG cy) [0, 1, 2, 3, 4, 5] rfl
  have hXI : XI [eIOO, eNSE] ((f_xTrack σ id).or (atO (f_findTrack σ id) none (fun k => f_xFound (f_inPlace σ k q)))) := XI.or (XI.ft List.mem_cons_self) (XI.at (fun k => XI.ff (List.mem_cons_of_mem _ List.mem_cons_self)))
  have hl := lv_entry ([.ref (ad 429), .int (id), .int (q), .ref qo]) (n := 5) (Nat.le_of_ble_eq_true rfl)
  refine W.eq (lg_entry_eq _ ([.ref (ad 429), .int (id), .int (q), .ref qo]) _) ?_
  generalize (lg_sl ([.ref (ad 429), .int (id), .int (q), .ref qo]) ++ List.replicate (5 - (lg_sl ([.ref (ad 429), .int (id), .int (q), .ref qo])).length) Slot.unset).toArray = ls at hl ⊢
  have hl : lv_has ls 5 [(0, .ref (ad 429)), (1, .int (id)), (2, .int (q)), (3, .ref qo)] := hl
  refine lv_aload_n hx hb dL_printAt_0 rfl (lv_at hl 3 rfl) ?_
  refine lv_iconst (v := 0) hx hb dL_printAt_1 (by decide) ?_
  refine lv_aload_n hx hb dL_printAt_2 rfl (lv_at hl 0 rfl) ?_
  refine lv_iload_n hx hb dL_printAt_3 rfl (lv_at hl 1 rfl) ?_
  refine lv_iload_n hx hb dL_printAt_4 rfl (lv_at hl 2 rfl) ?_
  refine sp_callx (vx_runV (As := [.int (id), .int (q)]) (rest := [.int 0, .ref qo]) ⟨hx, hb, hml, hown, hts⟩ (c_X9_printAt l D ad cy pm rj σ xq hst _ hi id q) (cwV 2 hts gL_printAt_X9_printAt rfl rfl rfl (by decide +kernel) ⟨Nat.le_of_ble_eq_true rfl, Nat.le_of_ble_eq_true rfl⟩) (sp_preVmx hKg hP hE (κ := 429) (by decide) cE_sp rfl) rfl rfl hl.1 rfl (lv_room (Nat.le_of_ble_eq_true rfl)) dL_printAt_5 ⟨Nat.le_of_ble_eq_true rfl, Nat.le_of_ble_eq_true rfl⟩) hS (fun q _ h => Or.inl h) (fun q h => Or.inl h) (fun E_x r_x ce q9 H locs hthr hB hle hfr hS hce hcv hcl => ?_) (fun hthr H locs hP hle hfr hS => ?_)
  · have hO : va_at D vwCl (qo, eL cl f) H := hO.kept (hfr qo hqo hqz)
    have hmem := hXI E_x r_x hthr
    rcases List.mem_cons.mp hmem with rfl | hmem
    · refine vx_catch (name := "java/lang/IndexOutOfBoundsException") hown ([]) (⟨0, 10, 13, 20⟩ : ExceptionTableEntry) (tableOf [(0, 10, 17, 77)]) (by rw [ht]; rfl) (fun z hz => absurd hz List.not_mem_nil) (by decide) (by decide) (hts _ (List.mem_of_getElem? (i := 1) rfl)) (va_Nw.use rfl hE.k0) hce hcv hcl ?_
      refine lv_astore (lv' := [(4, .ref q9), (0, .ref (ad 429)), (1, .int (id)), (2, .int (q)), (3, .ref qo)]) hx hb dL_printAt_13 hl (by decide) rfl (fun ls hl => ?_)
      refine lv_iconst (v := 1) hx hb dL_printAt_15 (by decide) ?_
      exact W.iret (v := 1) hx hb hr (fun T9 hT9 _ => ⟨by rw [hthr]; exact congrArg (fun z9 => Outcome.returned (some (Value.int z9))) (kC_1).symm, hS.F hT9, Or.inr ⟨_, r_x, hthr, by rw [hT9]; exact hB, by rw [hT9]; exact hO⟩⟩) hS.2.2 dL_printAt_16
    · skip
      obtain rfl := List.mem_singleton.mp hmem
      refine vx_catch (name := "java/util/NoSuchElementException") hown (tableOf [(0, 10, 13, 20)]) (⟨0, 10, 17, 77⟩ : ExceptionTableEntry) (tableOf []) (by rw [ht]; rfl) (fun z hz => ((fun h9 => (List.mem_cons.mp h9).elim (fun e9 => by (subst e9; exact Or.inr ⟨by decide, "java/lang/IndexOutOfBoundsException", hts _ (List.mem_of_getElem? (i := 1) rfl), hNC _ _ (by decide +kernel) (by decide +kernel) (by decide +kernel)⟩)) (fun h9 => absurd h9 List.not_mem_nil)) : z ∈ tableOf [(0, 10, 13, 20)] → covers z 5 = false ∨ (z.catchType ≠ 0 ∧ ∃ nm : String, (Cond.classLink RL z.catchType nm).before _ s = true ∧ va_Nc eNSE nm s)) hz) (by decide) (by decide) (hts _ (List.mem_of_getElem? (i := 2) rfl)) (va_Nw.use rfl hE.k3) hce hcv hcl ?_
      refine lv_astore (lv' := [(4, .ref q9), (0, .ref (ad 429)), (1, .int (id)), (2, .int (q)), (3, .ref qo)]) hx hb dL_printAt_17 hl (by decide) rfl (fun ls hl => ?_)
      refine lv_iconst (v := 2) hx hb dL_printAt_19 (by decide) ?_
      exact W.iret (v := 2) hx hb hr (fun T9 hT9 _ => ⟨by rw [hthr]; exact congrArg (fun z9 => Outcome.returned (some (Value.int z9))) (kC_2 (by decide +kernel)).symm, hS.F hT9, Or.inr ⟨_, r_x, hthr, by rw [hT9]; exact hB, by rw [hT9]; exact hO⟩⟩) hS.2.2 dL_printAt_20
  · have hO : va_at D vwCl (qo, eL cl f) H := hO.kept (hfr qo hqo hqz)
    have hPq := wCons hO hP
    have hDq : va_D (wA ad qo s.heap.size) ((qo, eL cl f) :: cW ad cy (pm) (rj) (σ)) := wApart hi hqa (Or.inr rfl) (fun k hk => Or.inl (Or.inl ⟨k, hk, rfl⟩))
    refine W.eq (g2 := F0 m 8 ls [.int (atO (f_findTrack σ id) 0 (fun k => atO (f_inPlace σ k q) 0 (fun j => σ (9 + j) 1))), .int 0, .ref qo]) rfl ?_
    refine lv_i2l (v := Int32.toInt64 (atO (f_findTrack σ id) 0 (fun k => atO (f_inPlace σ k q) 0 (fun j => σ (9 + j) 1)))) hx hb dL_printAt_8 rfl ?_
    refine va_last hx hb hK hPq hDq hS 0 6 rfl rfl (i := 0) (x := Int32.toInt64 (atO (f_findTrack σ id) 0 (fun k => atO (f_inPlace σ k q) 0 (fun j => σ (9 + j) 1)))) vp01 dL_printAt_9 (fun H locs hP hD hS => ?_)
    refine lv_goto (tgt := 21) hx hb dL_printAt_10 (by decide) ?_
    refine lv_iconst (v := 0) hx hb dL_printAt_21 (by decide) ?_
    exact W.iret (v := 0) hx hb hr (fun T9 hT9 _ => ⟨by rw [hthr]; rfl, hS.F hT9, Or.inl ⟨hthr, by rw [hT9]; exact wTail hP, by rw [hT9]; exact wHead hP⟩⟩) hS.2.2 dL_printAt_22
