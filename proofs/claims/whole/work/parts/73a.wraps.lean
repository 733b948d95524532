set_option maxHeartbeats 4000000 in
set_option maxRecDepth 100000 in
theorem c_L_addTrack (l : Launch) (D : va_G) (ad : Nat → Nat) (cy : Nat → ClassId) (pm : Nat → Nat) (rj : Option Nat) (σ : Nat → Nat → Int32) (xq : Nat → Nat) (hst : l.stackTraces = false) (sz : Nat) (hi : sp_inj ad 459) (z : Int32) (hpm : ∀ j, j < 8 → 1 ≤ pm j ∧ pm j ≤ 8) (cl cd : ClassId) (qo : Nat) (f : Nat → Int64) (g : Nat → UInt64) : Met l yL_addTrack wsL_addTrack ({ frames := 8, cells := 2, slots := 9, locals := 132 } : Room) (wPc xq ad D cy cl cd sz [.ref (ad 429), .int (z), .ref qo] (cW ad cy pm rj σ) qo (eL cl f) (fun _ => True)) (wQ ((f_xIn (f_in 1 9 z)).or (f_xRej (f_objTrack σ))) [eIAE, eUOE] D qo (eL cl f) (eL cl (vp_updL f (0 : Int32).toNatClampNeg (Int32.toInt64 (f_putTv (f_push σ pm 0))))) (cW ad cy (pm_push pm) (rj) (f_putT (f_push σ pm 0) z)) (sp_B D ad cy (pm) (σ) sz rj) (wA ad qo sz)) 2 9 (wA ad qo sz) := by
  refine va_MetW (cc := cL_addTrack) (maxL := 4) (ret := (some .int)) (by decide) rfl ?_
  intro p e s m args below meth c s₁ B hml hv
  obtain ⟨rfl, hsz, hP, hO, hK, hE, hNC, hqa, hZ⟩ := hv
  have hx := B.exec
  have hb := B.bytes
  have hr := B.returns
  have hts := atoms_spec (ws := wsL_addTrack) B.pre
  have hown : s.vm.findClass RL = some m.cls := findClass_of_methodNamed B.named
  have ht := vx_table (x := yL_addTrack) B (hts _ (List.mem_of_getElem? (i := 0) rfl))
  subst hsz
  have hqo : qo < s.heap.size := hO.lt
  have hqz := wNot hqa hqo
  have hS : va_S (wA ad qo s.heap.size) s.heap s.heap [] := va_S.rf
  have hKg := hK.sub (tys' := tyG cy) [0, 1, 2, 3, 4, 5] rfl
  have hXI : XI [eIAE, eUOE] ((f_xIn (f_in 1 9 z)).or (f_xRej (f_objTrack σ))) := XI.or (XI.fi List.mem_cons_self) (XI.fj (List.mem_cons_of_mem _ List.mem_cons_self))
  have hl := lv_entry ([.ref (ad 429), .int (z), .ref qo]) (n := 4) (Nat.le_of_ble_eq_true rfl)
  refine W.eq (lg_entry_eq _ ([.ref (ad 429), .int (z), .ref qo]) _) ?_
  generalize (lg_sl ([.ref (ad 429), .int (z), .ref qo]) ++ List.replicate (4 - (lg_sl ([.ref (ad 429), .int (z), .ref qo])).length) Slot.unset).toArray = ls at hl ⊢
  have hl : lv_has ls 4 [(0, .ref (ad 429)), (1, .int (z)), (2, .ref qo)] := hl
  refine lv_aload_n hx hb dL_addTrack_0 rfl (lv_at hl 2 rfl) ?_
  refine lv_iconst (v := 0) hx hb dL_addTrack_1 (by decide) ?_
  refine lv_aload_n hx hb dL_addTrack_2 rfl (lv_at hl 0 rfl) ?_
  refine lv_iload_n hx hb dL_addTrack_3 rfl (lv_at hl 1 rfl) ?_
  refine sp_callx (vx_runV (As := [.int (z)]) (rest := [.int 0, .ref qo]) ⟨hx, hb, hml, hown, hts⟩ (c_X9_addTrack l D ad cy pm rj σ xq hst _ hi z hpm) (cwV 1 hts gL_addTrack_X9_addTrack rfl rfl rfl (by decide +kernel) ⟨Nat.le_of_ble_eq_true rfl, Nat.le_of_ble_eq_true rfl⟩) (sp_preVmx hKg hP hE (κ := 429) (by decide) cE_sp rfl) rfl rfl hl.1 rfl (lv_room (Nat.le_of_ble_eq_true rfl)) dL_addTrack_4 ⟨Nat.le_of_ble_eq_true rfl, Nat.le_of_ble_eq_true rfl⟩) hS (fun q _ h => Or.inl h) (fun q h => Or.inl h) (fun E_x r_x ce q9 H locs hthr hB hle hfr hS hce hcv hcl => ?_) (fun hthr H locs hP hle hfr hS => ?_)
  · have hO : va_at D vwCl (qo, eL cl f) H := hO.kept (hfr qo hqo hqz)
    have hmem := hXI E_x r_x hthr
    rcases List.mem_cons.mp hmem with rfl | hmem
    · refine vx_catch (name := "java/lang/IllegalArgumentException") hown ([]) (⟨0, 9, 12, 13⟩ : ExceptionTableEntry) (tableOf [(0, 9, 15, 15)]) (by rw [ht]; rfl) (fun z hz => absurd hz List.not_mem_nil) (by decide) (by decide) (hts _ (List.mem_of_getElem? (i := 1) rfl)) (va_Nw.use rfl hE.k1) hce hcv hcl ?_
      refine lv_astore_n (lv' := [(3, .ref q9), (0, .ref (ad 429)), (1, .int (z)), (2, .ref qo)]) hx hb dL_addTrack_12 rfl hl (by decide) rfl (fun ls hl => ?_)
      refine lv_iconst (v := 1) hx hb dL_addTrack_13 (by decide) ?_
      exact W.iret (v := 1) hx hb hr (fun T9 hT9 _ => ⟨by rw [hthr]; exact congrArg (fun z9 => Outcome.returned (some (Value.int z9))) (kC_1).symm, hS.F hT9, Or.inr ⟨_, r_x, hthr, by rw [hT9]; exact hB, by rw [hT9]; exact hO⟩⟩) hS.2.2 dL_addTrack_14
    · skip
      obtain rfl := List.mem_singleton.mp hmem
      refine vx_catch (name := "java/lang/UnsupportedOperationException") hown (tableOf [(0, 9, 12, 13)]) (⟨0, 9, 15, 15⟩ : ExceptionTableEntry) (tableOf []) (by rw [ht]; rfl) (fun z hz => ((fun h9 => (List.mem_cons.mp h9).elim (fun e9 => by (subst e9; exact Or.inr ⟨by decide, "java/lang/IllegalArgumentException", hts _ (List.mem_of_getElem? (i := 1) rfl), hNC _ _ (by decide +kernel) (by decide +kernel) (by decide +kernel)⟩)) (fun h9 => absurd h9 List.not_mem_nil)) : z ∈ tableOf [(0, 9, 12, 13)] → covers z 4 = false ∨ (z.catchType ≠ 0 ∧ ∃ nm : String, (Cond.classLink RL z.catchType nm).before _ s = true ∧ va_Nc eUOE nm s)) hz) (by decide) (by decide) (hts _ (List.mem_of_getElem? (i := 2) rfl)) (va_Nw.use rfl hE.k2) hce hcv hcl ?_
      refine lv_astore_n (lv' := [(3, .ref q9), (0, .ref (ad 429)), (1, .int (z)), (2, .ref qo)]) hx hb dL_addTrack_15 rfl hl (by decide) rfl (fun ls hl => ?_)
      refine lv_iconst (v := 2) hx hb dL_addTrack_16 (by decide) ?_
      exact W.iret (v := 2) hx hb hr (fun T9 hT9 _ => ⟨by rw [hthr]; exact congrArg (fun z9 => Outcome.returned (some (Value.int z9))) (kC_2 (by decide +kernel)).symm, hS.F hT9, Or.inr ⟨_, r_x, hthr, by rw [hT9]; exact hB, by rw [hT9]; exact hO⟩⟩) hS.2.2 dL_addTrack_17
  · have hO : va_at D vwCl (qo, eL cl f) H := hO.kept (hfr qo hqo hqz)
    have hPq := wCons hO hP
    have hDq : va_D (wA ad qo s.heap.size) ((qo, eL cl f) :: cW ad cy (pm_push pm) (rj) (f_putT (f_push σ pm 0) z)) := wApart hi hqa (Or.inr rfl) (fun k hk => Or.inl (Or.inl ⟨k, hk, rfl⟩))
    refine W.eq (g2 := F0 m 7 ls [.int (f_putTv (f_push σ pm 0)), .int 0, .ref qo]) rfl ?_
    refine lv_i2l (v := Int32.toInt64 (f_putTv (f_push σ pm 0))) hx hb dL_addTrack_7 rfl ?_
    refine va_last hx hb hK hPq hDq hS 0 6 rfl rfl (i := 0) (x := Int32.toInt64 (f_putTv (f_push σ pm 0))) vp01 dL_addTrack_8 (fun H locs hP hD hS => ?_)
    refine lv_goto (tgt := 18) hx hb dL_addTrack_9 (by decide) ?_
    refine lv_iconst (v := 0) hx hb dL_addTrack_18 (by decide) ?_
    exact W.iret (v := 0) hx hb hr (fun T9 hT9 _ => ⟨by rw [hthr]; rfl, hS.F hT9, Or.inl ⟨hthr, by rw [hT9]; exact wTail hP, by rw [hT9]; exact wHead hP⟩⟩) hS.2.2 dL_addTrack_19
set_option maxHeartbeats 4000000 in
set_option maxRecDepth 100000 in
theorem c_L_removeTrack (l : Launch) (D : va_G) (ad : Nat → Nat) (cy : Nat → ClassId) (pm : Nat → Nat) (rj : Option Nat) (σ : Nat → Nat → Int32) (xq : Nat → Nat) (hst : l.stackTraces = false) (sz : Nat) (hi : sp_inj ad 459) (id : Int32) (hpm : ∀ j, j < 8 → 1 ≤ pm j ∧ pm j ≤ 8) (cl cd : ClassId) (qo : Nat) (f : Nat → Int64) (g : Nat → UInt64) : Met l yL_removeTrack wsL_removeTrack ({ frames := 8, cells := 1, slots := 6, locals := 134 } : Room) (wPc xq ad D cy cl cd sz [.ref (ad 429), .int (id), .ref qo] (cW ad cy pm rj σ) qo (eL cl f) (fun _ => True)) (wQ (f_xTrack σ id) [eIOO] D qo (eL cl f) (eL cl (vp_updL f (0 : Int32).toNatClampNeg (Int32.toInt64 (atO (f_findTrack σ id) 0 (fun k => f_dropTv (f_push σ pm 0) k))))) (cW ad cy (pm_push pm) (rj) (atO (f_findTrack σ id) (f_push σ pm 0) (fun k => sp_st (f_dropP (f_push σ pm 0) ((f_push σ pm 0) (3 + k) 1) 30) (3 + k) 0 0))) (sp_B D ad cy (pm) (σ) sz rj) (wA ad qo sz)) 1 6 (wA ad qo sz) := by
  refine va_MetW (cc := cL_removeTrack) (maxL := 4) (ret := (some .int)) (by decide) rfl ?_
  intro p e s m args below meth c s₁ B hml hv
  obtain ⟨rfl, hsz, hP, hO, hK, hE, hNC, hqa, hZ⟩ := hv
  have hx := B.exec
  have hb := B.bytes
  have hr := B.returns
  have hts := atoms_spec (ws := wsL_removeTrack) B.pre
  have hown : s.vm.findClass RL = some m.cls := findClass_of_methodNamed B.named
  have ht := vx_table (x := yL_removeTrack) B (hts _ (List.mem_of_getElem? (i := 0) rfl))
  subst hsz
  have hqo : qo < s.heap.size := hO.lt
  have hqz := wNot hqa hqo
  have hS : va_S (wA ad qo s.heap.size) s.heap s.heap [] := va_S.rf
  have hKg := hK.sub (tys' := tyG cy) [0, 1, 2, 3, 4, 5] rfl
  have hXI : XI [eIOO] (f_xTrack σ id) := XI.ft List.mem_cons_self
  have hl := lv_entry ([.ref (ad 429), .int (id), .ref qo]) (n := 4) (Nat.le_of_ble_eq_true rfl)
  refine W.eq (lg_entry_eq _ ([.ref (ad 429), .int (id), .ref qo]) _) ?_
  generalize (lg_sl ([.ref (ad 429), .int (id), .ref qo]) ++ List.replicate (4 - (lg_sl ([.ref (ad 429), .int (id), .ref qo])).length) Slot.unset).toArray = ls at hl ⊢
  have hl : lv_has ls 4 [(0, .ref (ad 429)), (1, .int (id)), (2, .ref qo)] := hl
  refine lv_aload_n hx hb dL_removeTrack_0 rfl (lv_at hl 2 rfl) ?_
  refine lv_iconst (v := 0) hx hb dL_removeTrack_1 (by decide) ?_
  refine lv_aload_n hx hb dL_removeTrack_2 rfl (lv_at hl 0 rfl) ?_
  refine lv_iload_n hx hb dL_removeTrack_3 rfl (lv_at hl 1 rfl) ?_
  refine sp_callx (vx_runV (As := [.int (id)]) (rest := [.int 0, .ref qo]) ⟨hx, hb, hml, hown, hts⟩ (c_X9_removeTrack l D ad cy pm rj σ xq hst _ hi id hpm) (cwV 1 hts gL_removeTrack_X9_removeTrack rfl rfl rfl (by decide +kernel) ⟨Nat.le_of_ble_eq_true rfl, Nat.le_of_ble_eq_true rfl⟩) (sp_preVmx hKg hP hE (κ := 429) (by decide) cE_sp rfl) rfl rfl hl.1 rfl (lv_room (Nat.le_of_ble_eq_true rfl)) dL_removeTrack_4 ⟨Nat.le_of_ble_eq_true rfl, Nat.le_of_ble_eq_true rfl⟩) hS (fun q _ h => Or.inl h) (fun q h => Or.inl h) (fun E_x r_x ce q9 H locs hthr hB hle hfr hS hce hcv hcl => ?_) (fun hthr H locs hP hle hfr hS => ?_)
  · have hO : va_at D vwCl (qo, eL cl f) H := hO.kept (hfr qo hqo hqz)
    have hmem := hXI E_x r_x hthr
    obtain rfl := List.mem_singleton.mp hmem
    refine vx_catch (name := "java/lang/IndexOutOfBoundsException") hown ([]) (⟨0, 9, 12, 20⟩ : ExceptionTableEntry) (tableOf []) (by rw [ht]; rfl) (fun z hz => absurd hz List.not_mem_nil) (by decide) (by decide) (hts _ (List.mem_of_getElem? (i := 1) rfl)) (va_Nw.use rfl hE.k0) hce hcv hcl ?_
    refine lv_astore_n (lv' := [(3, .ref q9), (0, .ref (ad 429)), (1, .int (id)), (2, .ref qo)]) hx hb dL_removeTrack_12 rfl hl (by decide) rfl (fun ls hl => ?_)
    refine lv_iconst (v := 1) hx hb dL_removeTrack_13 (by decide) ?_
    exact W.iret (v := 1) hx hb hr (fun T9 hT9 _ => ⟨by rw [hthr]; exact congrArg (fun z9 => Outcome.returned (some (Value.int z9))) (kC_1).symm, hS.F hT9, Or.inr ⟨_, r_x, hthr, by rw [hT9]; exact hB, by rw [hT9]; exact hO⟩⟩) hS.2.2 dL_removeTrack_14
  · have hO : va_at D vwCl (qo, eL cl f) H := hO.kept (hfr qo hqo hqz)
    have hPq := wCons hO hP
    have hDq : va_D (wA ad qo s.heap.size) ((qo, eL cl f) :: cW ad cy (pm_push pm) (rj) (atO (f_findTrack σ id) (f_push σ pm 0) (fun k => sp_st (f_dropP (f_push σ pm 0) ((f_push σ pm 0) (3 + k) 1) 30) (3 + k) 0 0))) := wApart hi hqa (Or.inr rfl) (fun k hk => Or.inl (Or.inl ⟨k, hk, rfl⟩))
    refine W.eq (g2 := F0 m 7 ls [.int (atO (f_findTrack σ id) 0 (fun k => f_dropTv (f_push σ pm 0) k)), .int 0, .ref qo]) rfl ?_
    refine lv_i2l (v := Int32.toInt64 (atO (f_findTrack σ id) 0 (fun k => f_dropTv (f_push σ pm 0) k))) hx hb dL_removeTrack_7 rfl ?_
    refine va_last hx hb hK hPq hDq hS 0 6 rfl rfl (i := 0) (x := Int32.toInt64 (atO (f_findTrack σ id) 0 (fun k => f_dropTv (f_push σ pm 0) k))) vp01 dL_removeTrack_8 (fun H locs hP hD hS => ?_)
    refine lv_goto (tgt := 15) hx hb dL_removeTrack_9 (by decide) ?_
    refine lv_iconst (v := 0) hx hb dL_removeTrack_15 (by decide) ?_
    exact W.iret (v := 0) hx hb hr (fun T9 hT9 _ => ⟨by rw [hthr]; rfl, hS.F hT9, Or.inl ⟨hthr, by rw [hT9]; exact wTail hP, by rw [hT9]; exact wHead hP⟩⟩) hS.2.2 dL_removeTrack_16
set_option maxHeartbeats 4000000 in
set_option maxRecDepth 100000 in
theorem c_L_addPrint (l : Launch) (D : va_G) (ad : Nat → Nat) (cy : Nat → ClassId) (pm : Nat → Nat) (rj : Option Nat) (σ : Nat → Nat → Int32) (xq : Nat → Nat) (hst : l.stackTraces = false) (sz : Nat) (hi : sp_inj ad 459) (t : Int32) (u : Int32) (r : Int32) (c1 : Int32) (lf : Bool) (z : Int32) (hpm : ∀ j, j < 8 → 1 ≤ pm j ∧ pm j ≤ 8) (cl cd : ClassId) (qo : Nat) (f : Nat → Int64) (g : Nat → UInt64) : Met l yL_addPrint wsL_addPrint ({ frames := 8, cells := 4, slots := 21, locals := 138 } : Room) (wPc xq ad D cy cl cd sz [.ref (ad 429), .int (t), .int (u), .int (r), .int (c1), .int (b2i lf), .int (z), .ref qo] (cW ad cy pm rj σ) qo (eL cl f) (fun _ => True)) (wQ ((f_xTrack σ t).or ((f_xCell r c1).or ((f_xIn (f_in 0 999 u && f_in 1 9 z)).or (f_xRej (f_objPrint σ t u r c1))))) [eIOO, eIAE, eUOE] D qo (eL cl f) (eL cl (vp_updL f (0 : Int32).toNatClampNeg (Int32.toInt64 (f_putPv (f_push σ pm 0))))) (cW ad cy (pm_push pm) (rj) (f_putP (f_push σ pm 0) t u r c1 lf z)) (sp_B D ad cy (pm) (σ) sz rj) (wA ad qo sz)) 4 21 (wA ad qo sz) := by
  refine va_MetW (cc := cL_addPrint) (maxL := 9) (ret := (some .int)) (by decide) rfl ?_
  intro p e s m args below meth c s₁ B hml hv
  obtain ⟨rfl, hsz, hP, hO, hK, hE, hNC, hqa, hZ⟩ := hv
  have hx := B.exec
  have hb := B.bytes
  have hr := B.returns
  have hts := atoms_spec (ws := wsL_addPrint) B.pre
  have hown : s.vm.findClass RL = some m.cls := findClass_of_methodNamed B.named
  have ht := vx_table (x := yL_addPrint) B (hts _ (List.mem_of_getElem? (i := 0) rfl))
  subst hsz
  have hqo : qo < s.heap.size := hO.lt
  have hqz := wNot hqa hqo
  have hS : va_S (wA ad qo s.heap.size) s.heap s.heap [] := va_S.rf
  have hKg := hK.sub (tys' := tyG cy) [0, 1, 2, 3, 4, 5] rfl
  have hXI : XI [eIOO, eIAE, eUOE] ((f_xTrack σ t).or ((f_xCell r c1).or ((f_xIn (f_in 0 999 u && f_in 1 9 z)).or (f_xRej (f_objPrint σ t u r c1))))) := XI.or (XI.ft List.mem_cons_self) (XI.or (XI.fc List.mem_cons_self) (XI.or (XI.fi (List.mem_cons_of_mem _ List.mem_cons_self)) (XI.fj (List.mem_cons_of_mem _ (List.mem_cons_of_mem _ List.mem_cons_self)))))
  have hl := lv_entry ([.ref (ad 429), .int (t), .int (u), .int (r), .int (c1), .int (b2i lf), .int (z), .ref qo]) (n := 9) (Nat.le_of_ble_eq_true rfl)
  refine W.eq (lg_entry_eq _ ([.ref (ad 429), .int (t), .int (u), .int (r), .int (c1), .int (b2i lf), .int (z), .ref qo]) _) ?_
  generalize (lg_sl ([.ref (ad 429), .int (t), .int (u), .int (r), .int (c1), .int (b2i lf), .int (z), .ref qo]) ++ List.replicate (9 - (lg_sl ([.ref (ad 429), .int (t), .int (u), .int (r), .int (c1), .int (b2i lf), .int (z), .ref qo])).length) Slot.unset).toArray = ls at hl ⊢
  have hl : lv_has ls 9 [(0, .ref (ad 429)), (1, .int (t)), (2, .int (u)), (3, .int (r)), (4, .int (c1)), (5, .int (b2i lf)), (6, .int (z)), (7, .ref qo)] := hl
  refine lv_aload hx hb dL_addPrint_0 (lv_at hl 7 rfl) ?_
  refine lv_iconst (v := 0) hx hb dL_addPrint_2 (by decide) ?_
  refine lv_aload_n hx hb dL_addPrint_3 rfl (lv_at hl 0 rfl) ?_
  refine lv_iload_n hx hb dL_addPrint_4 rfl (lv_at hl 1 rfl) ?_
  refine lv_iload_n hx hb dL_addPrint_5 rfl (lv_at hl 2 rfl) ?_
  refine lv_iload_n hx hb dL_addPrint_6 rfl (lv_at hl 3 rfl) ?_
  refine lv_iload hx hb dL_addPrint_7 (lv_at hl 4 rfl) ?_
  refine lv_iload hx hb dL_addPrint_9 (lv_at hl 5 rfl) ?_
  refine lv_iload hx hb dL_addPrint_11 (lv_at hl 6 rfl) ?_
  refine sp_callx (vx_runV (As := [.int (t), .int (u), .int (r), .int (c1), .int (b2i lf), .int (z)]) (rest := [.int 0, .ref qo]) ⟨hx, hb, hml, hown, hts⟩ (c_X9_addPrint l D ad cy pm rj σ xq hst _ hi t u r c1 lf z hpm) (cwV 6 hts gL_addPrint_X9_addPrint rfl rfl rfl (by decide +kernel) ⟨Nat.le_of_ble_eq_true rfl, Nat.le_of_ble_eq_true rfl⟩) (sp_preVmx hKg hP hE (κ := 429) (by decide) cE_sp rfl) rfl rfl hl.1 rfl (lv_room (Nat.le_of_ble_eq_true rfl)) dL_addPrint_13 ⟨Nat.le_of_ble_eq_true rfl, Nat.le_of_ble_eq_true rfl⟩) hS (fun q _ h => Or.inl h) (fun q h => Or.inl h) (fun E_x r_x ce q9 H locs hthr hB hle hfr hS hce hcv hcl => ?_) (fun hthr H locs hP hle hfr hS => ?_)
  · have hO : va_at D vwCl (qo, eL cl f) H := hO.kept (hfr qo hqo hqz)
    have hmem := hXI E_x r_x hthr
    rcases List.mem_cons.mp hmem with rfl | hmem
    · refine vx_catch (name := "java/lang/IndexOutOfBoundsException") hown ([]) (⟨0, 18, 21, 20⟩ : ExceptionTableEntry) (tableOf [(0, 18, 25, 13), (0, 18, 29, 15)]) (by rw [ht]; rfl) (fun z hz => absurd hz List.not_mem_nil) (by decide) (by decide) (hts _ (List.mem_of_getElem? (i := 1) rfl)) (va_Nw.use rfl hE.k0) hce hcv hcl ?_
      refine lv_astore (lv' := [(8, .ref q9), (0, .ref (ad 429)), (1, .int (t)), (2, .int (u)), (3, .int (r)), (4, .int (c1)), (5, .int (b2i lf)), (6, .int (z)), (7, .ref qo)]) hx hb dL_addPrint_21 hl (by decide) rfl (fun ls hl => ?_)
      refine lv_iconst (v := 1) hx hb dL_addPrint_23 (by decide) ?_
      exact W.iret (v := 1) hx hb hr (fun T9 hT9 _ => ⟨by rw [hthr]; exact congrArg (fun z9 => Outcome.returned (some (Value.int z9))) (kC_1).symm, hS.F hT9, Or.inr ⟨_, r_x, hthr, by rw [hT9]; exact hB, by rw [hT9]; exact hO⟩⟩) hS.2.2 dL_addPrint_24
    · skip
      rcases List.mem_cons.mp hmem with rfl | hmem
      · refine vx_catch (name := "java/lang/IllegalArgumentException") hown (tableOf [(0, 18, 21, 20)]) (⟨0, 18, 25, 13⟩ : ExceptionTableEntry) (tableOf [(0, 18, 29, 15)]) (by rw [ht]; rfl) (fun z hz => ((fun h9 => (List.mem_cons.mp h9).elim (fun e9 => by (subst e9; exact Or.inr ⟨by decide, "java/lang/IndexOutOfBoundsException", hts _ (List.mem_of_getElem? (i := 1) rfl), hNC _ _ (by decide +kernel) (by decide +kernel) (by decide +kernel)⟩)) (fun h9 => absurd h9 List.not_mem_nil)) : z ∈ tableOf [(0, 18, 21, 20)] → covers z 13 = false ∨ (z.catchType ≠ 0 ∧ ∃ nm : String, (Cond.classLink RL z.catchType nm).before _ s = true ∧ va_Nc eIAE nm s)) hz) (by decide) (by decide) (hts _ (List.mem_of_getElem? (i := 2) rfl)) (va_Nw.use rfl hE.k1) hce hcv hcl ?_
        refine lv_astore (lv' := [(8, .ref q9), (0, .ref (ad 429)), (1, .int (t)), (2, .int (u)), (3, .int (r)), (4, .int (c1)), (5, .int (b2i lf)), (6, .int (z)), (7, .ref qo)]) hx hb dL_addPrint_25 hl (by decide) rfl (fun ls hl => ?_)
        refine lv_iconst (v := 2) hx hb dL_addPrint_27 (by decide) ?_
        exact W.iret (v := 2) hx hb hr (fun T9 hT9 _ => ⟨by rw [hthr]; exact congrArg (fun z9 => Outcome.returned (some (Value.int z9))) (kC_2 (by decide +kernel)).symm, hS.F hT9, Or.inr ⟨_, r_x, hthr, by rw [hT9]; exact hB, by rw [hT9]; exact hO⟩⟩) hS.2.2 dL_addPrint_28
      · skip
        obtain rfl := List.mem_singleton.mp hmem
        refine vx_catch (name := "java/lang/UnsupportedOperationException") hown (tableOf [(0, 18, 21, 20), (0, 18, 25, 13)]) (⟨0, 18, 29, 15⟩ : ExceptionTableEntry) (tableOf []) (by rw [ht]; rfl) (fun z hz => ((fun h9 => (List.mem_cons.mp h9).elim (fun e9 => by (subst e9; exact Or.inr ⟨by decide, "java/lang/IndexOutOfBoundsException", hts _ (List.mem_of_getElem? (i := 1) rfl), hNC _ _ (by decide +kernel) (by decide +kernel) (by decide +kernel)⟩)) (fun h9 => (List.mem_cons.mp h9).elim (fun e9 => by (subst e9; exact Or.inr ⟨by decide, "java/lang/IllegalArgumentException", hts _ (List.mem_of_getElem? (i := 2) rfl), hNC _ _ (by decide +kernel) (by decide +kernel) (by decide +kernel)⟩)) (fun h9 => absurd h9 List.not_mem_nil))) : z ∈ tableOf [(0, 18, 21, 20), (0, 18, 25, 13)] → covers z 13 = false ∨ (z.catchType ≠ 0 ∧ ∃ nm : String, (Cond.classLink RL z.catchType nm).before _ s = true ∧ va_Nc eUOE nm s)) hz) (by decide) (by decide) (hts _ (List.mem_of_getElem? (i := 3) rfl)) (va_Nw.use rfl hE.k2) hce hcv hcl ?_
        refine lv_astore (lv' := [(8, .ref q9), (0, .ref (ad 429)), (1, .int (t)), (2, .int (u)), (3, .int (r)), (4, .int (c1)), (5, .int (b2i lf)), (6, .int (z)), (7, .ref qo)]) hx hb dL_addPrint_29 hl (by decide) rfl (fun ls hl => ?_)
        refine lv_iconst (v := 3) hx hb dL_addPrint_31 (by decide) ?_
        exact W.iret (v := 3) hx hb hr (fun T9 hT9 _ => ⟨by rw [hthr]; exact congrArg (fun z9 => Outcome.returned (some (Value.int z9))) (kC_3 (by decide +kernel) (by decide +kernel)).symm, hS.F hT9, Or.inr ⟨_, r_x, hthr, by rw [hT9]; exact hB, by rw [hT9]; exact hO⟩⟩) hS.2.2 dL_addPrint_32
  · have hO : va_at D vwCl (qo, eL cl f) H := hO.kept (hfr qo hqo hqz)
    have hPq := wCons hO hP
    have hDq : va_D (wA ad qo s.heap.size) ((qo, eL cl f) :: cW ad cy (pm_push pm) (rj) (f_putP (f_push σ pm 0) t u r c1 lf z)) := wApart hi hqa (Or.inr rfl) (fun k hk => Or.inl (Or.inl ⟨k, hk, rfl⟩))
    refine W.eq (g2 := F0 m 16 ls [.int (f_putPv (f_push σ pm 0)), .int 0, .ref qo]) rfl ?_
    refine lv_i2l (v := Int32.toInt64 (f_putPv (f_push σ pm 0))) hx hb dL_addPrint_16 rfl ?_
    refine va_last hx hb hK hPq hDq hS 0 6 rfl rfl (i := 0) (x := Int32.toInt64 (f_putPv (f_push σ pm 0))) vp01 dL_addPrint_17 (fun H locs hP hD hS => ?_)
    refine lv_goto (tgt := 33) hx hb dL_addPrint_18 (by decide) ?_
    refine lv_iconst (v := 0) hx hb dL_addPrint_33 (by decide) ?_
    exact W.iret (v := 0) hx hb hr (fun T9 hT9 _ => ⟨by rw [hthr]; rfl, hS.F hT9, Or.inl ⟨hthr, by rw [hT9]; exact wTail hP, by rw [hT9]; exact wHead hP⟩⟩) hS.2.2 dL_addPrint_34
set_option maxHeartbeats 4000000 in
set_option maxRecDepth 100000 in
theorem c_L_removePrint (l : Launch) (D : va_G) (ad : Nat → Nat) (cy : Nat → ClassId) (pm : Nat → Nat) (rj : Option Nat) (σ : Nat → Nat → Int32) (xq : Nat → Nat) (hst : l.stackTraces = false) (sz : Nat) (hi : sp_inj ad 459) (id : Int32) (hpm : ∀ j, j < 8 → 1 ≤ pm j ∧ pm j ≤ 8) (cl cd : ClassId) (qo : Nat) (f : Nat → Int64) (g : Nat → UInt64) : Met l yL_removePrint wsL_removePrint ({ frames := 8, cells := 1, slots := 6, locals := 134 } : Room) (wPc xq ad D cy cl cd sz [.ref (ad 429), .int (id), .ref qo] (cW ad cy pm rj σ) qo (eL cl f) (fun _ => True)) (wQ (f_xPrint σ id) [eIOO] D qo (eL cl f) (eL cl (vp_updL f (0 : Int32).toNatClampNeg (Int32.toInt64 (atO (f_findPrint σ id) 0 (fun k => (f_push σ pm 0) (9 + k) 2))))) (cW ad cy (pm_push pm) (rj) (atO (f_findPrint σ id) (f_push σ pm 0) (fun k => sp_st (f_push σ pm 0) (9 + k) 0 0))) (sp_B D ad cy (pm) (σ) sz rj) (wA ad qo sz)) 1 6 (wA ad qo sz) := by
  refine va_MetW (cc := cL_removePrint) (maxL := 4) (ret := (some .int)) (by decide) rfl ?_
  intro p e s m args below meth c s₁ B hml hv
  obtain ⟨rfl, hsz, hP, hO, hK, hE, hNC, hqa, hZ⟩ := hv
  have hx := B.exec
  have hb := B.bytes
  have hr := B.returns
  have hts := atoms_spec (ws := wsL_removePrint) B.pre
  have hown : s.vm.findClass RL = some m.cls := findClass_of_methodNamed B.named
  have ht := vx_table (x := yL_removePrint) B (hts _ (List.mem_of_getElem? (i := 0) rfl))
  subst hsz
  have hqo : qo < s.heap.size := hO.lt
  have hqz := wNot hqa hqo
  have hS : va_S (wA ad qo s.heap.size) s.heap s.heap [] := va_S.rf
  have hKg := hK.sub (tys' := tyG cy) [0, 1, 2, 3, 4, 5] rfl
  have hXI : XI [eIOO] (f_xPrint σ id) := XI.fp List.mem_cons_self
  have hl := lv_entry ([.ref (ad 429), .int (id), .ref qo]) (n := 4) (Nat.le_of_ble_eq_true rfl)
  refine W.eq (lg_entry_eq _ ([.ref (ad 429), .int (id), .ref qo]) _) ?_
  generalize (lg_sl ([.ref (ad 429), .int (id), .ref qo]) ++ List.replicate (4 - (lg_sl ([.ref (ad 429), .int (id), .ref qo])).length) Slot.unset).toArray = ls at hl ⊢
  have hl : lv_has ls 4 [(0, .ref (ad 429)), (1, .int (id)), (2, .ref qo)] := hl
  refine lv_aload_n hx hb dL_removePrint_0 rfl (lv_at hl 2 rfl) ?_
  refine lv_iconst (v := 0) hx hb dL_removePrint_1 (by decide) ?_
  refine lv_aload_n hx hb dL_removePrint_2 rfl (lv_at hl 0 rfl) ?_
  refine lv_iload_n hx hb dL_removePrint_3 rfl (lv_at hl 1 rfl) ?_
  refine sp_callx (vx_runV (As := [.int (id)]) (rest := [.int 0, .ref qo]) ⟨hx, hb, hml, hown, hts⟩ (c_X9_removePrint l D ad cy pm rj σ xq hst _ hi id hpm) (cwV 1 hts gL_removePrint_X9_removePrint rfl rfl rfl (by decide +kernel) ⟨Nat.le_of_ble_eq_true rfl, Nat.le_of_ble_eq_true rfl⟩) (sp_preVmx hKg hP hE (κ := 429) (by decide) cE_sp rfl) rfl rfl hl.1 rfl (lv_room (Nat.le_of_ble_eq_true rfl)) dL_removePrint_4 ⟨Nat.le_of_ble_eq_true rfl, Nat.le_of_ble_eq_true rfl⟩) hS (fun q _ h => Or.inl h) (fun q h => Or.inl h) (fun E_x r_x ce q9 H locs hthr hB hle hfr hS hce hcv hcl => ?_) (fun hthr H locs hP hle hfr hS => ?_)
  · have hO : va_at D vwCl (qo, eL cl f) H := hO.kept (hfr qo hqo hqz)
    have hmem := hXI E_x r_x hthr
    obtain rfl := List.mem_singleton.mp hmem
    refine vx_catch (name := "java/lang/IndexOutOfBoundsException") hown ([]) (⟨0, 9, 12, 20⟩ : ExceptionTableEntry) (tableOf []) (by rw [ht]; rfl) (fun z hz => absurd hz List.not_mem_nil) (by decide) (by decide) (hts _ (List.mem_of_getElem? (i := 1) rfl)) (va_Nw.use rfl hE.k0) hce hcv hcl ?_
    refine lv_astore_n (lv' := [(3, .ref q9), (0, .ref (ad 429)), (1, .int (id)), (2, .ref qo)]) hx hb dL_removePrint_12 rfl hl (by decide) rfl (fun ls hl => ?_)
    refine lv_iconst (v := 1) hx hb dL_removePrint_13 (by decide) ?_
    exact W.iret (v := 1) hx hb hr (fun T9 hT9 _ => ⟨by rw [hthr]; exact congrArg (fun z9 => Outcome.returned (some (Value.int z9))) (kC_1).symm, hS.F hT9, Or.inr ⟨_, r_x, hthr, by rw [hT9]; exact hB, by rw [hT9]; exact hO⟩⟩) hS.2.2 dL_removePrint_14
  · have hO : va_at D vwCl (qo, eL cl f) H := hO.kept (hfr qo hqo hqz)
    have hPq := wCons hO hP
    have hDq : va_D (wA ad qo s.heap.size) ((qo, eL cl f) :: cW ad cy (pm_push pm) (rj) (atO (f_findPrint σ id) (f_push σ pm 0) (fun k => sp_st (f_push σ pm 0) (9 + k) 0 0))) := wApart hi hqa (Or.inr rfl) (fun k hk => Or.inl (Or.inl ⟨k, hk, rfl⟩))
    refine W.eq (g2 := F0 m 7 ls [.int (atO (f_findPrint σ id) 0 (fun k => (f_push σ pm 0) (9 + k) 2)), .int 0, .ref qo]) rfl ?_
    refine lv_i2l (v := Int32.toInt64 (atO (f_findPrint σ id) 0 (fun k => (f_push σ pm 0) (9 + k) 2))) hx hb dL_removePrint_7 rfl ?_
    refine va_last hx hb hK hPq hDq hS 0 6 rfl rfl (i := 0) (x := Int32.toInt64 (atO (f_findPrint σ id) 0 (fun k => (f_push σ pm 0) (9 + k) 2))) vp01 dL_removePrint_8 (fun H locs hP hD hS => ?_)
    refine lv_goto (tgt := 15) hx hb dL_removePrint_9 (by decide) ?_
    refine lv_iconst (v := 0) hx hb dL_removePrint_15 (by decide) ?_
    exact W.iret (v := 0) hx hb hr (fun T9 hT9 _ => ⟨by rw [hthr]; rfl, hS.F hT9, Or.inl ⟨hthr, by rw [hT9]; exact wTail hP, by rw [hT9]; exact wHead hP⟩⟩) hS.2.2 dL_removePrint_16
set_option maxHeartbeats 4000000 in
set_option maxRecDepth 100000 in
theorem c_L_correctHeel (l : Launch) (D : va_G) (ad : Nat → Nat) (cy : Nat → ClassId) (pm : Nat → Nat) (rj : Option Nat) (σ : Nat → Nat → Int32) (xq : Nat → Nat) (hst : l.stackTraces = false) (sz : Nat) (hi : sp_inj ad 459) (id : Int32) (r : Int32) (c1 : Int32) (hpm : ∀ j, j < 8 → 1 ≤ pm j ∧ pm j ≤ 8) (cl cd : ClassId) (qo : Nat) (f : Nat → Int64) (g : Nat → UInt64) : Met l yL_correctHeel wsL_correctHeel ({ frames := 8, cells := 4, slots := 21, locals := 136 } : Room) (wPc xq ad D cy cl cd sz [.ref (ad 429), .int (id), .int (r), .int (c1), .ref qo] (cW ad cy pm rj σ) qo (eL cl f) (fun _ => True)) (wQ ((f_xPrint σ id).or ((f_xCell r c1).or (atO (f_findPrint σ id) none (fun k => f_xRej (f_objMove σ k r c1))))) [eIOO, eUOE] D qo (eL cl f) (eL cl (vp_updL f (0 : Int32).toNatClampNeg (Int32.toInt64 (atO (f_findPrint σ id) 0 (fun k => f_dist (f_push σ pm 0) (9 + k) r c1))))) (cW ad cy (pm_push pm) (rj) (atO (f_findPrint σ id) (f_push σ pm 0) (fun k => sp_st (sp_st (sp_st (f_push σ pm 0) (9 + k) 4 r) (9 + k) 5 c1) 0 6 ((f_push σ pm 0) 0 6 + 1)))) (sp_B D ad cy (pm) (σ) sz rj) (wA ad qo sz)) 4 21 (wA ad qo sz) := by
  refine va_MetW (cc := cL_correctHeel) (maxL := 6) (ret := (some .int)) (by decide) rfl ?_
  intro p e s m args below meth c s₁ B hml hv
  obtain ⟨rfl, hsz, hP, hO, hK, hE, hNC, hqa, hZ⟩ := hv
  have hx := B.exec
  have hb := B.bytes
  have hr := B.returns
  have hts := atoms_spec (ws := wsL_correctHeel) B.pre
  have hown : s.vm.findClass RL = some m.cls := findClass_of_methodNamed B.named
  have ht := vx_table (x := yL_correctHeel) B (hts _ (List.mem_of_getElem? (i := 0) rfl))
  subst hsz
  have hqo : qo < s.heap.size := hO.lt
  have hqz := wNot hqa hqo
  have hS : va_S (wA ad qo s.heap.size) s.heap s.heap [] := va_S.rf
  have hKg := hK.sub (tys' := tyG cy) [0, 1, 2, 3, 4, 5] rfl
  have hXI : XI [eIOO, eUOE] ((f_xPrint σ id).or ((f_xCell r c1).or (atO (f_findPrint σ id) none (fun k => f_xRej (f_objMove σ k r c1))))) := XI.or (XI.fp List.mem_cons_self) (XI.or (XI.fc List.mem_cons_self) (XI.at (fun k => XI.fj (List.mem_cons_of_mem _ List.mem_cons_self))))
  have hl := lv_entry ([.ref (ad 429), .int (id), .int (r), .int (c1), .ref qo]) (n := 6) (Nat.le_of_ble_eq_true rfl)
  refine W.eq (lg_entry_eq _ ([.ref (ad 429), .int (id), .int (r), .int (c1), .ref qo]) _) ?_
  generalize (lg_sl ([.ref (ad 429), .int (id), .int (r), .int (c1), .ref qo]) ++ List.replicate (6 - (lg_sl ([.ref (ad 429), .int (id), .int (r), .int (c1), .ref qo])).length) Slot.unset).toArray = ls at hl ⊢
  have hl : lv_has ls 6 [(0, .ref (ad 429)), (1, .int (id)), (2, .int (r)), (3, .int (c1)), (4, .ref qo)] := hl
  refine lv_aload hx hb dL_correctHeel_0 (lv_at hl 4 rfl) ?_
  refine lv_iconst (v := 0) hx hb dL_correctHeel_2 (by decide) ?_
  refine lv_aload_n hx hb dL_correctHeel_3 rfl (lv_at hl 0 rfl) ?_
  refine lv_iload_n hx hb dL_correctHeel_4 rfl (lv_at hl 1 rfl) ?_
  refine lv_iload_n hx hb dL_correctHeel_5 rfl (lv_at hl 2 rfl) ?_
  refine lv_iload_n hx hb dL_correctHeel_6 rfl (lv_at hl 3 rfl) ?_
  refine sp_callx (vx_runV (As := [.int (id), .int (r), .int (c1)]) (rest := [.int 0, .ref qo]) ⟨hx, hb, hml, hown, hts⟩ (c_X9_correctHeel l D ad cy pm rj σ xq hst _ hi id r c1 hpm) (cwV 3 hts gL_correctHeel_X9_correctHeel rfl rfl rfl (by decide +kernel) ⟨Nat.le_of_ble_eq_true rfl, Nat.le_of_ble_eq_true rfl⟩) (sp_preVmx hKg hP hE (κ := 429) (by decide) cE_sp rfl) rfl rfl hl.1 rfl (lv_room (Nat.le_of_ble_eq_true rfl)) dL_correctHeel_7 ⟨Nat.le_of_ble_eq_true rfl, Nat.le_of_ble_eq_true rfl⟩) hS (fun q _ h => Or.inl h) (fun q h => Or.inl h) (fun E_x r_x ce q9 H locs hthr hB hle hfr hS hce hcv hcl => ?_) (fun hthr H locs hP hle hfr hS => ?_)
  · have hO : va_at D vwCl (qo, eL cl f) H := hO.kept (hfr qo hqo hqz)
    have hmem := hXI E_x r_x hthr
    rcases List.mem_cons.mp hmem with rfl | hmem
    · refine vx_catch (name := "java/lang/IndexOutOfBoundsException") hown ([]) (⟨0, 12, 15, 20⟩ : ExceptionTableEntry) (tableOf [(0, 12, 19, 15)]) (by rw [ht]; rfl) (fun z hz => absurd hz List.not_mem_nil) (by decide) (by decide) (hts _ (List.mem_of_getElem? (i := 1) rfl)) (va_Nw.use rfl hE.k0) hce hcv hcl ?_
      refine lv_astore (lv' := [(5, .ref q9), (0, .ref (ad 429)), (1, .int (id)), (2, .int (r)), (3, .int (c1)), (4, .ref qo)]) hx hb dL_correctHeel_15 hl (by decide) rfl (fun ls hl => ?_)
      refine lv_iconst (v := 1) hx hb dL_correctHeel_17 (by decide) ?_
      exact W.iret (v := 1) hx hb hr (fun T9 hT9 _ => ⟨by rw [hthr]; exact congrArg (fun z9 => Outcome.returned (some (Value.int z9))) (kC_1).symm, hS.F hT9, Or.inr ⟨_, r_x, hthr, by rw [hT9]; exact hB, by rw [hT9]; exact hO⟩⟩) hS.2.2 dL_correctHeel_18
    · skip
      obtain rfl := List.mem_singleton.mp hmem
      refine vx_catch (name := "java/lang/UnsupportedOperationException") hown (tableOf [(0, 12, 15, 20)]) (⟨0, 12, 19, 15⟩ : ExceptionTableEntry) (tableOf []) (by rw [ht]; rfl) (fun z hz => ((fun h9 => (List.mem_cons.mp h9).elim (fun e9 => by (subst e9; exact Or.inr ⟨by decide, "java/lang/IndexOutOfBoundsException", hts _ (List.mem_of_getElem? (i := 1) rfl), hNC _ _ (by decide +kernel) (by decide +kernel) (by decide +kernel)⟩)) (fun h9 => absurd h9 List.not_mem_nil)) : z ∈ tableOf [(0, 12, 15, 20)] → covers z 7 = false ∨ (z.catchType ≠ 0 ∧ ∃ nm : String, (Cond.classLink RL z.catchType nm).before _ s = true ∧ va_Nc eUOE nm s)) hz) (by decide) (by decide) (hts _ (List.mem_of_getElem? (i := 2) rfl)) (va_Nw.use rfl hE.k2) hce hcv hcl ?_
      refine lv_astore (lv' := [(5, .ref q9), (0, .ref (ad 429)), (1, .int (id)), (2, .int (r)), (3, .int (c1)), (4, .ref qo)]) hx hb dL_correctHeel_19 hl (by decide) rfl (fun ls hl => ?_)
      refine lv_iconst (v := 2) hx hb dL_correctHeel_21 (by decide) ?_
      exact W.iret (v := 2) hx hb hr (fun T9 hT9 _ => ⟨by rw [hthr]; exact congrArg (fun z9 => Outcome.returned (some (Value.int z9))) (kC_2 (by decide +kernel)).symm, hS.F hT9, Or.inr ⟨_, r_x, hthr, by rw [hT9]; exact hB, by rw [hT9]; exact hO⟩⟩) hS.2.2 dL_correctHeel_22
  · have hO : va_at D vwCl (qo, eL cl f) H := hO.kept (hfr qo hqo hqz)
    have hPq := wCons hO hP
    have hDq : va_D (wA ad qo s.heap.size) ((qo, eL cl f) :: cW ad cy (pm_push pm) (rj) (atO (f_findPrint σ id) (f_push σ pm 0) (fun k => sp_st (sp_st (sp_st (f_push σ pm 0) (9 + k) 4 r) (9 + k) 5 c1) 0 6 ((f_push σ pm 0) 0 6 + 1)))) := wApart hi hqa (Or.inr rfl) (fun k hk => Or.inl (Or.inl ⟨k, hk, rfl⟩))
    refine W.eq (g2 := F0 m 10 ls [.int (atO (f_findPrint σ id) 0 (fun k => f_dist (f_push σ pm 0) (9 + k) r c1)), .int 0, .ref qo]) rfl ?_
    refine lv_i2l (v := Int32.toInt64 (atO (f_findPrint σ id) 0 (fun k => f_dist (f_push σ pm 0) (9 + k) r c1))) hx hb dL_correctHeel_10 rfl ?_
    refine va_last hx hb hK hPq hDq hS 0 6 rfl rfl (i := 0) (x := Int32.toInt64 (atO (f_findPrint σ id) 0 (fun k => f_dist (f_push σ pm 0) (9 + k) r c1))) vp01 dL_correctHeel_11 (fun H locs hP hD hS => ?_)
    refine lv_goto (tgt := 23) hx hb dL_correctHeel_12 (by decide) ?_
    refine lv_iconst (v := 0) hx hb dL_correctHeel_23 (by decide) ?_
    exact W.iret (v := 0) hx hb hr (fun T9 hT9 _ => ⟨by rw [hthr]; rfl, hS.F hT9, Or.inl ⟨hthr, by rw [hT9]; exact wTail hP, by rw [hT9]; exact wHead hP⟩⟩) hS.2.2 dL_correctHeel_24
set_option maxHeartbeats 4000000 in
set_option maxRecDepth 100000 in
theorem c_L_swapFoot (l : Launch) (D : va_G) (ad : Nat → Nat) (cy : Nat → ClassId) (pm : Nat → Nat) (rj : Option Nat) (σ : Nat → Nat → Int32) (xq : Nat → Nat) (hst : l.stackTraces = false) (sz : Nat) (hi : sp_inj ad 459) (id : Int32) (hpm : ∀ j, j < 8 → 1 ≤ pm j ∧ pm j ≤ 8) (cl cd : ClassId) (qo : Nat) (f : Nat → Int64) (g : Nat → UInt64) : Met l yL_swapFoot wsL_swapFoot ({ frames := 8, cells := 1, slots := 6, locals := 134 } : Room) (wPc xq ad D cy cl cd sz [.ref (ad 429), .int (id), .ref qo] (cW ad cy pm rj σ) qo (eL cl f) (fun _ => True)) (wQ (f_xPrint σ id) [eIOO] D qo (eL cl f) (eL cl (vp_updL f (0 : Int32).toNatClampNeg (Int32.toInt64 (b2i (atO (f_findPrint σ id) false (fun k => (f_push σ pm 0) (9 + k) 6 == 0)))))) (cW ad cy (pm_push pm) (rj) (atO (f_findPrint σ id) (f_push σ pm 0) (fun k => sp_st (f_push σ pm 0) (9 + k) 6 (b2i ((f_push σ pm 0) (9 + k) 6 == 0))))) (sp_B D ad cy (pm) (σ) sz rj) (wA ad qo sz)) 1 6 (wA ad qo sz) := by
  refine va_MetW (cc := cL_swapFoot) (maxL := 4) (ret := (some .int)) (by decide) rfl ?_
  intro p e s m args below meth c s₁ B hml hv
  obtain ⟨rfl, hsz, hP, hO, hK, hE, hNC, hqa, hZ⟩ := hv
  have hx := B.exec
  have hb := B.bytes
  have hr := B.returns
  have hts := atoms_spec (ws := wsL_swapFoot) B.pre
  have hown : s.vm.findClass RL = some m.cls := findClass_of_methodNamed B.named
  have ht := vx_table (x := yL_swapFoot) B (hts _ (List.mem_of_getElem? (i := 0) rfl))
  subst hsz
  have hqo : qo < s.heap.size := hO.lt
  have hqz := wNot hqa hqo
  have hS : va_S (wA ad qo s.heap.size) s.heap s.heap [] := va_S.rf
  have hKg := hK.sub (tys' := tyG cy) [0, 1, 2, 3, 4, 5] rfl
  have hXI : XI [eIOO] (f_xPrint σ id) := XI.fp List.mem_cons_self
  have hl := lv_entry ([.ref (ad 429), .int (id), .ref qo]) (n := 4) (Nat.le_of_ble_eq_true rfl)
  refine W.eq (lg_entry_eq _ ([.ref (ad 429), .int (id), .ref qo]) _) ?_
  generalize (lg_sl ([.ref (ad 429), .int (id), .ref qo]) ++ List.replicate (4 - (lg_sl ([.ref (ad 429), .int (id), .ref qo])).length) Slot.unset).toArray = ls at hl ⊢
  have hl : lv_has ls 4 [(0, .ref (ad 429)), (1, .int (id)), (2, .ref qo)] := hl
  refine lv_aload_n hx hb dL_swapFoot_0 rfl (lv_at hl 2 rfl) ?_
  refine lv_iconst (v := 0) hx hb dL_swapFoot_1 (by decide) ?_
  refine lv_aload_n hx hb dL_swapFoot_2 rfl (lv_at hl 0 rfl) ?_
  refine lv_iload_n hx hb dL_swapFoot_3 rfl (lv_at hl 1 rfl) ?_
  refine sp_callx (vx_runV (As := [.int (id)]) (rest := [.int 0, .ref qo]) ⟨hx, hb, hml, hown, hts⟩ (c_X9_swapFoot l D ad cy pm rj σ xq hst _ hi id hpm) (cwV 1 hts gL_swapFoot_X9_swapFoot rfl rfl rfl (by decide +kernel) ⟨Nat.le_of_ble_eq_true rfl, Nat.le_of_ble_eq_true rfl⟩) (sp_preVmx hKg hP hE (κ := 429) (by decide) cE_sp rfl) rfl rfl hl.1 rfl (lv_room (Nat.le_of_ble_eq_true rfl)) dL_swapFoot_4 ⟨Nat.le_of_ble_eq_true rfl, Nat.le_of_ble_eq_true rfl⟩) hS (fun q _ h => Or.inl h) (fun q h => Or.inl h) (fun E_x r_x ce q9 H locs hthr hB hle hfr hS hce hcv hcl => ?_) (fun hthr H locs hP hle hfr hS => ?_)
  · have hO : va_at D vwCl (qo, eL cl f) H := hO.kept (hfr qo hqo hqz)
    have hmem := hXI E_x r_x hthr
    obtain rfl := List.mem_singleton.mp hmem
    refine vx_catch (name := "java/lang/IndexOutOfBoundsException") hown ([]) (⟨0, 16, 19, 20⟩ : ExceptionTableEntry) (tableOf []) (by rw [ht]; rfl) (fun z hz => absurd hz List.not_mem_nil) (by decide) (by decide) (hts _ (List.mem_of_getElem? (i := 1) rfl)) (va_Nw.use rfl hE.k0) hce hcv hcl ?_
    refine lv_astore_n (lv' := [(3, .ref q9), (0, .ref (ad 429)), (1, .int (id)), (2, .ref qo)]) hx hb dL_swapFoot_19 rfl hl (by decide) rfl (fun ls hl => ?_)
    refine lv_iconst (v := 1) hx hb dL_swapFoot_20 (by decide) ?_
    exact W.iret (v := 1) hx hb hr (fun T9 hT9 _ => ⟨by rw [hthr]; exact congrArg (fun z9 => Outcome.returned (some (Value.int z9))) (kC_1).symm, hS.F hT9, Or.inr ⟨_, r_x, hthr, by rw [hT9]; exact hB, by rw [hT9]; exact hO⟩⟩) hS.2.2 dL_swapFoot_21
  · have hO : va_at D vwCl (qo, eL cl f) H := hO.kept (hfr qo hqo hqz)
    have hPq := wCons hO hP
    have hDq : va_D (wA ad qo s.heap.size) ((qo, eL cl f) :: cW ad cy (pm_push pm) (rj) (atO (f_findPrint σ id) (f_push σ pm 0) (fun k => sp_st (f_push σ pm 0) (9 + k) 6 (b2i ((f_push σ pm 0) (9 + k) 6 == 0))))) := wApart hi hqa (Or.inr rfl) (fun k hk => Or.inl (Or.inl ⟨k, hk, rfl⟩))
    refine W.eq (g2 := F0 m 7 ls [.int (b2i (atO (f_findPrint σ id) false (fun k => (f_push σ pm 0) (9 + k) 6 == 0))), .int 0, .ref qo]) rfl ?_
    refine lv_if_eq (tgt := 14) hx hb dL_swapFoot_7 (by decide) (fun c_1 => ?_) (fun c_1 => ?_)
    · refine lv_lconst (v := 0) hx hb dL_swapFoot_14 rfl ?_
      refine W.eq (g2 := F0 m 15 ls [.long (Int32.toInt64 (b2i (atO (f_findPrint σ id) false (fun k => (f_push σ pm 0) (9 + k) 6 == 0)))), .int 0, .ref qo]) (by rw [c_1]; rfl) ?_
      refine va_last hx hb hK hPq hDq hS 0 6 rfl rfl (i := 0) (x := Int32.toInt64 (b2i (atO (f_findPrint σ id) false (fun k => (f_push σ pm 0) (9 + k) 6 == 0)))) vp01 dL_swapFoot_15 (fun H locs hP hD hS => ?_)
      refine lv_goto (tgt := 22) hx hb dL_swapFoot_16 (by decide) ?_
      refine lv_iconst (v := 0) hx hb dL_swapFoot_22 (by decide) ?_
      exact W.iret (v := 0) hx hb hr (fun T9 hT9 _ => ⟨by rw [hthr]; rfl, hS.F hT9, Or.inl ⟨hthr, by rw [hT9]; exact wTail hP, by rw [hT9]; exact wHead hP⟩⟩) hS.2.2 dL_swapFoot_23
    · refine lv_lconst (v := 1) hx hb dL_swapFoot_10 rfl ?_
      refine lv_goto (tgt := 15) hx hb dL_swapFoot_11 (by decide) ?_
      refine W.eq (g2 := F0 m 15 ls [.long (Int32.toInt64 (b2i (atO (f_findPrint σ id) false (fun k => (f_push σ pm 0) (9 + k) 6 == 0)))), .int 0, .ref qo]) (by rw [b01 c_1]; rfl) ?_
      refine va_last hx hb hK hPq hDq hS 0 6 rfl rfl (i := 0) (x := Int32.toInt64 (b2i (atO (f_findPrint σ id) false (fun k => (f_push σ pm 0) (9 + k) 6 == 0)))) vp01 dL_swapFoot_15 (fun H locs hP hD hS => ?_)
      refine lv_goto (tgt := 22) hx hb dL_swapFoot_16 (by decide) ?_
      refine lv_iconst (v := 0) hx hb dL_swapFoot_22 (by decide) ?_
      exact W.iret (v := 0) hx hb hr (fun T9 hT9 _ => ⟨by rw [hthr]; rfl, hS.F hT9, Or.inl ⟨hthr, by rw [hT9]; exact wTail hP, by rw [hT9]; exact wHead hP⟩⟩) hS.2.2 dL_swapFoot_23
set_option maxHeartbeats 4000000 in
set_option maxRecDepth 100000 in
theorem c_L_doubtToes (l : Launch) (D : va_G) (ad : Nat → Nat) (cy : Nat → ClassId) (pm : Nat → Nat) (rj : Option Nat) (σ : Nat → Nat → Int32) (xq : Nat → Nat) (hst : l.stackTraces = false) (sz : Nat) (hi : sp_inj ad 459) (id : Int32) (hpm : ∀ j, j < 8 → 1 ≤ pm j ∧ pm j ≤ 8) (cl cd : ClassId) (qo : Nat) (f : Nat → Int64) (g : Nat → UInt64) : Met l yL_doubtToes wsL_doubtToes ({ frames := 8, cells := 3, slots := 15, locals := 134 } : Room) (wPc xq ad D cy cl cd sz [.ref (ad 429), .int (id), .ref qo] (cW ad cy pm rj σ) qo (eL cl f) (fun _ => True)) (wQ ((f_xPrint σ id).or (atO (f_findPrint σ id) none (fun k => f_xRej (f_objDoubt σ k)))) [eIOO, eUOE] D qo (eL cl f) (eL cl (vp_updL f (0 : Int32).toNatClampNeg (Int32.toInt64 (atO (f_findPrint σ id) 0 (fun k => (f_push σ pm 0) (9 + k) 8 + 1))))) (cW ad cy (pm_push pm) (rj) (atO (f_findPrint σ id) (f_push σ pm 0) (fun k => sp_st (f_push σ pm 0) (9 + k) 8 ((f_push σ pm 0) (9 + k) 8 + 1)))) (sp_B D ad cy (pm) (σ) sz rj) (wA ad qo sz)) 3 15 (wA ad qo sz) := by
  refine va_MetW (cc := cL_doubtToes) (maxL := 4) (ret := (some .int)) (by decide) rfl ?_
  intro p e s m args below meth c s₁ B hml hv
  obtain ⟨rfl, hsz, hP, hO, hK, hE, hNC, hqa, hZ⟩ := hv
  have hx := B.exec
  have hb := B.bytes
  have hr := B.returns
  have hts := atoms_spec (ws := wsL_doubtToes) B.pre
  have hown : s.vm.findClass RL = some m.cls := findClass_of_methodNamed B.named
  have ht := vx_table (x := yL_doubtToes) B (hts _ (List.mem_of_getElem? (i := 0) rfl))
  subst hsz
  have hqo : qo < s.heap.size := hO.lt
  have hqz := wNot hqa hqo
  have hS : va_S (wA ad qo s.heap.size) s.heap s.heap [] := va_S.rf
  have hKg := hK.sub (tys' := tyG cy) [0, 1, 2, 3, 4, 5] rfl
  have hXI : XI [eIOO, eUOE] ((f_xPrint σ id).or (atO (f_findPrint σ id) none (fun k => f_xRej (f_objDoubt σ k)))) := XI.or (XI.fp List.mem_cons_self) (XI.at (fun k => XI.fj (List.mem_cons_of_mem _ List.mem_cons_self)))
  have hl := lv_entry ([.ref (ad 429), .int (id), .ref qo]) (n := 4) (Nat.le_of_ble_eq_true rfl)
  refine W.eq (lg_entry_eq _ ([.ref (ad 429), .int (id), .ref qo]) _) ?_
  generalize (lg_sl ([.ref (ad 429), .int (id), .ref qo]) ++ List.replicate (4 - (lg_sl ([.ref (ad 429), .int (id), .ref qo])).length) Slot.unset).toArray = ls at hl ⊢
  have hl : lv_has ls 4 [(0, .ref (ad 429)), (1, .int (id)), (2, .ref qo)] := hl
  refine lv_aload_n hx hb dL_doubtToes_0 rfl (lv_at hl 2 rfl) ?_
  refine lv_iconst (v := 0) hx hb dL_doubtToes_1 (by decide) ?_
  refine lv_aload_n hx hb dL_doubtToes_2 rfl (lv_at hl 0 rfl) ?_
  refine lv_iload_n hx hb dL_doubtToes_3 rfl (lv_at hl 1 rfl) ?_
  refine sp_callx (vx_runV (As := [.int (id)]) (rest := [.int 0, .ref qo]) ⟨hx, hb, hml, hown, hts⟩ (c_X9_doubtToes l D ad cy pm rj σ xq hst _ hi id hpm) (cwV 1 hts gL_doubtToes_X9_doubtToes rfl rfl rfl (by decide +kernel) ⟨Nat.le_of_ble_eq_true rfl, Nat.le_of_ble_eq_true rfl⟩) (sp_preVmx hKg hP hE (κ := 429) (by decide) cE_sp rfl) rfl rfl hl.1 rfl (lv_room (Nat.le_of_ble_eq_true rfl)) dL_doubtToes_4 ⟨Nat.le_of_ble_eq_true rfl, Nat.le_of_ble_eq_true rfl⟩) hS (fun q _ h => Or.inl h) (fun q h => Or.inl h) (fun E_x r_x ce q9 H locs hthr hB hle hfr hS hce hcv hcl => ?_) (fun hthr H locs hP hle hfr hS => ?_)
  · have hO : va_at D vwCl (qo, eL cl f) H := hO.kept (hfr qo hqo hqz)
    have hmem := hXI E_x r_x hthr
    rcases List.mem_cons.mp hmem with rfl | hmem
    · refine vx_catch (name := "java/lang/IndexOutOfBoundsException") hown ([]) (⟨0, 9, 12, 20⟩ : ExceptionTableEntry) (tableOf [(0, 9, 15, 15)]) (by rw [ht]; rfl) (fun z hz => absurd hz List.not_mem_nil) (by decide) (by decide) (hts _ (List.mem_of_getElem? (i := 1) rfl)) (va_Nw.use rfl hE.k0) hce hcv hcl ?_
      refine lv_astore_n (lv' := [(3, .ref q9), (0, .ref (ad 429)), (1, .int (id)), (2, .ref qo)]) hx hb dL_doubtToes_12 rfl hl (by decide) rfl (fun ls hl => ?_)
      refine lv_iconst (v := 1) hx hb dL_doubtToes_13 (by decide) ?_
      exact W.iret (v := 1) hx hb hr (fun T9 hT9 _ => ⟨by rw [hthr]; exact congrArg (fun z9 => Outcome.returned (some (Value.int z9))) (kC_1).symm, hS.F hT9, Or.inr ⟨_, r_x, hthr, by rw [hT9]; exact hB, by rw [hT9]; exact hO⟩⟩) hS.2.2 dL_doubtToes_14
    · skip
      obtain rfl := List.mem_singleton.mp hmem
      refine vx_catch (name := "java/lang/UnsupportedOperationException") hown (tableOf [(0, 9, 12, 20)]) (⟨0, 9, 15, 15⟩ : ExceptionTableEntry) (tableOf []) (by rw [ht]; rfl) (fun z hz => ((fun h9 => (List.mem_cons.mp h9).elim (fun e9 => by (subst e9; exact Or.inr ⟨by decide, "java/lang/IndexOutOfBoundsException", hts _ (List.mem_of_getElem? (i := 1) rfl), hNC _ _ (by decide +kernel) (by decide +kernel) (by decide +kernel)⟩)) (fun h9 => absurd h9 List.not_mem_nil)) : z ∈ tableOf [(0, 9, 12, 20)] → covers z 4 = false ∨ (z.catchType ≠ 0 ∧ ∃ nm : String, (Cond.classLink RL z.catchType nm).before _ s = true ∧ va_Nc eUOE nm s)) hz) (by decide) (by decide) (hts _ (List.mem_of_getElem? (i := 2) rfl)) (va_Nw.use rfl hE.k2) hce hcv hcl ?_
      refine lv_astore_n (lv' := [(3, .ref q9), (0, .ref (ad 429)), (1, .int (id)), (2, .ref qo)]) hx hb dL_doubtToes_15 rfl hl (by decide) rfl (fun ls hl => ?_)
      refine lv_iconst (v := 2) hx hb dL_doubtToes_16 (by decide) ?_
      exact W.iret (v := 2) hx hb hr (fun T9 hT9 _ => ⟨by rw [hthr]; exact congrArg (fun z9 => Outcome.returned (some (Value.int z9))) (kC_2 (by decide +kernel)).symm, hS.F hT9, Or.inr ⟨_, r_x, hthr, by rw [hT9]; exact hB, by rw [hT9]; exact hO⟩⟩) hS.2.2 dL_doubtToes_17
  · have hO : va_at D vwCl (qo, eL cl f) H := hO.kept (hfr qo hqo hqz)
    have hPq := wCons hO hP
    have hDq : va_D (wA ad qo s.heap.size) ((qo, eL cl f) :: cW ad cy (pm_push pm) (rj) (atO (f_findPrint σ id) (f_push σ pm 0) (fun k => sp_st (f_push σ pm 0) (9 + k) 8 ((f_push σ pm 0) (9 + k) 8 + 1)))) := wApart hi hqa (Or.inr rfl) (fun k hk => Or.inl (Or.inl ⟨k, hk, rfl⟩))
    refine W.eq (g2 := F0 m 7 ls [.int (atO (f_findPrint σ id) 0 (fun k => (f_push σ pm 0) (9 + k) 8 + 1)), .int 0, .ref qo]) rfl ?_
    refine lv_i2l (v := Int32.toInt64 (atO (f_findPrint σ id) 0 (fun k => (f_push σ pm 0) (9 + k) 8 + 1))) hx hb dL_doubtToes_7 rfl ?_
    refine va_last hx hb hK hPq hDq hS 0 6 rfl rfl (i := 0) (x := Int32.toInt64 (atO (f_findPrint σ id) 0 (fun k => (f_push σ pm 0) (9 + k) 8 + 1))) vp01 dL_doubtToes_8 (fun H locs hP hD hS => ?_)
    refine lv_goto (tgt := 18) hx hb dL_doubtToes_9 (by decide) ?_
    refine lv_iconst (v := 0) hx hb dL_doubtToes_18 (by decide) ?_
    exact W.iret (v := 0) hx hb hr (fun T9 hT9 _ => ⟨by rw [hthr]; rfl, hS.F hT9, Or.inl ⟨hthr, by rw [hT9]; exact wTail hP, by rw [hT9]; exact wHead hP⟩⟩) hS.2.2 dL_doubtToes_19
set_option maxHeartbeats 4000000 in
set_option maxRecDepth 100000 in
theorem c_L_confirmToes (l : Launch) (D : va_G) (ad : Nat → Nat) (cy : Nat → ClassId) (pm : Nat → Nat) (rj : Option Nat) (σ : Nat → Nat → Int32) (xq : Nat → Nat) (hst : l.stackTraces = false) (sz : Nat) (hi : sp_inj ad 459) (id : Int32) (hpm : ∀ j, j < 8 → 1 ≤ pm j ∧ pm j ≤ 8) (cl cd : ClassId) (qo : Nat) (f : Nat → Int64) (g : Nat → UInt64) : Met l yL_confirmToes wsL_confirmToes ({ frames := 8, cells := 3, slots := 15, locals := 134 } : Room) (wPc xq ad D cy cl cd sz [.ref (ad 429), .int (id), .ref qo] (cW ad cy pm rj σ) qo (eL cl f) (fun _ => True)) (wQ ((f_xPrint σ id).or (atO (f_findPrint σ id) none (fun k => f_xRej (f_objConf σ k)))) [eIOO, eUOE] D qo (eL cl f) (eL cl (vp_updL f (0 : Int32).toNatClampNeg (Int32.toInt64 (atO (f_findPrint σ id) 0 (fun k => (f_push σ pm 0) (9 + k) 8))))) (cW ad cy (pm_push pm) (rj) (atO (f_findPrint σ id) (f_push σ pm 0) (fun k => sp_st (f_push σ pm 0) (9 + k) 8 0))) (sp_B D ad cy (pm) (σ) sz rj) (wA ad qo sz)) 3 15 (wA ad qo sz) := by
  refine va_MetW (cc := cL_confirmToes) (maxL := 4) (ret := (some .int)) (by decide) rfl ?_
  intro p e s m args below meth c s₁ B hml hv
  obtain ⟨rfl, hsz, hP, hO, hK, hE, hNC, hqa, hZ⟩ := hv
  have hx := B.exec
  have hb := B.bytes
  have hr := B.returns
  have hts := atoms_spec (ws := wsL_confirmToes) B.pre
  have hown : s.vm.findClass RL = some m.cls := findClass_of_methodNamed B.named
  have ht := vx_table (x := yL_confirmToes) B (hts _ (List.mem_of_getElem? (i := 0) rfl))
  subst hsz
  have hqo : qo < s.heap.size := hO.lt
  have hqz := wNot hqa hqo
  have hS : va_S (wA ad qo s.heap.size) s.heap s.heap [] := va_S.rf
  have hKg := hK.sub (tys' := tyG cy) [0, 1, 2, 3, 4, 5] rfl
  have hXI : XI [eIOO, eUOE] ((f_xPrint σ id).or (atO (f_findPrint σ id) none (fun k => f_xRej (f_objConf σ k)))) := XI.or (XI.fp List.mem_cons_self) (XI.at (fun k => XI.fj (List.mem_cons_of_mem _ List.mem_cons_self)))
  have hl := lv_entry ([.ref (ad 429), .int (id), .ref qo]) (n := 4) (Nat.le_of_ble_eq_true rfl)
  refine W.eq (lg_entry_eq _ ([.ref (ad 429), .int (id), .ref qo]) _) ?_
  generalize (lg_sl ([.ref (ad 429), .int (id), .ref qo]) ++ List.replicate (4 - (lg_sl ([.ref (ad 429), .int (id), .ref qo])).length) Slot.unset).toArray = ls at hl ⊢
  have hl : lv_has ls 4 [(0, .ref (ad 429)), (1, .int (id)), (2, .ref qo)] := hl
  refine lv_aload_n hx hb dL_confirmToes_0 rfl (lv_at hl 2 rfl) ?_
  refine lv_iconst (v := 0) hx hb dL_confirmToes_1 (by decide) ?_
  refine lv_aload_n hx hb dL_confirmToes_2 rfl (lv_at hl 0 rfl) ?_
  refine lv_iload_n hx hb dL_confirmToes_3 rfl (lv_at hl 1 rfl) ?_
  refine sp_callx (vx_runV (As := [.int (id)]) (rest := [.int 0, .ref qo]) ⟨hx, hb, hml, hown, hts⟩ (c_X9_confirmToes l D ad cy pm rj σ xq hst _ hi id hpm) (cwV 1 hts gL_confirmToes_X9_confirmToes rfl rfl rfl (by decide +kernel) ⟨Nat.le_of_ble_eq_true rfl, Nat.le_of_ble_eq_true rfl⟩) (sp_preVmx hKg hP hE (κ := 429) (by decide) cE_sp rfl) rfl rfl hl.1 rfl (lv_room (Nat.le_of_ble_eq_true rfl)) dL_confirmToes_4 ⟨Nat.le_of_ble_eq_true rfl, Nat.le_of_ble_eq_true rfl⟩) hS (fun q _ h => Or.inl h) (fun q h => Or.inl h) (fun E_x r_x ce q9 H locs hthr hB hle hfr hS hce hcv hcl => ?_) (fun hthr H locs hP hle hfr hS => ?_)
  · have hO : va_at D vwCl (qo, eL cl f) H := hO.kept (hfr qo hqo hqz)
    have hmem := hXI E_x r_x hthr
    rcases List.mem_cons.mp hmem with rfl | hmem
    · refine vx_catch (name := "java/lang/IndexOutOfBoundsException") hown ([]) (⟨0, 9, 12, 20⟩ : ExceptionTableEntry) (tableOf [(0, 9, 15, 15)]) (by rw [ht]; rfl) (fun z hz => absurd hz List.not_mem_nil) (by decide) (by decide) (hts _ (List.mem_of_getElem? (i := 1) rfl)) (va_Nw.use rfl hE.k0) hce hcv hcl ?_
      refine lv_astore_n (lv' := [(3, .ref q9), (0, .ref (ad 429)), (1, .int (id)), (2, .ref qo)]) hx hb dL_confirmToes_12 rfl hl (by decide) rfl (fun ls hl => ?_)
      refine lv_iconst (v := 1) hx hb dL_confirmToes_13 (by decide) ?_
      exact W.iret (v := 1) hx hb hr (fun T9 hT9 _ => ⟨by rw [hthr]; exact congrArg (fun z9 => Outcome.returned (some (Value.int z9))) (kC_1).symm, hS.F hT9, Or.inr ⟨_, r_x, hthr, by rw [hT9]; exact hB, by rw [hT9]; exact hO⟩⟩) hS.2.2 dL_confirmToes_14
    · skip
      obtain rfl := List.mem_singleton.mp hmem
      refine vx_catch (name := "java/lang/UnsupportedOperationException") hown (tableOf [(0, 9, 12, 20)]) (⟨0, 9, 15, 15⟩ : ExceptionTableEntry) (tableOf []) (by rw [ht]; rfl) (fun z hz => ((fun h9 => (List.mem_cons.mp h9).elim (fun e9 => by (subst e9; exact Or.inr ⟨by decide, "java/lang/IndexOutOfBoundsException", hts _ (List.mem_of_getElem? (i := 1) rfl), hNC _ _ (by decide +kernel) (by decide +kernel) (by decide +kernel)⟩)) (fun h9 => absurd h9 List.not_mem_nil)) : z ∈ tableOf [(0, 9, 12, 20)] → covers z 4 = false ∨ (z.catchType ≠ 0 ∧ ∃ nm : String, (Cond.classLink RL z.catchType nm).before _ s = true ∧ va_Nc eUOE nm s)) hz) (by decide) (by decide) (hts _ (List.mem_of_getElem? (i := 2) rfl)) (va_Nw.use rfl hE.k2) hce hcv hcl ?_
      refine lv_astore_n (lv' := [(3, .ref q9), (0, .ref (ad 429)), (1, .int (id)), (2, .ref qo)]) hx hb dL_confirmToes_15 rfl hl (by decide) rfl (fun ls hl => ?_)
      refine lv_iconst (v := 2) hx hb dL_confirmToes_16 (by decide) ?_
      exact W.iret (v := 2) hx hb hr (fun T9 hT9 _ => ⟨by rw [hthr]; exact congrArg (fun z9 => Outcome.returned (some (Value.int z9))) (kC_2 (by decide +kernel)).symm, hS.F hT9, Or.inr ⟨_, r_x, hthr, by rw [hT9]; exact hB, by rw [hT9]; exact hO⟩⟩) hS.2.2 dL_confirmToes_17
  · have hO : va_at D vwCl (qo, eL cl f) H := hO.kept (hfr qo hqo hqz)
    have hPq := wCons hO hP
    have hDq : va_D (wA ad qo s.heap.size) ((qo, eL cl f) :: cW ad cy (pm_push pm) (rj) (atO (f_findPrint σ id) (f_push σ pm 0) (fun k => sp_st (f_push σ pm 0) (9 + k) 8 0))) := wApart hi hqa (Or.inr rfl) (fun k hk => Or.inl (Or.inl ⟨k, hk, rfl⟩))
    refine W.eq (g2 := F0 m 7 ls [.int (atO (f_findPrint σ id) 0 (fun k => (f_push σ pm 0) (9 + k) 8)), .int 0, .ref qo]) rfl ?_
    refine lv_i2l (v := Int32.toInt64 (atO (f_findPrint σ id) 0 (fun k => (f_push σ pm 0) (9 + k) 8))) hx hb dL_confirmToes_7 rfl ?_
    refine va_last hx hb hK hPq hDq hS 0 6 rfl rfl (i := 0) (x := Int32.toInt64 (atO (f_findPrint σ id) 0 (fun k => (f_push σ pm 0) (9 + k) 8))) vp01 dL_confirmToes_8 (fun H locs hP hD hS => ?_)
    refine lv_goto (tgt := 18) hx hb dL_confirmToes_9 (by decide) ?_
    refine lv_iconst (v := 0) hx hb dL_confirmToes_18 (by decide) ?_
    exact W.iret (v := 0) hx hb hr (fun T9 hT9 _ => ⟨by rw [hthr]; rfl, hS.F hT9, Or.inl ⟨hthr, by rw [hT9]; exact wTail hP, by rw [hT9]; exact wHead hP⟩⟩) hS.2.2 dL_confirmToes_19
set_option maxHeartbeats 4000000 in
set_option maxRecDepth 100000 in
theorem c_L_setTide (l : Launch) (D : va_G) (ad : Nat → Nat) (cy : Nat → ClassId) (pm : Nat → Nat) (rj : Option Nat) (σ : Nat → Nat → Int32) (xq : Nat → Nat) (hst : l.stackTraces = false) (sz : Nat) (hi : sp_inj ad 459) (v : Int32) (hpm : ∀ j, j < 8 → 1 ≤ pm j ∧ pm j ≤ 8) (cl cd : ClassId) (qo : Nat) (f : Nat → Int64) (g : Nat → UInt64) : Met l yL_setTide wsL_setTide ({ frames := 8, cells := 3, slots := 15, locals := 132 } : Room) (wPc xq ad D cy cl cd sz [.ref (ad 429), .int (v), .ref qo] (cW ad cy pm rj σ) qo (eL cl f) (fun _ => True)) (wQ ((f_xLevel v).or (f_xRej (f_objTide σ v))) [eIAE, eUOE] D qo (eL cl f) (eL cl (vp_updL f (0 : Int32).toNatClampNeg (Int32.toInt64 (f_below (f_push σ pm 0) v)))) (cW ad cy (pm_push pm) (rj) (f_tide (f_push σ pm 0) v)) (sp_B D ad cy (pm) (σ) sz rj) (wA ad qo sz)) 3 15 (wA ad qo sz) := by
  refine va_MetW (cc := cL_setTide) (maxL := 4) (ret := (some .int)) (by decide) rfl ?_
  intro p e s m args below meth c s₁ B hml hv
  obtain ⟨rfl, hsz, hP, hO, hK, hE, hNC, hqa, hZ⟩ := hv
  have hx := B.exec
  have hb := B.bytes
  have hr := B.returns
  have hts := atoms_spec (ws := wsL_setTide) B.pre
  have hown : s.vm.findClass RL = some m.cls := findClass_of_methodNamed B.named
  have ht := vx_table (x := yL_setTide) B (hts _ (List.mem_of_getElem? (i := 0) rfl))
  subst hsz
  have hqo : qo < s.heap.size := hO.lt
  have hqz := wNot hqa hqo
  have hS : va_S (wA ad qo s.heap.size) s.heap s.heap [] := va_S.rf
  have hKg := hK.sub (tys' := tyG cy) [0, 1, 2, 3, 4, 5] rfl
  have hXI : XI [eIAE, eUOE] ((f_xLevel v).or (f_xRej (f_objTide σ v))) := XI.or (XI.fl List.mem_cons_self) (XI.fj (List.mem_cons_of_mem _ List.mem_cons_self))
  have hl := lv_entry ([.ref (ad 429), .int (v), .ref qo]) (n := 4) (Nat.le_of_ble_eq_true rfl)
  refine W.eq (lg_entry_eq _ ([.ref (ad 429), .int (v), .ref qo]) _) ?_
  generalize (lg_sl ([.ref (ad 429), .int (v), .ref qo]) ++ List.replicate (4 - (lg_sl ([.ref (ad 429), .int (v), .ref qo])).length) Slot.unset).toArray = ls at hl ⊢
  have hl : lv_has ls 4 [(0, .ref (ad 429)), (1, .int (v)), (2, .ref qo)] := hl
  refine lv_aload_n hx hb dL_setTide_0 rfl (lv_at hl 2 rfl) ?_
  refine lv_iconst (v := 0) hx hb dL_setTide_1 (by decide) ?_
  refine lv_aload_n hx hb dL_setTide_2 rfl (lv_at hl 0 rfl) ?_
  refine lv_iload_n hx hb dL_setTide_3 rfl (lv_at hl 1 rfl) ?_
  refine sp_callx (vx_runV (As := [.int (v)]) (rest := [.int 0, .ref qo]) ⟨hx, hb, hml, hown, hts⟩ (c_X9_setTide l D ad cy pm rj σ xq hst _ hi v hpm) (cwV 1 hts gL_setTide_X9_setTide rfl rfl rfl (by decide +kernel) ⟨Nat.le_of_ble_eq_true rfl, Nat.le_of_ble_eq_true rfl⟩) (sp_preVmx hKg hP hE (κ := 429) (by decide) cE_sp rfl) rfl rfl hl.1 rfl (lv_room (Nat.le_of_ble_eq_true rfl)) dL_setTide_4 ⟨Nat.le_of_ble_eq_true rfl, Nat.le_of_ble_eq_true rfl⟩) hS (fun q _ h => Or.inl h) (fun q h => Or.inl h) (fun E_x r_x ce q9 H locs hthr hB hle hfr hS hce hcv hcl => ?_) (fun hthr H locs hP hle hfr hS => ?_)
  · have hO : va_at D vwCl (qo, eL cl f) H := hO.kept (hfr qo hqo hqz)
    have hmem := hXI E_x r_x hthr
    rcases List.mem_cons.mp hmem with rfl | hmem
    · refine vx_catch (name := "java/lang/IllegalArgumentException") hown ([]) (⟨0, 9, 12, 13⟩ : ExceptionTableEntry) (tableOf [(0, 9, 15, 15)]) (by rw [ht]; rfl) (fun z hz => absurd hz List.not_mem_nil) (by decide) (by decide) (hts _ (List.mem_of_getElem? (i := 1) rfl)) (va_Nw.use rfl hE.k1) hce hcv hcl ?_
      refine lv_astore_n (lv' := [(3, .ref q9), (0, .ref (ad 429)), (1, .int (v)), (2, .ref qo)]) hx hb dL_setTide_12 rfl hl (by decide) rfl (fun ls hl => ?_)
      refine lv_iconst (v := 1) hx hb dL_setTide_13 (by decide) ?_
      exact W.iret (v := 1) hx hb hr (fun T9 hT9 _ => ⟨by rw [hthr]; exact congrArg (fun z9 => Outcome.returned (some (Value.int z9))) (kC_1).symm, hS.F hT9, Or.inr ⟨_, r_x, hthr, by rw [hT9]; exact hB, by rw [hT9]; exact hO⟩⟩) hS.2.2 dL_setTide_14
    · skip
      obtain rfl := List.mem_singleton.mp hmem
      refine vx_catch (name := "java/lang/UnsupportedOperationException") hown (tableOf [(0, 9, 12, 13)]) (⟨0, 9, 15, 15⟩ : ExceptionTableEntry) (tableOf []) (by rw [ht]; rfl) (fun z hz => ((fun h9 => (List.mem_cons.mp h9).elim (fun e9 => by (subst e9; exact Or.inr ⟨by decide, "java/lang/IllegalArgumentException", hts _ (List.mem_of_getElem? (i := 1) rfl), hNC _ _ (by decide +kernel) (by decide +kernel) (by decide +kernel)⟩)) (fun h9 => absurd h9 List.not_mem_nil)) : z ∈ tableOf [(0, 9, 12, 13)] → covers z 4 = false ∨ (z.catchType ≠ 0 ∧ ∃ nm : String, (Cond.classLink RL z.catchType nm).before _ s = true ∧ va_Nc eUOE nm s)) hz) (by decide) (by decide) (hts _ (List.mem_of_getElem? (i := 2) rfl)) (va_Nw.use rfl hE.k2) hce hcv hcl ?_
      refine lv_astore_n (lv' := [(3, .ref q9), (0, .ref (ad 429)), (1, .int (v)), (2, .ref qo)]) hx hb dL_setTide_15 rfl hl (by decide) rfl (fun ls hl => ?_)
      refine lv_iconst (v := 2) hx hb dL_setTide_16 (by decide) ?_
      exact W.iret (v := 2) hx hb hr (fun T9 hT9 _ => ⟨by rw [hthr]; exact congrArg (fun z9 => Outcome.returned (some (Value.int z9))) (kC_2 (by decide +kernel)).symm, hS.F hT9, Or.inr ⟨_, r_x, hthr, by rw [hT9]; exact hB, by rw [hT9]; exact hO⟩⟩) hS.2.2 dL_setTide_17
  · have hO : va_at D vwCl (qo, eL cl f) H := hO.kept (hfr qo hqo hqz)
    have hPq := wCons hO hP
    have hDq : va_D (wA ad qo s.heap.size) ((qo, eL cl f) :: cW ad cy (pm_push pm) (rj) (f_tide (f_push σ pm 0) v)) := wApart hi hqa (Or.inr rfl) (fun k hk => Or.inl (Or.inl ⟨k, hk, rfl⟩))
    refine W.eq (g2 := F0 m 7 ls [.int (f_below (f_push σ pm 0) v), .int 0, .ref qo]) rfl ?_
    refine lv_i2l (v := Int32.toInt64 (f_below (f_push σ pm 0) v)) hx hb dL_setTide_7 rfl ?_
    refine va_last hx hb hK hPq hDq hS 0 6 rfl rfl (i := 0) (x := Int32.toInt64 (f_below (f_push σ pm 0) v)) vp01 dL_setTide_8 (fun H locs hP hD hS => ?_)
    refine lv_goto (tgt := 18) hx hb dL_setTide_9 (by decide) ?_
    refine lv_iconst (v := 0) hx hb dL_setTide_18 (by decide) ?_
    exact W.iret (v := 0) hx hb hr (fun T9 hT9 _ => ⟨by rw [hthr]; rfl, hS.F hT9, Or.inl ⟨hthr, by rw [hT9]; exact wTail hP, by rw [hT9]; exact wHead hP⟩⟩) hS.2.2 dL_setTide_19
