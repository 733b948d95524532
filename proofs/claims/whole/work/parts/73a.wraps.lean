set_option maxHeartbeats 4000000 in
set_option maxRecDepth 100000 in
theorem c_L_addTrack (l : Launch) (D : va_G) (ad : Nat → Nat) (cy : Nat → ClassId) (pm : Nat → Nat) (rj : Option Nat) (σ : Nat → Nat → Int32) (xq : Nat → Nat) (hst : l.stackTraces = false) (sz : Nat) (hi : sp_inj ad 459) (z : Int32) (hpm : ∀ j, j < 8 → 1 ≤ pm j ∧ pm j ≤ 8) (cl cd : ClassId) (qo : Nat) (f : Nat → Int64) (g : Nat → UInt64) : Met l yL_addTrack wsL_addTrack ({ frames := 8, cells := 2, slots := 9, locals := 132 } : Room) (wPc xq ad D cy cl cd sz [.ref (ad 429), .int (z), .ref qo] (cW ad cy pm rj σ) qo (eL cl f) (fun _ => True)) (wQ ((f_xIn (f_in 1 9 z)).or (f_xRej (f_objTrack σ))) [eIAE, eUOE] D qo (eL cl f) (eL cl (vp_updL f (0 : Int32).toNatClampNeg (Int32.toInt64 (f_putTv (f_push σ pm 0))))) (cW ad cy (pm_push pm) (rj) (f_putT (f_push σ pm 0) z)) (sp_B D ad cy (pm) (σ) sz rj) (wA ad qo sz)) 2 9 (wA ad qo sz) := by
  refine va_MetW (cc := cL_addTrack) (maxL := 4) (ret := (some .int)) (by decide) rfl ?_
  intro p e s m args below meth c s₁ B hml hv
  obtain ⟨rfl, hsz, hP, hO, hK, hE, hNC, hqa, hZ⟩ := hv
  have hx := B.exec
  have hb := B.bytes
  have hr := B.returns
  have hts := atoms_spec (ws := wsL_addTrack) B.pre
  have hown : s.vm.findClass RL = some m.cls := findClass_of_methodNamed B.named
  have ht := vx_table B (hts _ (List.mem_of_getElem? (i := 0) rfl))
  subst hsz
  have hqo : qo < s.heap.size := hO.lt
  have hqz := wNot hqa hqo
  have hS : va_S (wA ad qo s.heap.size) s.heap s.heap [] := va_S.rf
  have hKg := hK.sub (tys' := tyG cy) [0, 1, 2, 3, 4, 5] rfl
  have hXI : XI [eIAE, eUOE] ((f_xIn (f_in 1 9 z)).or (f_xRej (f_objTrack σ))) := by
    repeat' (first | exact XI.no | exact XI.fi (by decide +kernel) | exact XI.fs (by decide +kernel) | exact XI.fo (by decide +kernel) | exact XI.fj (by decide +kernel) | exact XI.ff (by decide +kernel) | exact XI.ft (by decide +kernel) | exact XI.fp (by decide +kernel) | exact XI.fc (by decide +kernel) | exact XI.fr (by decide +kernel) | exact XI.fl (by decide +kernel) | exact XI.fa (by decide +kernel) | exact XI.fk (by decide +kernel) | exact XI.fq (by decide +kernel) | exact XI.exe (by decide +kernel) (by decide +kernel) (by decide +kernel) | exact XI.of (by decide +kernel) | refine XI.or ?_ ?_ | refine XI.at (fun _ => ?_) | refine XI.ite ?_ ?_)
  have hl := lv_entry ([.ref (ad 429), .int (z), .ref qo]) (n := 4) (Nat.le_of_ble_eq_true rfl)
  refine W.eq (lg_entry_eq _ ([.ref (ad 429), .int (z), .ref qo]) _) ?_
  generalize (lg_sl ([.ref (ad 429), .int (z), .ref qo]) ++ List.replicate (4 - (lg_sl ([.ref (ad 429), .int (z), .ref qo])).length) Slot.unset).toArray = ls at hl ⊢
  have hl : lv_has ls 4 [(0, .ref (ad 429)), (1, .int (z)), (2, .ref qo)] := hl
  refine lv_aload_n hx hb dL_addTrack_0 rfl (lv_at hl 2 rfl) ?_
  refine lv_iconst (v := 0) hx hb dL_addTrack_1 (by decide) ?_
  refine lv_aload_n hx hb dL_addTrack_2 rfl (lv_at hl 0 rfl) ?_
  refine lv_iload_n hx hb dL_addTrack_3 rfl (lv_at hl 1 rfl) ?_
  refine sp_callx (vx_runV (As := [.int (z)]) (rest := [.int 0, .ref qo]) ⟨hx, hb, hml, hown, hts⟩ (c_X9_addTrack l D ad cy pm rj σ xq hst _ hi z hpm) (cwV 1 hts gL_addTrack_X9_addTrack rfl rfl rfl (by decide +kernel) ⟨Nat.le_of_ble_eq_true rfl, Nat.le_of_ble_eq_true rfl⟩) (sp_preVmx hKg hP hE (κ := 429) (by decide) cE_sp rfl) rfl rfl hl.1 rfl (lv_room (Nat.le_of_ble_eq_true rfl)) dL_addTrack_4 ⟨Nat.le_of_ble_eq_true rfl, Nat.le_of_ble_eq_true rfl⟩) hS (fun q _ h => Or.inl h) (fun q h => Or.inl h) (fun E_x r_x ce q9 H locs hthr hB hle hfr hS hce hcv hcl => ?_) (fun hthr H locs hP hle hfr hS => ?_)
  · have hO : va_at D vwCl (qo, eL cl f) H := hO.kept (hfr qo hqo hqz)
    have hmem := hXI E_x r_x hthr
    rcases List.mem_cons.mp hmem with rfl | hmem
    · refine vx_catch (name := "java/lang/IllegalArgumentException") hown ([]) (⟨0, 9, 12, 13⟩ : ExceptionTableEntry) (tableOf [(0, 9, 15, 15)]) (by rw [ht]; rfl) (fun z hz => absurd hz List.not_mem_nil) (by decide) (by decide) (hts _ (List.mem_of_getElem? (i := 1) rfl)) (va_Nw.use rfl hE.k1) hce hcv hcl ?_
      refine lv_astore_n (lv' := [(3, .ref q9), (0, .ref (ad 429)), (1, .int (z)), (2, .ref qo)]) hx hb dL_addTrack_12 rfl hl (by decide) rfl (fun ls hl => ?_)
      refine lv_iconst (v := 1) hx hb dL_addTrack_13 (by decide) ?_
      exact W.iret (v := 1) hx hb hr (fun T9 hT9 _ => ⟨by rw [hthr]; exact congrArg (fun z9 => Outcome.returned (some (Value.int z9))) (kC_1).symm, hS.F hT9, Or.inr ⟨_, r_x, hthr, by rw [hT9]; exact hB, by rw [hT9]; exact hO⟩⟩) hS.2.2 dL_addTrack_14
    · skip
      obtain rfl := List.mem_singleton.mp hmem
      refine vx_catch (name := "java/lang/UnsupportedOperationException") hown (tableOf [(0, 9, 12, 13)]) (⟨0, 9, 15, 15⟩ : ExceptionTableEntry) (tableOf []) (by rw [ht]; rfl) (fun z hz => ((fun h9 => (List.mem_cons.mp h9).elim (fun e9 => by (subst e9; exact Or.inr ⟨by decide, "java/lang/IllegalArgumentException", hts _ (List.mem_of_getElem? (i := 1) rfl), hNC _ _ (by decide +kernel) (by decide +kernel) (by decide +kernel)⟩)) (fun h9 => absurd h9 List.not_mem_nil)) : z ∈ tableOf [(0, 9, 12, 13)] → covers z 4 = false ∨ (z.catchType ≠ 0 ∧ ∃ nm : String, (Cond.classLink RL z.catchType nm).before _ s = true ∧ va_Nc eUOE nm s)) hz) (by decide) (by decide) (hts _ (List.mem_of_getElem? (i := 2) rfl)) (va_Nw.use rfl hE.k2) hce hcv hcl ?_
      refine lv_astore_n (lv' := [(3, .ref q9), (0, .ref (ad 429)), (1, .int (z)), (2, .ref qo)]) hx hb dL_addTrack_15 rfl hl (by decide) rfl (fun ls hl => ?_)
      refine lv_iconst (v := 2) hx hb dL_addTrack_16 (by decide) ?_
      exact W.iret (v := 2) hx hb hr (fun T9 hT9 _ => ⟨by rw [hthr]; exact congrArg (fun z9 => Outcome.returned (some (Value.int z9))) (kC_2 (by decide +kernel)).symm, hS.F hT9, Or.inr ⟨_, r_x, hthr, by rw [hT9]; exact hB, by rw [hT9]; exact hO⟩⟩) hS.2.2 dL_addTrack_17
  · have hO : va_at D vwCl (qo, eL cl f) H := hO.kept (hfr qo hqo hqz)
    have hPq := wCons hO hP
    have hDq : va_D (wA ad qo s.heap.size) ((qo, eL cl f) :: cW ad cy (pm_push pm) (rj) (f_putT (f_push σ pm 0) z)) := wApart hi hqa (Or.inr rfl) (fun k hk => Or.inl (Or.inl ⟨k, hk, rfl⟩))
    refine W.eq (g2 := F0 m 7 ls [.int (f_putTv (f_push σ pm 0)), .int 0, .ref qo]) rfl ?_
    refine lv_i2l (v := Int32.toInt64 (f_putTv (f_push σ pm 0))) hx hb dL_addTrack_7 rfl ?_
    refine va_last hx hb hK hPq hDq hS 0 6 rfl rfl (i := 0) (x := Int32.toInt64 (f_putTv (f_push σ pm 0))) (by decide) dL_addTrack_8 (fun H locs hP hD hS => ?_)
    refine lv_goto (tgt := 18) hx hb dL_addTrack_9 (by decide) ?_
    refine lv_iconst (v := 0) hx hb dL_addTrack_18 (by decide) ?_
    exact W.iret (v := 0) hx hb hr (fun T9 hT9 _ => ⟨by rw [hthr]; rfl, hS.F hT9, Or.inl ⟨hthr, by rw [hT9]; exact wTail hP, by rw [hT9]; exact wHead hP⟩⟩) hS.2.2 dL_addTrack_19
set_option maxHeartbeats 4000000 in
set_option maxRecDepth 100000 in
theorem c_L_isLeft (l : Launch) (D : va_G) (ad : Nat → Nat) (cy : Nat → ClassId) (pm : Nat → Nat) (rj : Option Nat) (σ : Nat → Nat → Int32) (xq : Nat → Nat) (hst : l.stackTraces = false) (sz : Nat) (hi : sp_inj ad 459) (id : Int32) (cl cd : ClassId) (qo : Nat) (f : Nat → Int64) (g : Nat → UInt64) : Met l yL_isLeft wsL_isLeft ({ frames := 8, cells := 1, slots := 6, locals := 133 } : Room) (wPc xq ad D cy cl cd sz [.ref (ad 429), .int (id), .ref qo] (cW ad cy pm rj σ) qo (eL cl f) (fun _ => True)) (wQ (f_xPrint σ id) [eIOO] D qo (eL cl f) (eL cl (vp_updL f (0 : Int32).toNatClampNeg (Int32.toInt64 (atO (f_findPrint σ id) 0 (fun k => bz (σ (9 + k) 6)))))) (cW ad cy (pm) (rj) (σ)) (sp_B D ad cy (pm) (σ) sz rj) (wA ad qo sz)) 1 6 (wA ad qo sz) := by
  refine va_MetW (cc := cL_isLeft) (maxL := 4) (ret := (some .int)) (by decide) rfl ?_
  intro p e s m args below meth c s₁ B hml hv
  obtain ⟨rfl, hsz, hP, hO, hK, hE, hNC, hqa, hZ⟩ := hv
  have hx := B.exec
  have hb := B.bytes
  have hr := B.returns
  have hts := atoms_spec (ws := wsL_isLeft) B.pre
  have hown : s.vm.findClass RL = some m.cls := findClass_of_methodNamed B.named
  have ht := vx_table B (hts _ (List.mem_of_getElem? (i := 0) rfl))
  subst hsz
  have hqo : qo < s.heap.size := hO.lt
  have hqz := wNot hqa hqo
  have hS : va_S (wA ad qo s.heap.size) s.heap s.heap [] := va_S.rf
  have hKg := hK.sub (tys' := tyG cy) [0, 1, 2, 3, 4, 5] rfl
  have hXI : XI [eIOO] (f_xPrint σ id) := by
    repeat' (first | exact XI.no | exact XI.fi (by decide +kernel) | exact XI.fs (by decide +kernel) | exact XI.fo (by decide +kernel) | exact XI.fj (by decide +kernel) | exact XI.ff (by decide +kernel) | exact XI.ft (by decide +kernel) | exact XI.fp (by decide +kernel) | exact XI.fc (by decide +kernel) | exact XI.fr (by decide +kernel) | exact XI.fl (by decide +kernel) | exact XI.fa (by decide +kernel) | exact XI.fk (by decide +kernel) | exact XI.fq (by decide +kernel) | exact XI.exe (by decide +kernel) (by decide +kernel) (by decide +kernel) | exact XI.of (by decide +kernel) | refine XI.or ?_ ?_ | refine XI.at (fun _ => ?_) | refine XI.ite ?_ ?_)
  have hl := lv_entry ([.ref (ad 429), .int (id), .ref qo]) (n := 4) (Nat.le_of_ble_eq_true rfl)
  refine W.eq (lg_entry_eq _ ([.ref (ad 429), .int (id), .ref qo]) _) ?_
  generalize (lg_sl ([.ref (ad 429), .int (id), .ref qo]) ++ List.replicate (4 - (lg_sl ([.ref (ad 429), .int (id), .ref qo])).length) Slot.unset).toArray = ls at hl ⊢
  have hl : lv_has ls 4 [(0, .ref (ad 429)), (1, .int (id)), (2, .ref qo)] := hl
  refine lv_aload_n hx hb dL_isLeft_0 rfl (lv_at hl 2 rfl) ?_
  refine lv_iconst (v := 0) hx hb dL_isLeft_1 (by decide) ?_
  refine lv_aload_n hx hb dL_isLeft_2 rfl (lv_at hl 0 rfl) ?_
  refine lv_iload_n hx hb dL_isLeft_3 rfl (lv_at hl 1 rfl) ?_
  refine sp_callx (vx_runV (As := [.int (id)]) (rest := [.int 0, .ref qo]) ⟨hx, hb, hml, hown, hts⟩ (c_X9_isLeft l D ad cy pm rj σ xq hst _ hi id) (cwV 1 hts gL_isLeft_X9_isLeft rfl rfl rfl (by decide +kernel) ⟨Nat.le_of_ble_eq_true rfl, Nat.le_of_ble_eq_true rfl⟩) (sp_preVmx hKg hP hE (κ := 429) (by decide) cE_sp rfl) rfl rfl hl.1 rfl (lv_room (Nat.le_of_ble_eq_true rfl)) dL_isLeft_4 ⟨Nat.le_of_ble_eq_true rfl, Nat.le_of_ble_eq_true rfl⟩) hS (fun q _ h => Or.inl h) (fun q h => Or.inl h) (fun E_x r_x ce q9 H locs hthr hB hle hfr hS hce hcv hcl => ?_) (fun hthr H locs hP hle hfr hS => ?_)
  · have hO : va_at D vwCl (qo, eL cl f) H := hO.kept (hfr qo hqo hqz)
    have hmem := hXI E_x r_x hthr
    obtain rfl := List.mem_singleton.mp hmem
    refine vx_catch (name := "java/lang/IndexOutOfBoundsException") hown ([]) (⟨0, 16, 19, 20⟩ : ExceptionTableEntry) (tableOf []) (by rw [ht]; rfl) (fun z hz => absurd hz List.not_mem_nil) (by decide) (by decide) (hts _ (List.mem_of_getElem? (i := 1) rfl)) (va_Nw.use rfl hE.k0) hce hcv hcl ?_
    refine lv_astore_n (lv' := [(3, .ref q9), (0, .ref (ad 429)), (1, .int (id)), (2, .ref qo)]) hx hb dL_isLeft_19 rfl hl (by decide) rfl (fun ls hl => ?_)
    refine lv_iconst (v := 1) hx hb dL_isLeft_20 (by decide) ?_
    exact W.iret (v := 1) hx hb hr (fun T9 hT9 _ => ⟨by rw [hthr]; exact congrArg (fun z9 => Outcome.returned (some (Value.int z9))) (kC_1).symm, hS.F hT9, Or.inr ⟨_, r_x, hthr, by rw [hT9]; exact hB, by rw [hT9]; exact hO⟩⟩) hS.2.2 dL_isLeft_21
  · have hO : va_at D vwCl (qo, eL cl f) H := hO.kept (hfr qo hqo hqz)
    have hPq := wCons hO hP
    have hDq : va_D (wA ad qo s.heap.size) ((qo, eL cl f) :: cW ad cy (pm) (rj) (σ)) := wApart hi hqa (Or.inr rfl) (fun k hk => Or.inl (Or.inl ⟨k, hk, rfl⟩))
    refine W.eq (g2 := F0 m 7 ls [.int (atO (f_findPrint σ id) 0 (fun k => bz (σ (9 + k) 6))), .int 0, .ref qo]) rfl ?_
    refine lv_if_eq (tgt := 14) hx hb dL_isLeft_7 (by decide) (fun c_1 => ?_) (fun c_1 => ?_)
    · refine lv_lconst (v := 0) hx hb dL_isLeft_14 rfl ?_
      refine W.eq (g2 := F0 m 15 ls [.long (Int32.toInt64 (atO (f_findPrint σ id) 0 (fun k => bz (σ (9 + k) 6)))), .int 0, .ref qo]) (by rw [c_1]; rfl) ?_
      refine va_last hx hb hK hPq hDq hS 0 6 rfl rfl (i := 0) (x := Int32.toInt64 (atO (f_findPrint σ id) 0 (fun k => bz (σ (9 + k) 6)))) (by decide) dL_isLeft_15 (fun H locs hP hD hS => ?_)
      refine lv_goto (tgt := 22) hx hb dL_isLeft_16 (by decide) ?_
      refine lv_iconst (v := 0) hx hb dL_isLeft_22 (by decide) ?_
      exact W.iret (v := 0) hx hb hr (fun T9 hT9 _ => ⟨by rw [hthr]; rfl, hS.F hT9, Or.inl ⟨hthr, by rw [hT9]; exact wTail hP, by rw [hT9]; exact wHead hP⟩⟩) hS.2.2 dL_isLeft_23
    · refine lv_lconst (v := 1) hx hb dL_isLeft_10 rfl ?_
      refine lv_goto (tgt := 15) hx hb dL_isLeft_11 (by decide) ?_
      refine W.eq (g2 := F0 m 15 ls [.long (Int32.toInt64 (atO (f_findPrint σ id) 0 (fun k => bz (σ (9 + k) 6)))), .int 0, .ref qo]) (by rw [b01a c_1]; rfl) ?_
      refine va_last hx hb hK hPq hDq hS 0 6 rfl rfl (i := 0) (x := Int32.toInt64 (atO (f_findPrint σ id) 0 (fun k => bz (σ (9 + k) 6)))) (by decide) dL_isLeft_15 (fun H locs hP hD hS => ?_)
      refine lv_goto (tgt := 22) hx hb dL_isLeft_16 (by decide) ?_
      refine lv_iconst (v := 0) hx hb dL_isLeft_22 (by decide) ?_
      exact W.iret (v := 0) hx hb hr (fun T9 hT9 _ => ⟨by rw [hthr]; rfl, hS.F hT9, Or.inl ⟨hthr, by rw [hT9]; exact wTail hP, by rw [hT9]; exact wHead hP⟩⟩) hS.2.2 dL_isLeft_23
set_option maxHeartbeats 4000000 in
set_option maxRecDepth 100000 in
theorem c_L_confidence (l : Launch) (D : va_G) (ad : Nat → Nat) (cy : Nat → ClassId) (pm : Nat → Nat) (rj : Option Nat) (σ : Nat → Nat → Int32) (xq : Nat → Nat) (hst : l.stackTraces = false) (sz : Nat) (hi : sp_inj ad 459) (id : Int32) (hd : ∀ k, f_findPrint σ id = some k → σ (9 + k) 8 = 0 ∨ σ (9 + k) 8 = 1 ∨ σ (9 + k) 8 = 2 ∨ σ (9 + k) 8 = 3) (cl cd : ClassId) (qo : Nat) (f : Nat → Int64) (g : Nat → UInt64) : Met l yL_confidence wsL_confidence ({ frames := 8, cells := 1, slots := 6, locals := 133 } : Room) (wPc xq ad D cy cl cd sz [.ref (ad 429), .int (id), .ref qo] (cW ad cy pm rj σ) qo (eD cd g) (fun _ => True)) (wQ (f_xPrint σ id) [eIOO] D qo (eD cd g) (eD cd (vf_upd g (0 : Int32).toNatClampNeg (atO (f_findPrint σ id) 0 (fun k => FP.ddiv FP.dconst1 (FP.dadd FP.dconst1 (FP.i2d (σ (9 + k) 8))))))) (cW ad cy (pm) (rj) (σ)) (sp_B D ad cy (pm) (σ) sz rj) (wA ad qo sz)) 1 6 (wA ad qo sz) := by
  refine va_MetW (cc := cL_confidence) (maxL := 4) (ret := (some .int)) (by decide) rfl ?_
  intro p e s m args below meth c s₁ B hml hv
  obtain ⟨rfl, hsz, hP, hO, hK, hE, hNC, hqa, hZ⟩ := hv
  have hx := B.exec
  have hb := B.bytes
  have hr := B.returns
  have hts := atoms_spec (ws := wsL_confidence) B.pre
  have hown : s.vm.findClass RL = some m.cls := findClass_of_methodNamed B.named
  have ht := vx_table B (hts _ (List.mem_of_getElem? (i := 0) rfl))
  subst hsz
  have hqo : qo < s.heap.size := hO.lt
  have hqz := wNot hqa hqo
  have hS : va_S (wA ad qo s.heap.size) s.heap s.heap [] := va_S.rf
  have hKg := hK.sub (tys' := tyG cy) [0, 1, 2, 3, 4, 5] rfl
  have hXI : XI [eIOO] (f_xPrint σ id) := by
    repeat' (first | exact XI.no | exact XI.fi (by decide +kernel) | exact XI.fs (by decide +kernel) | exact XI.fo (by decide +kernel) | exact XI.fj (by decide +kernel) | exact XI.ff (by decide +kernel) | exact XI.ft (by decide +kernel) | exact XI.fp (by decide +kernel) | exact XI.fc (by decide +kernel) | exact XI.fr (by decide +kernel) | exact XI.fl (by decide +kernel) | exact XI.fa (by decide +kernel) | exact XI.fk (by decide +kernel) | exact XI.fq (by decide +kernel) | exact XI.exe (by decide +kernel) (by decide +kernel) (by decide +kernel) | exact XI.of (by decide +kernel) | refine XI.or ?_ ?_ | refine XI.at (fun _ => ?_) | refine XI.ite ?_ ?_)
  have hl := lv_entry ([.ref (ad 429), .int (id), .ref qo]) (n := 4) (Nat.le_of_ble_eq_true rfl)
  refine W.eq (lg_entry_eq _ ([.ref (ad 429), .int (id), .ref qo]) _) ?_
  generalize (lg_sl ([.ref (ad 429), .int (id), .ref qo]) ++ List.replicate (4 - (lg_sl ([.ref (ad 429), .int (id), .ref qo])).length) Slot.unset).toArray = ls at hl ⊢
  have hl : lv_has ls 4 [(0, .ref (ad 429)), (1, .int (id)), (2, .ref qo)] := hl
  refine lv_aload_n hx hb dL_confidence_0 rfl (lv_at hl 2 rfl) ?_
  refine lv_iconst (v := 0) hx hb dL_confidence_1 (by decide) ?_
  refine lv_aload_n hx hb dL_confidence_2 rfl (lv_at hl 0 rfl) ?_
  refine lv_iload_n hx hb dL_confidence_3 rfl (lv_at hl 1 rfl) ?_
  refine sp_callx (vx_runV (As := [.int (id)]) (rest := [.int 0, .ref qo]) ⟨hx, hb, hml, hown, hts⟩ (c_X9_confidence l D ad cy pm rj σ xq hst _ hi id hd) (cwV 1 hts gL_confidence_X9_confidence rfl rfl rfl (by decide +kernel) ⟨Nat.le_of_ble_eq_true rfl, Nat.le_of_ble_eq_true rfl⟩) (sp_preVmx hKg hP hE (κ := 429) (by decide) cE_sp rfl) rfl rfl hl.1 rfl (lv_room (Nat.le_of_ble_eq_true rfl)) dL_confidence_4 ⟨Nat.le_of_ble_eq_true rfl, Nat.le_of_ble_eq_true rfl⟩) hS (fun q _ h => Or.inl h) (fun q h => Or.inl h) (fun E_x r_x ce q9 H locs hthr hB hle hfr hS hce hcv hcl => ?_) (fun hthr H locs hP hle hfr hS => ?_)
  · have hO : va_at D vwCl (qo, eD cd g) H := hO.kept (hfr qo hqo hqz)
    have hmem := hXI E_x r_x hthr
    obtain rfl := List.mem_singleton.mp hmem
    refine vx_catch (name := "java/lang/IndexOutOfBoundsException") hown ([]) (⟨0, 8, 11, 20⟩ : ExceptionTableEntry) (tableOf []) (by rw [ht]; rfl) (fun z hz => absurd hz List.not_mem_nil) (by decide) (by decide) (hts _ (List.mem_of_getElem? (i := 1) rfl)) (va_Nw.use rfl hE.k0) hce hcv hcl ?_
    refine lv_astore_n (lv' := [(3, .ref q9), (0, .ref (ad 429)), (1, .int (id)), (2, .ref qo)]) hx hb dL_confidence_11 rfl hl (by decide) rfl (fun ls hl => ?_)
    refine lv_iconst (v := 1) hx hb dL_confidence_12 (by decide) ?_
    exact W.iret (v := 1) hx hb hr (fun T9 hT9 _ => ⟨by rw [hthr]; exact congrArg (fun z9 => Outcome.returned (some (Value.int z9))) (kC_1).symm, hS.F hT9, Or.inr ⟨_, r_x, hthr, by rw [hT9]; exact hB, by rw [hT9]; exact hO⟩⟩) hS.2.2 dL_confidence_13
  · have hO : va_at D vwCl (qo, eD cd g) H := hO.kept (hfr qo hqo hqz)
    have hPq := wCons hO hP
    have hDq : va_D (wA ad qo s.heap.size) ((qo, eD cd g) :: cW ad cy (pm) (rj) (σ)) := wApart hi hqa (Or.inr rfl) (fun k hk => Or.inl (Or.inl ⟨k, hk, rfl⟩))
    refine W.eq (g2 := F0 m 7 ls [.double (atO (f_findPrint σ id) 0 (fun k => FP.ddiv FP.dconst1 (FP.dadd FP.dconst1 (FP.i2d (σ (9 + k) 8))))), .int 0, .ref qo]) rfl ?_
    refine va_dast hx hb hK hPq hDq hS 0 7 rfl rfl (i := 0) (x := atO (f_findPrint σ id) 0 (fun k => FP.ddiv FP.dconst1 (FP.dadd FP.dconst1 (FP.i2d (σ (9 + k) 8))))) (by decide) dL_confidence_7 (fun H locs hP hD hS => ?_)
    refine lv_goto (tgt := 14) hx hb dL_confidence_8 (by decide) ?_
    refine lv_iconst (v := 0) hx hb dL_confidence_14 (by decide) ?_
    exact W.iret (v := 0) hx hb hr (fun T9 hT9 _ => ⟨by rw [hthr]; rfl, hS.F hT9, Or.inl ⟨hthr, by rw [hT9]; exact wTail hP, by rw [hT9]; exact wHead hP⟩⟩) hS.2.2 dL_confidence_15
