/-! THE LAW'S WRAPPERS THAT READ -/
theorem vRet {x y : Int32} (h : x = y) : Outcome.returned (some (Value.int x)) = Outcome.returned (some (Value.int y)) := by rw [h]
theorem xw_of {X : XO} {o : Option Nat} {φ : Nat → Nat} {ANS WV : Int32} {G : Nat → Int32} (hX : X = f_xFound (o.map φ)) (hW : WV = atO o (-30000) G) (hA : ∀ j, o = some j → ANS = G j) : (∀ E r, X = some (E, r) → E = eNSE ∧ r = none ∧ WV = -30000) ∧ (X = none → ANS = WV) := by
  rcases o with _ | j
  · refine ⟨fun E r z => ?_, fun z => ?_⟩
    · rw [hX] at z
      have z9 : (some (eNSE, none) : XO) = some (E, r) := z
      simp only [Option.some.injEq, Prod.mk.injEq] at z9
      exact ⟨z9.1.symm, z9.2.symm, hW⟩
    · rw [hX] at z
      have z9 : (some (eNSE, none) : XO) = none := z
      cases z9
  · refine ⟨fun E r z => ?_, fun z => ?_⟩
    · rw [hX] at z
      have z9 : (none : XO) = some (E, r) := z
      cases z9
    · exact (hA j rfl).trans hW.symm
theorem xw_no {X : XO} {ANS WV : Int32} (hX : X = f_xFound none) (hW : WV = -30000) : (∀ E r, X = some (E, r) → E = eNSE ∧ r = none ∧ WV = -30000) ∧ (X = none → ANS = WV) := xw_of (o := none) (φ := id) (G := fun _ => 0) hX hW (fun j z => by cases z)

theorem xw_previousPrint {σ : Nat → Nat → Int32} {f : Nat → Int32} {B n t : Nat} {pi ro : Nat → Nat} (h : BR σ f B n t pi ro) {k : Nat} (hk : k < n) : (∀ E9 r9, ((f_xPrint σ (gP f k 0)).or (atO (f_findPrint σ (gP f k 0)) none (fun k => f_xFound (f_before σ k)))) = some (E9, r9) → E9 = eNSE ∧ r9 = none ∧ eB f n k = -30000) ∧ (((f_xPrint σ (gP f k 0)).or (atO (f_findPrint σ (gP f k 0)) none (fun k => f_xFound (f_before σ k)))) = none → atO (f_findPrint σ (gP f k 0)) 0 (fun k => atO (f_before σ k) 0 (fun j => σ (9 + j) 1)) = eB f n k) := by
  refine xw_of (o := m_bes f n k false) (φ := pi) (G := fun j => gP f j 0) ?_ rfl (fun j e => ?_)
  · rw [h.xp hk, h.fpk hk]
    show f_xFound (f_before σ (pi k)) = _
    rw [h.before hk]
  · rw [h.fpk hk]
    show atO (f_before σ (pi k)) 0 _ = _
    rw [h.before hk, e]
    exact (h.pe (m_bes_lt e)).1.symm
set_option maxHeartbeats 4000000 in
set_option maxRecDepth 100000 in
theorem k_L_previousPrint (l : Launch) (D : va_G) (ad : Nat → Nat) (cy : Nat → ClassId) (pm : Nat → Nat) (rj : Option Nat) (σ : Nat → Nat → Int32) (xq : Nat → Nat) (hst : l.stackTraces = false) (sz : Nat) (hi : sp_inj ad 459) {f : Nat → Int32} {B n t : Nat} {pi ro : Nat → Nat} (h : BR σ f B n t pi ro) {k : Nat} (hk : k < n) : Met l yL_previousPrint wsL_previousPrint ({ frames := 8, cells := 2, slots := 12, locals := 133 } : Room) (sp_Pmx xq ad 459 D (tyG cy) sz [.ref (ad (429)), .int (gP f k 0)] (cW ad cy pm rj σ)) (sp_Q D (some (.int (eB f n k))) (cW ad cy (pm) (rj) (σ)) (sp_A ad 459 sz)) 2 12 (sp_A ad 459 sz) := by
  obtain ⟨hXe, hXn⟩ := xw_previousPrint h hk
  refine va_MetW (cc := cL_previousPrint) (maxL := 3) (ret := (some .int)) (by decide) rfl ?_
  intro p e s m args below meth c s₁ B9 hml hv
  obtain ⟨rfl, hsz, hP, hK, hE⟩ := hv
  have hx := B9.exec
  have hb := B9.bytes
  have hr := B9.returns
  have hts := atoms_spec (ws := wsL_previousPrint) B9.pre
  have hown : s.vm.findClass RL = some m.cls := findClass_of_methodNamed B9.named
  have ht := vx_table (x := yL_previousPrint) B9 (hts _ (List.mem_of_getElem? (i := 0) rfl))
  subst hsz
  have hNC := hE.2.2.2.2.1.1
  have hS : va_S (sp_A ad 459 s.heap.size) s.heap s.heap [] := va_S.rf
  have hl := lv_entry ([.ref (ad (429)), .int (gP f k 0)]) (n := 3) (Nat.le_of_ble_eq_true rfl)
  refine W.eq (lg_entry_eq _ ([.ref (ad (429)), .int (gP f k 0)]) _) ?_
  generalize (lg_sl ([.ref (ad (429)), .int (gP f k 0)]) ++ List.replicate (3 - (lg_sl ([.ref (ad (429)), .int (gP f k 0)])).length) Slot.unset).toArray = ls at hl ⊢
  have hl : lv_has ls 3 [(0, .ref (ad (429))), (1, .int (gP f k 0))] := hl
  refine lv_aload_n hx hb dL_previousPrint_0 rfl (lv_at hl 0 rfl) ?_
  refine lv_iload_n hx hb dL_previousPrint_1 rfl (lv_at hl 1 rfl) ?_
  refine sp_callx (vx_runV (As := [.int (gP f k 0)]) (rest := []) ⟨hx, hb, hml, hown, hts⟩ (c_X9_previousPrint l D ad cy pm rj σ xq hst _ hi (gP f k 0)) (cwV 1 hts gL_previousPrint_X9_previousPrint rfl rfl rfl (by decide +kernel) ⟨Nat.le_of_ble_eq_true rfl, Nat.le_of_ble_eq_true rfl⟩) (sp_preVmx hK hP hE (κ := 429) (by decide) cE_sp rfl) rfl rfl hl.1 rfl (lv_room (Nat.le_of_ble_eq_true rfl)) dL_previousPrint_2 ⟨Nat.le_of_ble_eq_true rfl, Nat.le_of_ble_eq_true rfl⟩) hS (fun q _ h => h) (fun q h => h) (fun E_x r_x ce q9 H locs hthr hB9 hle hfr hS hce hcv hcl => ?_) (fun hthr H locs hP hle hfr hS => ?_)
  · obtain ⟨rfl, rfl, hWV⟩ := hXe E_x r_x hthr
    obtain ⟨rj9, hP9, hN9⟩ := hB9
    have hN9 : rj9 = rj := hN9
    rw [hN9] at hP9
    refine vx_catch (name := "java/util/NoSuchElementException") hown (tableOf [(0, 5, 6, 30)]) (⟨0, 5, 11, 55⟩ : ExceptionTableEntry) (tableOf []) (by rw [ht]; rfl) (fun z hz => ((fun h9 => (List.mem_cons.mp h9).elim (fun e9 => by (subst e9; exact Or.inr ⟨by decide, "java/lang/IndexOutOfBoundsException", hts _ (List.mem_of_getElem? (i := 1) rfl), hNC _ _ (by decide +kernel) (by decide +kernel) (by decide +kernel)⟩)) (fun h9 => absurd h9 List.not_mem_nil)) : z ∈ tableOf [(0, 5, 6, 30)] → covers z 2 = false ∨ (z.catchType ≠ 0 ∧ ∃ nm : String, (Cond.classLink RL z.catchType nm).before _ s = true ∧ va_Nc eNSE nm s)) hz) (by decide) (by decide) (hts _ (List.mem_of_getElem? (i := 2) rfl)) (va_Nw.use rfl hE.k3) hce hcv hcl ?_
    refine lv_astore_n (lv' := [(2, .ref q9), (0, .ref (ad (429))), (1, .int (gP f k 0))]) hx hb dL_previousPrint_11 rfl hl (by decide) rfl (fun ls hl => ?_)
    refine lv_sipush (v := (-30000)) hx hb dL_previousPrint_12 (by decide) ?_
    exact W.iret (v := (-30000)) hx hb hr (fun T9 hT9 _ => ⟨vRet hWV.symm, by rw [hT9]; exact hP9, hS.F hT9⟩) hS.2.2 dL_previousPrint_15
  · refine W.eq (g2 := F0 m 5 ls [.int (eB f n k)]) (by rw [hXn hthr]; rfl) ?_
    exact W.iret (v := eB f n k) hx hb hr (fun T9 hT9 _ => ⟨rfl, by rw [hT9]; exact hP, hS.F hT9⟩) hS.2.2 dL_previousPrint_5
theorem xw_nextPrint {σ : Nat → Nat → Int32} {f : Nat → Int32} {B n t : Nat} {pi ro : Nat → Nat} (h : BR σ f B n t pi ro) {k : Nat} (hk : k < n) : (∀ E9 r9, ((f_xPrint σ (gP f k 0)).or (atO (f_findPrint σ (gP f k 0)) none (fun k => f_xFound (f_after σ k)))) = some (E9, r9) → E9 = eNSE ∧ r9 = none ∧ eN f n k = -30000) ∧ (((f_xPrint σ (gP f k 0)).or (atO (f_findPrint σ (gP f k 0)) none (fun k => f_xFound (f_after σ k)))) = none → atO (f_findPrint σ (gP f k 0)) 0 (fun k => atO (f_after σ k) 0 (fun j => σ (9 + j) 1)) = eN f n k) := by
  refine xw_of (o := m_bes f n k true) (φ := pi) (G := fun j => gP f j 0) ?_ rfl (fun j e => ?_)
  · rw [h.xp hk, h.fpk hk]
    show f_xFound (f_after σ (pi k)) = _
    rw [h.after hk]
  · rw [h.fpk hk]
    show atO (f_after σ (pi k)) 0 _ = _
    rw [h.after hk, e]
    exact (h.pe (m_bes_lt e)).1.symm
set_option maxHeartbeats 4000000 in
set_option maxRecDepth 100000 in
theorem k_L_nextPrint (l : Launch) (D : va_G) (ad : Nat → Nat) (cy : Nat → ClassId) (pm : Nat → Nat) (rj : Option Nat) (σ : Nat → Nat → Int32) (xq : Nat → Nat) (hst : l.stackTraces = false) (sz : Nat) (hi : sp_inj ad 459) {f : Nat → Int32} {B n t : Nat} {pi ro : Nat → Nat} (h : BR σ f B n t pi ro) {k : Nat} (hk : k < n) : Met l yL_nextPrint wsL_nextPrint ({ frames := 8, cells := 2, slots := 12, locals := 133 } : Room) (sp_Pmx xq ad 459 D (tyG cy) sz [.ref (ad (429)), .int (gP f k 0)] (cW ad cy pm rj σ)) (sp_Q D (some (.int (eN f n k))) (cW ad cy (pm) (rj) (σ)) (sp_A ad 459 sz)) 2 12 (sp_A ad 459 sz) := by
  obtain ⟨hXe, hXn⟩ := xw_nextPrint h hk
  refine va_MetW (cc := cL_nextPrint) (maxL := 3) (ret := (some .int)) (by decide) rfl ?_
  intro p e s m args below meth c s₁ B9 hml hv
  obtain ⟨rfl, hsz, hP, hK, hE⟩ := hv
  have hx := B9.exec
  have hb := B9.bytes
  have hr := B9.returns
  have hts := atoms_spec (ws := wsL_nextPrint) B9.pre
  have hown : s.vm.findClass RL = some m.cls := findClass_of_methodNamed B9.named
  have ht := vx_table (x := yL_nextPrint) B9 (hts _ (List.mem_of_getElem? (i := 0) rfl))
  subst hsz
  have hNC := hE.2.2.2.2.1.1
  have hS : va_S (sp_A ad 459 s.heap.size) s.heap s.heap [] := va_S.rf
  have hl := lv_entry ([.ref (ad (429)), .int (gP f k 0)]) (n := 3) (Nat.le_of_ble_eq_true rfl)
  refine W.eq (lg_entry_eq _ ([.ref (ad (429)), .int (gP f k 0)]) _) ?_
  generalize (lg_sl ([.ref (ad (429)), .int (gP f k 0)]) ++ List.replicate (3 - (lg_sl ([.ref (ad (429)), .int (gP f k 0)])).length) Slot.unset).toArray = ls at hl ⊢
  have hl : lv_has ls 3 [(0, .ref (ad (429))), (1, .int (gP f k 0))] := hl
  refine lv_aload_n hx hb dL_nextPrint_0 rfl (lv_at hl 0 rfl) ?_
  refine lv_iload_n hx hb dL_nextPrint_1 rfl (lv_at hl 1 rfl) ?_
  refine sp_callx (vx_runV (As := [.int (gP f k 0)]) (rest := []) ⟨hx, hb, hml, hown, hts⟩ (c_X9_nextPrint l D ad cy pm rj σ xq hst _ hi (gP f k 0)) (cwV 1 hts gL_nextPrint_X9_nextPrint rfl rfl rfl (by decide +kernel) ⟨Nat.le_of_ble_eq_true rfl, Nat.le_of_ble_eq_true rfl⟩) (sp_preVmx hK hP hE (κ := 429) (by decide) cE_sp rfl) rfl rfl hl.1 rfl (lv_room (Nat.le_of_ble_eq_true rfl)) dL_nextPrint_2 ⟨Nat.le_of_ble_eq_true rfl, Nat.le_of_ble_eq_true rfl⟩) hS (fun q _ h => h) (fun q h => h) (fun E_x r_x ce q9 H locs hthr hB9 hle hfr hS hce hcv hcl => ?_) (fun hthr H locs hP hle hfr hS => ?_)
  · obtain ⟨rfl, rfl, hWV⟩ := hXe E_x r_x hthr
    obtain ⟨rj9, hP9, hN9⟩ := hB9
    have hN9 : rj9 = rj := hN9
    rw [hN9] at hP9
    refine vx_catch (name := "java/util/NoSuchElementException") hown (tableOf [(0, 5, 6, 30)]) (⟨0, 5, 11, 55⟩ : ExceptionTableEntry) (tableOf []) (by rw [ht]; rfl) (fun z hz => ((fun h9 => (List.mem_cons.mp h9).elim (fun e9 => by (subst e9; exact Or.inr ⟨by decide, "java/lang/IndexOutOfBoundsException", hts _ (List.mem_of_getElem? (i := 1) rfl), hNC _ _ (by decide +kernel) (by decide +kernel) (by decide +kernel)⟩)) (fun h9 => absurd h9 List.not_mem_nil)) : z ∈ tableOf [(0, 5, 6, 30)] → covers z 2 = false ∨ (z.catchType ≠ 0 ∧ ∃ nm : String, (Cond.classLink RL z.catchType nm).before _ s = true ∧ va_Nc eNSE nm s)) hz) (by decide) (by decide) (hts _ (List.mem_of_getElem? (i := 2) rfl)) (va_Nw.use rfl hE.k3) hce hcv hcl ?_
    refine lv_astore_n (lv' := [(2, .ref q9), (0, .ref (ad (429))), (1, .int (gP f k 0))]) hx hb dL_nextPrint_11 rfl hl (by decide) rfl (fun ls hl => ?_)
    refine lv_sipush (v := (-30000)) hx hb dL_nextPrint_12 (by decide) ?_
    exact W.iret (v := (-30000)) hx hb hr (fun T9 hT9 _ => ⟨vRet hWV.symm, by rw [hT9]; exact hP9, hS.F hT9⟩) hS.2.2 dL_nextPrint_15
  · refine W.eq (g2 := F0 m 5 ls [.int (eN f n k)]) (by rw [hXn hthr]; rfl) ?_
    exact W.iret (v := eN f n k) hx hb hr (fun T9 hT9 _ => ⟨rfl, by rw [hT9]; exact hP, hS.F hT9⟩) hS.2.2 dL_nextPrint_5
theorem xw_strideOf {σ : Nat → Nat → Int32} {f : Nat → Int32} {B n t : Nat} {pi ro : Nat → Nat} (h : BR σ f B n t pi ro) {k : Nat} (hk : k < n) : (∀ E9 r9, ((f_xPrint σ (gP f k 0)).or (atO (f_findPrint σ (gP f k 0)) none (fun k => f_xFound (f_before σ k)))) = some (E9, r9) → E9 = eNSE ∧ r9 = none ∧ eS f n k = -30000) ∧ (((f_xPrint σ (gP f k 0)).or (atO (f_findPrint σ (gP f k 0)) none (fun k => f_xFound (f_before σ k)))) = none → atO (f_findPrint σ (gP f k 0)) 0 (fun k => atO (f_before σ k) 0 (fun j => f_dist σ (9 + k) (σ (9 + j) 4) (σ (9 + j) 5))) = eS f n k) := by
  refine xw_of (o := m_bes f n k false) (φ := pi) (G := fun _ => m_stride f n k) ?_ rfl (fun j e => ?_)
  · rw [h.xp hk, h.fpk hk]
    show f_xFound (f_before σ (pi k)) = _
    rw [h.before hk]
  · rw [h.fpk hk]
    show atO (f_before σ (pi k)) 0 _ = _
    rw [h.before hk, e]
    show f_dist σ (9 + pi k) (σ (9 + pi j) 4) (σ (9 + pi j) 5) = m_stride f n k; rw [h.strideV hk (m_bes_lt e), m_stride_some e]
set_option maxHeartbeats 4000000 in
set_option maxRecDepth 100000 in
theorem k_L_strideOf (l : Launch) (D : va_G) (ad : Nat → Nat) (cy : Nat → ClassId) (pm : Nat → Nat) (rj : Option Nat) (σ : Nat → Nat → Int32) (xq : Nat → Nat) (hst : l.stackTraces = false) (sz : Nat) (hi : sp_inj ad 459) {f : Nat → Int32} {B n t : Nat} {pi ro : Nat → Nat} (h : BR σ f B n t pi ro) {k : Nat} (hk : k < n) : Met l yL_strideOf wsL_strideOf ({ frames := 8, cells := 2, slots := 12, locals := 135 } : Room) (sp_Pmx xq ad 459 D (tyG cy) sz [.ref (ad (429)), .int (gP f k 0)] (cW ad cy pm rj σ)) (sp_Q D (some (.int (eS f n k))) (cW ad cy (pm) (rj) (σ)) (sp_A ad 459 sz)) 2 12 (sp_A ad 459 sz) := by
  obtain ⟨hXe, hXn⟩ := xw_strideOf h hk
  refine va_MetW (cc := cL_strideOf) (maxL := 3) (ret := (some .int)) (by decide) rfl ?_
  intro p e s m args below meth c s₁ B9 hml hv
  obtain ⟨rfl, hsz, hP, hK, hE⟩ := hv
  have hx := B9.exec
  have hb := B9.bytes
  have hr := B9.returns
  have hts := atoms_spec (ws := wsL_strideOf) B9.pre
  have hown : s.vm.findClass RL = some m.cls := findClass_of_methodNamed B9.named
  have ht := vx_table (x := yL_strideOf) B9 (hts _ (List.mem_of_getElem? (i := 0) rfl))
  subst hsz
  have hNC := hE.2.2.2.2.1.1
  have hS : va_S (sp_A ad 459 s.heap.size) s.heap s.heap [] := va_S.rf
  have hl := lv_entry ([.ref (ad (429)), .int (gP f k 0)]) (n := 3) (Nat.le_of_ble_eq_true rfl)
  refine W.eq (lg_entry_eq _ ([.ref (ad (429)), .int (gP f k 0)]) _) ?_
  generalize (lg_sl ([.ref (ad (429)), .int (gP f k 0)]) ++ List.replicate (3 - (lg_sl ([.ref (ad (429)), .int (gP f k 0)])).length) Slot.unset).toArray = ls at hl ⊢
  have hl : lv_has ls 3 [(0, .ref (ad (429))), (1, .int (gP f k 0))] := hl
  refine lv_aload_n hx hb dL_strideOf_0 rfl (lv_at hl 0 rfl) ?_
  refine lv_iload_n hx hb dL_strideOf_1 rfl (lv_at hl 1 rfl) ?_
  refine sp_callx (vx_runV (As := [.int (gP f k 0)]) (rest := []) ⟨hx, hb, hml, hown, hts⟩ (c_X9_strideOf l D ad cy pm rj σ xq hst _ hi (gP f k 0)) (cwV 1 hts gL_strideOf_X9_strideOf rfl rfl rfl (by decide +kernel) ⟨Nat.le_of_ble_eq_true rfl, Nat.le_of_ble_eq_true rfl⟩) (sp_preVmx hK hP hE (κ := 429) (by decide) cE_sp rfl) rfl rfl hl.1 rfl (lv_room (Nat.le_of_ble_eq_true rfl)) dL_strideOf_2 ⟨Nat.le_of_ble_eq_true rfl, Nat.le_of_ble_eq_true rfl⟩) hS (fun q _ h => h) (fun q h => h) (fun E_x r_x ce q9 H locs hthr hB9 hle hfr hS hce hcv hcl => ?_) (fun hthr H locs hP hle hfr hS => ?_)
  · obtain ⟨rfl, rfl, hWV⟩ := hXe E_x r_x hthr
    obtain ⟨rj9, hP9, hN9⟩ := hB9
    have hN9 : rj9 = rj := hN9
    rw [hN9] at hP9
    refine vx_catch (name := "java/util/NoSuchElementException") hown (tableOf [(0, 5, 6, 30)]) (⟨0, 5, 11, 55⟩ : ExceptionTableEntry) (tableOf []) (by rw [ht]; rfl) (fun z hz => ((fun h9 => (List.mem_cons.mp h9).elim (fun e9 => by (subst e9; exact Or.inr ⟨by decide, "java/lang/IndexOutOfBoundsException", hts _ (List.mem_of_getElem? (i := 1) rfl), hNC _ _ (by decide +kernel) (by decide +kernel) (by decide +kernel)⟩)) (fun h9 => absurd h9 List.not_mem_nil)) : z ∈ tableOf [(0, 5, 6, 30)] → covers z 2 = false ∨ (z.catchType ≠ 0 ∧ ∃ nm : String, (Cond.classLink RL z.catchType nm).before _ s = true ∧ va_Nc eNSE nm s)) hz) (by decide) (by decide) (hts _ (List.mem_of_getElem? (i := 2) rfl)) (va_Nw.use rfl hE.k3) hce hcv hcl ?_
    refine lv_astore_n (lv' := [(2, .ref q9), (0, .ref (ad (429))), (1, .int (gP f k 0))]) hx hb dL_strideOf_11 rfl hl (by decide) rfl (fun ls hl => ?_)
    refine lv_sipush (v := (-30000)) hx hb dL_strideOf_12 (by decide) ?_
    exact W.iret (v := (-30000)) hx hb hr (fun T9 hT9 _ => ⟨vRet hWV.symm, by rw [hT9]; exact hP9, hS.F hT9⟩) hS.2.2 dL_strideOf_15
  · refine W.eq (g2 := F0 m 5 ls [.int (eS f n k)]) (by rw [hXn hthr]; rfl) ?_
    exact W.iret (v := eS f n k) hx hb hr (fun T9 hT9 _ => ⟨rfl, by rw [hT9]; exact hP, hS.F hT9⟩) hS.2.2 dL_strideOf_5
theorem xw_printAt {σ : Nat → Nat → Int32} {f : Nat → Int32} {B n t : Nat} {pi ro : Nat → Nat} (h : BR σ f B n t pi ro) {r : Nat} (hr : r < t) : (∀ E9 r9, ((f_xTrack σ (gT f r)).or (atO (f_findTrack σ (gT f r)) none (fun k => f_xFound (f_inPlace σ k (nI (cN f n (gT f r))))))) = some (E9, r9) → E9 = eNSE ∧ r9 = none ∧ (-30000 : Int32) = -30000) ∧ (((f_xTrack σ (gT f r)).or (atO (f_findTrack σ (gT f r)) none (fun k => f_xFound (f_inPlace σ k (nI (cN f n (gT f r))))))) = none → atO (f_findTrack σ (gT f r)) 0 (fun k => atO (f_inPlace σ k (nI (cN f n (gT f r)))) 0 (fun j => σ (9 + j) 1)) = (-30000 : Int32)) := by
  refine xw_no ?_ rfl
  rw [h.xt hr, h.ftk hr]
  show f_xFound (f_inPlace σ (ro r) (nI (cN f n (gT f r)))) = _
  rw [po_end h hr]
set_option maxHeartbeats 4000000 in
set_option maxRecDepth 100000 in
theorem k_L_printAt (l : Launch) (D : va_G) (ad : Nat → Nat) (cy : Nat → ClassId) (pm : Nat → Nat) (rj : Option Nat) (σ : Nat → Nat → Int32) (xq : Nat → Nat) (hst : l.stackTraces = false) (sz : Nat) (hi : sp_inj ad 459) {f : Nat → Int32} {B n t : Nat} {pi ro : Nat → Nat} (h : BR σ f B n t pi ro) {r : Nat} (hr : r < t) : Met l yL_printAt wsL_printAt ({ frames := 8, cells := 2, slots := 12, locals := 134 } : Room) (sp_Pmx xq ad 459 D (tyG cy) sz [.ref (ad (429)), .int (gT f r), .int (nI (cN f n (gT f r)))] (cW ad cy pm rj σ)) (sp_Q D (some (.int ((-30000 : Int32)))) (cW ad cy (pm) (rj) (σ)) (sp_A ad 459 sz)) 2 12 (sp_A ad 459 sz) := by
  obtain ⟨hXe, hXn⟩ := xw_printAt h hr
  refine va_MetW (cc := cL_printAt) (maxL := 4) (ret := (some .int)) (by decide) rfl ?_
  intro p e s m args below meth c s₁ B9 hml hv
  obtain ⟨rfl, hsz, hP, hK, hE⟩ := hv
  have hx := B9.exec
  have hb := B9.bytes
  have hr := B9.returns
  have hts := atoms_spec (ws := wsL_printAt) B9.pre
  have hown : s.vm.findClass RL = some m.cls := findClass_of_methodNamed B9.named
  have ht := vx_table (x := yL_printAt) B9 (hts _ (List.mem_of_getElem? (i := 0) rfl))
  subst hsz
  have hNC := hE.2.2.2.2.1.1
  have hS : va_S (sp_A ad 459 s.heap.size) s.heap s.heap [] := va_S.rf
  have hl := lv_entry ([.ref (ad (429)), .int (gT f r), .int (nI (cN f n (gT f r)))]) (n := 4) (Nat.le_of_ble_eq_true rfl)
  refine W.eq (lg_entry_eq _ ([.ref (ad (429)), .int (gT f r), .int (nI (cN f n (gT f r)))]) _) ?_
  generalize (lg_sl ([.ref (ad (429)), .int (gT f r), .int (nI (cN f n (gT f r)))]) ++ List.replicate (4 - (lg_sl ([.ref (ad (429)), .int (gT f r), .int (nI (cN f n (gT f r)))])).length) Slot.unset).toArray = ls at hl ⊢
  have hl : lv_has ls 4 [(0, .ref (ad (429))), (1, .int (gT f r)), (2, .int (nI (cN f n (gT f r))))] := hl
  refine lv_aload_n hx hb dL_printAt_0 rfl (lv_at hl 0 rfl) ?_
  refine lv_iload_n hx hb dL_printAt_1 rfl (lv_at hl 1 rfl) ?_
  refine lv_iload_n hx hb dL_printAt_2 rfl (lv_at hl 2 rfl) ?_
  refine sp_callx (vx_runV (As := [.int (gT f r), .int (nI (cN f n (gT f r)))]) (rest := []) ⟨hx, hb, hml, hown, hts⟩ (c_X9_printAt l D ad cy pm rj σ xq hst _ hi (gT f r) (nI (cN f n (gT f r)))) (cwV 2 hts gL_printAt_X9_printAt rfl rfl rfl (by decide +kernel) ⟨Nat.le_of_ble_eq_true rfl, Nat.le_of_ble_eq_true rfl⟩) (sp_preVmx hK hP hE (κ := 429) (by decide) cE_sp rfl) rfl rfl hl.1 rfl (lv_room (Nat.le_of_ble_eq_true rfl)) dL_printAt_3 ⟨Nat.le_of_ble_eq_true rfl, Nat.le_of_ble_eq_true rfl⟩) hS (fun q _ h => h) (fun q h => h) (fun E_x r_x ce q9 H locs hthr hB9 hle hfr hS hce hcv hcl => ?_) (fun hthr H locs hP hle hfr hS => ?_)
  · obtain ⟨rfl, rfl, hWV⟩ := hXe E_x r_x hthr
    obtain ⟨rj9, hP9, hN9⟩ := hB9
    have hN9 : rj9 = rj := hN9
    rw [hN9] at hP9
    refine vx_catch (name := "java/util/NoSuchElementException") hown (tableOf [(0, 6, 7, 30)]) (⟨0, 6, 12, 55⟩ : ExceptionTableEntry) (tableOf []) (by rw [ht]; rfl) (fun z hz => ((fun h9 => (List.mem_cons.mp h9).elim (fun e9 => by (subst e9; exact Or.inr ⟨by decide, "java/lang/IndexOutOfBoundsException", hts _ (List.mem_of_getElem? (i := 1) rfl), hNC _ _ (by decide +kernel) (by decide +kernel) (by decide +kernel)⟩)) (fun h9 => absurd h9 List.not_mem_nil)) : z ∈ tableOf [(0, 6, 7, 30)] → covers z 3 = false ∨ (z.catchType ≠ 0 ∧ ∃ nm : String, (Cond.classLink RL z.catchType nm).before _ s = true ∧ va_Nc eNSE nm s)) hz) (by decide) (by decide) (hts _ (List.mem_of_getElem? (i := 2) rfl)) (va_Nw.use rfl hE.k3) hce hcv hcl ?_
    refine lv_astore_n (lv' := [(3, .ref q9), (0, .ref (ad (429))), (1, .int (gT f r)), (2, .int (nI (cN f n (gT f r))))]) hx hb dL_printAt_12 rfl hl (by decide) rfl (fun ls hl => ?_)
    refine lv_sipush (v := (-30000)) hx hb dL_printAt_13 (by decide) ?_
    exact W.iret (v := (-30000)) hx hb hr (fun T9 hT9 _ => ⟨vRet hWV.symm, by rw [hT9]; exact hP9, hS.F hT9⟩) hS.2.2 dL_printAt_16
  · refine W.eq (g2 := F0 m 6 ls [.int ((-30000 : Int32))]) (by rw [hXn hthr]; rfl) ?_
    exact W.iret (v := (-30000 : Int32)) hx hb hr (fun T9 hT9 _ => ⟨rfl, by rw [hT9]; exact hP, hS.F hT9⟩) hS.2.2 dL_printAt_6
theorem xw_duration {σ : Nat → Nat → Int32} {f : Nat → Int32} {B n t : Nat} {pi ro : Nat → Nat} (h : BR σ f B n t pi ro) {r : Nat} (hr : r < t) : (∀ E9 r9, ((f_xTrack σ (gT f r)).or (atO (f_findTrack σ (gT f r)) none (fun k => (f_xFound (f_inPlace σ k 0)).or (f_xFound (f_inPlace σ k (f_countPrints σ k - 1)))))) = some (E9, r9) → E9 = eNSE ∧ r9 = none ∧ eD9 f n (gT f r) = -30000) ∧ (((f_xTrack σ (gT f r)).or (atO (f_findTrack σ (gT f r)) none (fun k => (f_xFound (f_inPlace σ k 0)).or (f_xFound (f_inPlace σ k (f_countPrints σ k - 1)))))) = none → atO (f_findTrack σ (gT f r)) 0 (fun k => atO (f_inPlace σ k 0) 0 (fun a => atO (f_inPlace σ k (f_countPrints σ k - 1)) 0 (fun b => σ (9 + b) 3 - σ (9 + a) 3))) = eD9 f n (gT f r)) := by
  have hcl := cntN_le (tA f (gT f r)) n
  have h30 := h.n30
  by_cases e : cN f n (gT f r) = 0
  · refine xw_no ?_ (by unfold eD9; rw [if_pos e])
    rw [h.xt hr, h.ftk hr]
    show (f_xFound (f_inPlace σ (ro r) 0)).or _ = _
    have h9 := po_end h hr
    rw [e] at h9
    rw [show (0 : Int32) = nI 0 from rfl, h9]
    rfl
  · have e1 : f_inPlace σ (ro r) 0 = some (pi (plP f n (gT f r) 0)) := po_at h hr (q := 0) (by omega)
    have e2 : f_inPlace σ (ro r) (f_countPrints σ (ro r) - 1) = some (pi (plP f n (gT f r) (cN f n (gT f r) - 1))) := by
      rw [h.count hr, m_count_N, show nI (cntN (tA f (gT f r)) n) - 1 = nI (cN f n (gT f r) - 1) from nI_subE rfl rfl (by omega)]
      exact po_at h hr (by omega)
    refine xw_of (o := some 0) (φ := id) (G := fun _ => gP f (plP f n (gT f r) (cN f n (gT f r) - 1)) 2 - gP f (plP f n (gT f r) 0) 2) ?_ (by unfold eD9; rw [if_neg e]; rfl) (fun j _ => ?_)
    · rw [h.xt hr, h.ftk hr]
      show (f_xFound (f_inPlace σ (ro r) 0)).or (f_xFound (f_inPlace σ (ro r) (f_countPrints σ (ro r) - 1))) = _
      rw [e1, e2]
      rfl
    · rw [h.ftk hr]
      show atO (f_inPlace σ (ro r) 0) 0 (fun a => atO (f_inPlace σ (ro r) (f_countPrints σ (ro r) - 1)) 0 (fun b => σ (9 + b) 3 - σ (9 + a) 3)) = _
      rw [e1, e2]
      show σ (9 + pi (plP f n (gT f r) (cN f n (gT f r) - 1))) 3 - σ (9 + pi (plP f n (gT f r) 0)) 3 = _
      rw [← (h.pe (plP_ok h.vx h.n30 (x := gT f r) (q := cN f n (gT f r) - 1) (by omega)).2.1).2.2.1, ← (h.pe (plP_ok h.vx h.n30 (x := gT f r) (q := 0) (by omega)).2.1).2.2.1]
set_option maxHeartbeats 4000000 in
set_option maxRecDepth 100000 in
theorem k_L_duration (l : Launch) (D : va_G) (ad : Nat → Nat) (cy : Nat → ClassId) (pm : Nat → Nat) (rj : Option Nat) (σ : Nat → Nat → Int32) (xq : Nat → Nat) (hst : l.stackTraces = false) (sz : Nat) (hi : sp_inj ad 459) {f : Nat → Int32} {B n t : Nat} {pi ro : Nat → Nat} (h : BR σ f B n t pi ro) {r : Nat} (hr : r < t) : Met l yL_duration wsL_duration ({ frames := 8, cells := 3, slots := 18, locals := 136 } : Room) (sp_Pmx xq ad 459 D (tyG cy) sz [.ref (ad (429)), .int (gT f r)] (cW ad cy pm rj σ)) (sp_Q D (some (.int (eD9 f n (gT f r)))) (cW ad cy (pm) (rj) (σ)) (sp_A ad 459 sz)) 3 18 (sp_A ad 459 sz) := by
  obtain ⟨hXe, hXn⟩ := xw_duration h hr
  refine va_MetW (cc := cL_duration) (maxL := 3) (ret := (some .int)) (by decide) rfl ?_
  intro p e s m args below meth c s₁ B9 hml hv
  obtain ⟨rfl, hsz, hP, hK, hE⟩ := hv
  have hx := B9.exec
  have hb := B9.bytes
  have hr := B9.returns
  have hts := atoms_spec (ws := wsL_duration) B9.pre
  have hown : s.vm.findClass RL = some m.cls := findClass_of_methodNamed B9.named
  have ht := vx_table (x := yL_duration) B9 (hts _ (List.mem_of_getElem? (i := 0) rfl))
  subst hsz
  have hNC := hE.2.2.2.2.1.1
  have hS : va_S (sp_A ad 459 s.heap.size) s.heap s.heap [] := va_S.rf
  have hl := lv_entry ([.ref (ad (429)), .int (gT f r)]) (n := 3) (Nat.le_of_ble_eq_true rfl)
  refine W.eq (lg_entry_eq _ ([.ref (ad (429)), .int (gT f r)]) _) ?_
  generalize (lg_sl ([.ref (ad (429)), .int (gT f r)]) ++ List.replicate (3 - (lg_sl ([.ref (ad (429)), .int (gT f r)])).length) Slot.unset).toArray = ls at hl ⊢
  have hl : lv_has ls 3 [(0, .ref (ad (429))), (1, .int (gT f r))] := hl
  refine lv_aload_n hx hb dL_duration_0 rfl (lv_at hl 0 rfl) ?_
  refine lv_iload_n hx hb dL_duration_1 rfl (lv_at hl 1 rfl) ?_
  refine sp_callx (vx_runV (As := [.int (gT f r)]) (rest := []) ⟨hx, hb, hml, hown, hts⟩ (c_X9_duration l D ad cy pm rj σ xq hst _ hi (gT f r)) (cwV 1 hts gL_duration_X9_duration rfl rfl rfl (by decide +kernel) ⟨Nat.le_of_ble_eq_true rfl, Nat.le_of_ble_eq_true rfl⟩) (sp_preVmx hK hP hE (κ := 429) (by decide) cE_sp rfl) rfl rfl hl.1 rfl (lv_room (Nat.le_of_ble_eq_true rfl)) dL_duration_2 ⟨Nat.le_of_ble_eq_true rfl, Nat.le_of_ble_eq_true rfl⟩) hS (fun q _ h => h) (fun q h => h) (fun E_x r_x ce q9 H locs hthr hB9 hle hfr hS hce hcv hcl => ?_) (fun hthr H locs hP hle hfr hS => ?_)
  · obtain ⟨rfl, rfl, hWV⟩ := hXe E_x r_x hthr
    obtain ⟨rj9, hP9, hN9⟩ := hB9
    have hN9 : rj9 = rj := hN9
    rw [hN9] at hP9
    refine vx_catch (name := "java/util/NoSuchElementException") hown (tableOf [(0, 5, 6, 30)]) (⟨0, 5, 11, 55⟩ : ExceptionTableEntry) (tableOf []) (by rw [ht]; rfl) (fun z hz => ((fun h9 => (List.mem_cons.mp h9).elim (fun e9 => by (subst e9; exact Or.inr ⟨by decide, "java/lang/IndexOutOfBoundsException", hts _ (List.mem_of_getElem? (i := 1) rfl), hNC _ _ (by decide +kernel) (by decide +kernel) (by decide +kernel)⟩)) (fun h9 => absurd h9 List.not_mem_nil)) : z ∈ tableOf [(0, 5, 6, 30)] → covers z 2 = false ∨ (z.catchType ≠ 0 ∧ ∃ nm : String, (Cond.classLink RL z.catchType nm).before _ s = true ∧ va_Nc eNSE nm s)) hz) (by decide) (by decide) (hts _ (List.mem_of_getElem? (i := 2) rfl)) (va_Nw.use rfl hE.k3) hce hcv hcl ?_
    refine lv_astore_n (lv' := [(2, .ref q9), (0, .ref (ad (429))), (1, .int (gT f r))]) hx hb dL_duration_11 rfl hl (by decide) rfl (fun ls hl => ?_)
    refine lv_sipush (v := (-30000)) hx hb dL_duration_12 (by decide) ?_
    exact W.iret (v := (-30000)) hx hb hr (fun T9 hT9 _ => ⟨vRet hWV.symm, by rw [hT9]; exact hP9, hS.F hT9⟩) hS.2.2 dL_duration_15
  · refine W.eq (g2 := F0 m 5 ls [.int (eD9 f n (gT f r))]) (by rw [hXn hthr]; rfl) ?_
    exact W.iret (v := eD9 f n (gT f r)) hx hb hr (fun T9 hT9 _ => ⟨rfl, by rw [hT9]; exact hP, hS.F hT9⟩) hS.2.2 dL_duration_5
theorem xw_trackByErrors {σ : Nat → Nat → Int32} {f : Nat → Int32} {B n t : Nat} {pi ro : Nat → Nat} (h : BR σ f B n t pi ro) : (∀ E9 r9, (f_xFound (fstI (P_tbe σ (nI t)) 6)) = some (E9, r9) → E9 = eNSE ∧ r9 = none ∧ (-30000 : Int32) = -30000) ∧ ((f_xFound (fstI (P_tbe σ (nI t)) 6)) = none → atO (fstI (P_tbe σ (nI t)) 6) 0 (fun k => σ (3 + k) 1) = (-30000 : Int32)) := by
  refine xw_no ?_ rfl
  rw [h.byErrors, te_no h.n30 h.t6]; rfl
set_option maxHeartbeats 4000000 in
set_option maxRecDepth 100000 in
theorem k_L_trackByErrors (l : Launch) (D : va_G) (ad : Nat → Nat) (cy : Nat → ClassId) (pm : Nat → Nat) (rj : Option Nat) (σ : Nat → Nat → Int32) (xq : Nat → Nat) (hst : l.stackTraces = false) (sz : Nat) (hi : sp_inj ad 459) {f : Nat → Int32} {B n t : Nat} {pi ro : Nat → Nat} (h : BR σ f B n t pi ro) : Met l yL_trackByErrors wsL_trackByErrors ({ frames := 7, cells := 1, slots := 6, locals := 150 } : Room) (sp_Pmx xq ad 459 D (tyG cy) sz [.ref (ad (429)), .int (nI t)] (cW ad cy pm rj σ)) (sp_Q D (some (.int ((-30000 : Int32)))) (cW ad cy (pm) (rj) (σ)) (sp_A ad 459 sz)) 1 6 (sp_A ad 459 sz) := by
  obtain ⟨hXe, hXn⟩ := xw_trackByErrors h 
  refine va_MetW (cc := cL_trackByErrors) (maxL := 3) (ret := (some .int)) (by decide) rfl ?_
  intro p e s m args below meth c s₁ B9 hml hv
  obtain ⟨rfl, hsz, hP, hK, hE⟩ := hv
  have hx := B9.exec
  have hb := B9.bytes
  have hr := B9.returns
  have hts := atoms_spec (ws := wsL_trackByErrors) B9.pre
  have hown : s.vm.findClass RL = some m.cls := findClass_of_methodNamed B9.named
  have ht := vx_table (x := yL_trackByErrors) B9 (hts _ (List.mem_of_getElem? (i := 0) rfl))
  subst hsz
  have hNC := hE.2.2.2.2.1.1
  have hS : va_S (sp_A ad 459 s.heap.size) s.heap s.heap [] := va_S.rf
  have hl := lv_entry ([.ref (ad (429)), .int (nI t)]) (n := 3) (Nat.le_of_ble_eq_true rfl)
  refine W.eq (lg_entry_eq _ ([.ref (ad (429)), .int (nI t)]) _) ?_
  generalize (lg_sl ([.ref (ad (429)), .int (nI t)]) ++ List.replicate (3 - (lg_sl ([.ref (ad (429)), .int (nI t)])).length) Slot.unset).toArray = ls at hl ⊢
  have hl : lv_has ls 3 [(0, .ref (ad (429))), (1, .int (nI t))] := hl
  refine lv_aload_n hx hb dL_trackByErrors_0 rfl (lv_at hl 0 rfl) ?_
  refine lv_iload_n hx hb dL_trackByErrors_1 rfl (lv_at hl 1 rfl) ?_
  refine sp_callx (vx_runV (As := [.int (nI t)]) (rest := []) ⟨hx, hb, hml, hown, hts⟩ (c_X9_trackByErrors l D ad cy pm rj σ xq hst _ hi (nI t)) (cwV 1 hts gL_trackByErrors_X9_trackByErrors rfl rfl rfl (by decide +kernel) ⟨Nat.le_of_ble_eq_true rfl, Nat.le_of_ble_eq_true rfl⟩) (sp_preVmx hK hP hE (κ := 429) (by decide) cE_sp rfl) rfl rfl hl.1 rfl (lv_room (Nat.le_of_ble_eq_true rfl)) dL_trackByErrors_2 ⟨Nat.le_of_ble_eq_true rfl, Nat.le_of_ble_eq_true rfl⟩) hS (fun q _ h => h) (fun q h => h) (fun E_x r_x ce q9 H locs hthr hB9 hle hfr hS hce hcv hcl => ?_) (fun hthr H locs hP hle hfr hS => ?_)
  · obtain ⟨rfl, rfl, hWV⟩ := hXe E_x r_x hthr
    obtain ⟨rj9, hP9, hN9⟩ := hB9
    have hN9 : rj9 = rj := hN9
    rw [hN9] at hP9
    refine vx_catch (name := "java/util/NoSuchElementException") hown ([]) (⟨0, 5, 6, 55⟩ : ExceptionTableEntry) (tableOf []) (by rw [ht]; rfl) (fun z hz => absurd hz List.not_mem_nil) (by decide) (by decide) (hts _ (List.mem_of_getElem? (i := 1) rfl)) (va_Nw.use rfl hE.k3) hce hcv hcl ?_
    refine lv_astore_n (lv' := [(2, .ref q9), (0, .ref (ad (429))), (1, .int (nI t))]) hx hb dL_trackByErrors_6 rfl hl (by decide) rfl (fun ls hl => ?_)
    refine lv_sipush (v := (-30000)) hx hb dL_trackByErrors_7 (by decide) ?_
    exact W.iret (v := (-30000)) hx hb hr (fun T9 hT9 _ => ⟨vRet hWV.symm, by rw [hT9]; exact hP9, hS.F hT9⟩) hS.2.2 dL_trackByErrors_10
  · refine W.eq (g2 := F0 m 5 ls [.int ((-30000 : Int32))]) (by rw [hXn hthr]; rfl) ?_
    exact W.iret (v := (-30000 : Int32)) hx hb hr (fun T9 hT9 _ => ⟨rfl, by rw [hT9]; exact hP, hS.F hT9⟩) hS.2.2 dL_trackByErrors_5
theorem xw_printByDoubts {σ : Nat → Nat → Int32} {f : Nat → Int32} {B n t : Nat} {pi ro : Nat → Nat} (h : BR σ f B n t pi ro) : (∀ E9 r9, (f_xFound (fstI (P_pbd σ (nI n)) 30)) = some (E9, r9) → E9 = eNSE ∧ r9 = none ∧ (-30000 : Int32) = -30000) ∧ ((f_xFound (fstI (P_pbd σ (nI n)) 30)) = none → atO (fstI (P_pbd σ (nI n)) 30) 0 (fun k => σ (9 + k) 1) = (-30000 : Int32)) := by
  refine xw_no ?_ rfl
  rw [h.byDoubts, pd_no h.vx h.n30]; rfl
set_option maxHeartbeats 4000000 in
set_option maxRecDepth 100000 in
theorem k_L_printByDoubts (l : Launch) (D : va_G) (ad : Nat → Nat) (cy : Nat → ClassId) (pm : Nat → Nat) (rj : Option Nat) (σ : Nat → Nat → Int32) (xq : Nat → Nat) (hst : l.stackTraces = false) (sz : Nat) (hi : sp_inj ad 459) {f : Nat → Int32} {B n t : Nat} {pi ro : Nat → Nat} (h : BR σ f B n t pi ro) : Met l yL_printByDoubts wsL_printByDoubts ({ frames := 7, cells := 1, slots := 6, locals := 115 } : Room) (sp_Pmx xq ad 459 D (tyG cy) sz [.ref (ad (429)), .int (nI n)] (cW ad cy pm rj σ)) (sp_Q D (some (.int ((-30000 : Int32)))) (cW ad cy (pm) (rj) (σ)) (sp_A ad 459 sz)) 1 6 (sp_A ad 459 sz) := by
  obtain ⟨hXe, hXn⟩ := xw_printByDoubts h 
  refine va_MetW (cc := cL_printByDoubts) (maxL := 3) (ret := (some .int)) (by decide) rfl ?_
  intro p e s m args below meth c s₁ B9 hml hv
  obtain ⟨rfl, hsz, hP, hK, hE⟩ := hv
  have hx := B9.exec
  have hb := B9.bytes
  have hr := B9.returns
  have hts := atoms_spec (ws := wsL_printByDoubts) B9.pre
  have hown : s.vm.findClass RL = some m.cls := findClass_of_methodNamed B9.named
  have ht := vx_table (x := yL_printByDoubts) B9 (hts _ (List.mem_of_getElem? (i := 0) rfl))
  subst hsz
  have hNC := hE.2.2.2.2.1.1
  have hS : va_S (sp_A ad 459 s.heap.size) s.heap s.heap [] := va_S.rf
  have hl := lv_entry ([.ref (ad (429)), .int (nI n)]) (n := 3) (Nat.le_of_ble_eq_true rfl)
  refine W.eq (lg_entry_eq _ ([.ref (ad (429)), .int (nI n)]) _) ?_
  generalize (lg_sl ([.ref (ad (429)), .int (nI n)]) ++ List.replicate (3 - (lg_sl ([.ref (ad (429)), .int (nI n)])).length) Slot.unset).toArray = ls at hl ⊢
  have hl : lv_has ls 3 [(0, .ref (ad (429))), (1, .int (nI n))] := hl
  refine lv_aload_n hx hb dL_printByDoubts_0 rfl (lv_at hl 0 rfl) ?_
  refine lv_iload_n hx hb dL_printByDoubts_1 rfl (lv_at hl 1 rfl) ?_
  refine sp_callx (vx_runV (As := [.int (nI n)]) (rest := []) ⟨hx, hb, hml, hown, hts⟩ (c_X9_printByDoubts l D ad cy pm rj σ xq hst _ hi (nI n)) (cwV 1 hts gL_printByDoubts_X9_printByDoubts rfl rfl rfl (by decide +kernel) ⟨Nat.le_of_ble_eq_true rfl, Nat.le_of_ble_eq_true rfl⟩) (sp_preVmx hK hP hE (κ := 429) (by decide) cE_sp rfl) rfl rfl hl.1 rfl (lv_room (Nat.le_of_ble_eq_true rfl)) dL_printByDoubts_2 ⟨Nat.le_of_ble_eq_true rfl, Nat.le_of_ble_eq_true rfl⟩) hS (fun q _ h => h) (fun q h => h) (fun E_x r_x ce q9 H locs hthr hB9 hle hfr hS hce hcv hcl => ?_) (fun hthr H locs hP hle hfr hS => ?_)
  · obtain ⟨rfl, rfl, hWV⟩ := hXe E_x r_x hthr
    obtain ⟨rj9, hP9, hN9⟩ := hB9
    have hN9 : rj9 = rj := hN9
    rw [hN9] at hP9
    refine vx_catch (name := "java/util/NoSuchElementException") hown ([]) (⟨0, 5, 6, 55⟩ : ExceptionTableEntry) (tableOf []) (by rw [ht]; rfl) (fun z hz => absurd hz List.not_mem_nil) (by decide) (by decide) (hts _ (List.mem_of_getElem? (i := 1) rfl)) (va_Nw.use rfl hE.k3) hce hcv hcl ?_
    refine lv_astore_n (lv' := [(2, .ref q9), (0, .ref (ad (429))), (1, .int (nI n))]) hx hb dL_printByDoubts_6 rfl hl (by decide) rfl (fun ls hl => ?_)
    refine lv_sipush (v := (-30000)) hx hb dL_printByDoubts_7 (by decide) ?_
    exact W.iret (v := (-30000)) hx hb hr (fun T9 hT9 _ => ⟨vRet hWV.symm, by rw [hT9]; exact hP9, hS.F hT9⟩) hS.2.2 dL_printByDoubts_10
  · refine W.eq (g2 := F0 m 5 ls [.int ((-30000 : Int32))]) (by rw [hXn hthr]; rfl) ?_
    exact W.iret (v := (-30000 : Int32)) hx hb hr (fun T9 hT9 _ => ⟨rfl, by rw [hT9]; exact hP, hS.F hT9⟩) hS.2.2 dL_printByDoubts_5
theorem xw_printIn {σ : Nat → Nat → Int32} {f : Nat → Int32} {B n t : Nat} {pi ro : Nat → Nat} (h : BR σ f B n t pi ro) (hB : B < 1000000) {r c1 : Nat} (hr1 : r < 10) (hc1 : c1 < 20) : (∀ E9 r9, ((f_xCell (nI r) (nI c1)).or (f_xFound (f_inCell σ (nI r) (nI c1)))) = some (E9, r9) → E9 = eNSE ∧ r9 = none ∧ eI f n r c1 = -30000) ∧ (((f_xCell (nI r) (nI c1)).or (f_xFound (f_inCell σ (nI r) (nI c1)))) = none → atO (f_inCell σ (nI r) (nI c1)) 0 (fun k => σ (9 + k) 1) = eI f n r c1) := by
  refine xw_of (o := m_cell f n (nI r) (nI c1)) (φ := pi) (G := fun k => gP f k 0) ?_ rfl (fun j e => ?_)
  · rw [xc_no (cell_in hr1 hc1), h.cell hB]; rfl
  · rw [h.cell hB, e]
    exact (h.pe (m_cell_lt e)).1.symm
set_option maxHeartbeats 4000000 in
set_option maxRecDepth 100000 in
theorem k_L_printIn (l : Launch) (D : va_G) (ad : Nat → Nat) (cy : Nat → ClassId) (pm : Nat → Nat) (rj : Option Nat) (σ : Nat → Nat → Int32) (xq : Nat → Nat) (hst : l.stackTraces = false) (sz : Nat) (hi : sp_inj ad 459) {f : Nat → Int32} {B n t : Nat} {pi ro : Nat → Nat} (h : BR σ f B n t pi ro) (hB : B < 1000000) {r c1 : Nat} (hr1 : r < 10) (hc1 : c1 < 20) : Met l yL_printIn wsL_printIn ({ frames := 8, cells := 2, slots := 12, locals := 133 } : Room) (sp_Pmx xq ad 459 D (tyG cy) sz [.ref (ad (429)), .int (nI r), .int (nI c1)] (cW ad cy pm rj σ)) (sp_Q D (some (.int (eI f n r c1))) (cW ad cy (pm) (rj) (σ)) (sp_A ad 459 sz)) 2 12 (sp_A ad 459 sz) := by
  obtain ⟨hXe, hXn⟩ := xw_printIn h hB hr1 hc1
  refine va_MetW (cc := cL_printIn) (maxL := 4) (ret := (some .int)) (by decide) rfl ?_
  intro p e s m args below meth c s₁ B9 hml hv
  obtain ⟨rfl, hsz, hP, hK, hE⟩ := hv
  have hx := B9.exec
  have hb := B9.bytes
  have hr := B9.returns
  have hts := atoms_spec (ws := wsL_printIn) B9.pre
  have hown : s.vm.findClass RL = some m.cls := findClass_of_methodNamed B9.named
  have ht := vx_table (x := yL_printIn) B9 (hts _ (List.mem_of_getElem? (i := 0) rfl))
  subst hsz
  have hNC := hE.2.2.2.2.1.1
  have hS : va_S (sp_A ad 459 s.heap.size) s.heap s.heap [] := va_S.rf
  have hl := lv_entry ([.ref (ad (429)), .int (nI r), .int (nI c1)]) (n := 4) (Nat.le_of_ble_eq_true rfl)
  refine W.eq (lg_entry_eq _ ([.ref (ad (429)), .int (nI r), .int (nI c1)]) _) ?_
  generalize (lg_sl ([.ref (ad (429)), .int (nI r), .int (nI c1)]) ++ List.replicate (4 - (lg_sl ([.ref (ad (429)), .int (nI r), .int (nI c1)])).length) Slot.unset).toArray = ls at hl ⊢
  have hl : lv_has ls 4 [(0, .ref (ad (429))), (1, .int (nI r)), (2, .int (nI c1))] := hl
  refine lv_aload_n hx hb dL_printIn_0 rfl (lv_at hl 0 rfl) ?_
  refine lv_iload_n hx hb dL_printIn_1 rfl (lv_at hl 1 rfl) ?_
  refine lv_iload_n hx hb dL_printIn_2 rfl (lv_at hl 2 rfl) ?_
  refine sp_callx (vx_runV (As := [.int (nI r), .int (nI c1)]) (rest := []) ⟨hx, hb, hml, hown, hts⟩ (c_X9_printIn l D ad cy pm rj σ xq hst _ hi (nI r) (nI c1)) (cwV 2 hts gL_printIn_X9_printIn rfl rfl rfl (by decide +kernel) ⟨Nat.le_of_ble_eq_true rfl, Nat.le_of_ble_eq_true rfl⟩) (sp_preVmx hK hP hE (κ := 429) (by decide) cE_sp rfl) rfl rfl hl.1 rfl (lv_room (Nat.le_of_ble_eq_true rfl)) dL_printIn_3 ⟨Nat.le_of_ble_eq_true rfl, Nat.le_of_ble_eq_true rfl⟩) hS (fun q _ h => h) (fun q h => h) (fun E_x r_x ce q9 H locs hthr hB9 hle hfr hS hce hcv hcl => ?_) (fun hthr H locs hP hle hfr hS => ?_)
  · obtain ⟨rfl, rfl, hWV⟩ := hXe E_x r_x hthr
    obtain ⟨rj9, hP9, hN9⟩ := hB9
    have hN9 : rj9 = rj := hN9
    rw [hN9] at hP9
    refine vx_catch (name := "java/util/NoSuchElementException") hown (tableOf [(0, 6, 7, 30)]) (⟨0, 6, 12, 55⟩ : ExceptionTableEntry) (tableOf []) (by rw [ht]; rfl) (fun z hz => ((fun h9 => (List.mem_cons.mp h9).elim (fun e9 => by (subst e9; exact Or.inr ⟨by decide, "java/lang/IndexOutOfBoundsException", hts _ (List.mem_of_getElem? (i := 1) rfl), hNC _ _ (by decide +kernel) (by decide +kernel) (by decide +kernel)⟩)) (fun h9 => absurd h9 List.not_mem_nil)) : z ∈ tableOf [(0, 6, 7, 30)] → covers z 3 = false ∨ (z.catchType ≠ 0 ∧ ∃ nm : String, (Cond.classLink RL z.catchType nm).before _ s = true ∧ va_Nc eNSE nm s)) hz) (by decide) (by decide) (hts _ (List.mem_of_getElem? (i := 2) rfl)) (va_Nw.use rfl hE.k3) hce hcv hcl ?_
    refine lv_astore_n (lv' := [(3, .ref q9), (0, .ref (ad (429))), (1, .int (nI r)), (2, .int (nI c1))]) hx hb dL_printIn_12 rfl hl (by decide) rfl (fun ls hl => ?_)
    refine lv_sipush (v := (-30000)) hx hb dL_printIn_13 (by decide) ?_
    exact W.iret (v := (-30000)) hx hb hr (fun T9 hT9 _ => ⟨vRet hWV.symm, by rw [hT9]; exact hP9, hS.F hT9⟩) hS.2.2 dL_printIn_16
  · refine W.eq (g2 := F0 m 6 ls [.int (eI f n r c1)]) (by rw [hXn hthr]; rfl) ?_
    exact W.iret (v := eI f n r c1) hx hb hr (fun T9 hT9 _ => ⟨rfl, by rw [hT9]; exact hP, hS.F hT9⟩) hS.2.2 dL_printIn_6
