/-! THE LAW'S WRAPPERS THAT CHANGE -/
/-- the state is one that the reference could be in -/
def GS (B : Nat) (σ : Nat → Nat → Int32) (pm : Nat → Nat) : Prop := ∃ (rc : Option RC) (μ : Nat → Nat → Int32), RR B σ pm rc μ
theorem RR.mono {B B' : Nat} {σ μ : Nat → Nat → Int32} {pm : Nat → Nat} {rc : Option RC} (h : RR B σ pm rc μ) (hB : B ≤ B') (hB2 : B' < 1000000) : RR B' σ pm rc μ := h.cong B' hB hB2 (fun _ _ => rfl) (fun _ _ _ _ _ _ => rfl) h.2.2.2.1
section GSS
variable {B : Nat} {σ : Nat → Nat → Int32} {pm : Nat → Nat}
theorem GS.mono {B' : Nat} (h : GS B σ pm) (hB : B ≤ B') (hB2 : B' < 1000000) : GS B' σ pm := by
  obtain ⟨rc, μ, h⟩ := h
  exact ⟨rc, μ, h.mono hB hB2⟩
theorem GS.hpm (h : GS B σ pm) : ∀ j, j < 8 → 1 ≤ pm j ∧ pm j ≤ 8 := by
  obtain ⟨rc, μ, h⟩ := h
  exact h.2.1.2.1
theorem GS.be (h : GS B σ pm) : ∃ (f : Nat → Int32) (n t : Nat) (pi ro : Nat → Nat), BR σ f B n t pi ro := by
  obtain ⟨rc, μ, h⟩ := h
  obtain ⟨n, t, pi, ro, hb⟩ := h.1
  exact ⟨μ 1, n, t, pi, ro, hb⟩

theorem GS.addTrack (h : GS B σ pm) (hB : B + 1 < 1000000) (z : Int32) (hx : ((f_xIn (f_in 1 9 z)).or (f_xRej (f_objTrack σ))) = none) : GS (B + 1) (f_putT (f_push σ pm 0) z) (pm_push pm) := by
  obtain ⟨rc, μ, h⟩ := h
  obtain ⟨n9, t9, pi9, ro9, hbr⟩ := h.1
  obtain ⟨⟨ch, hc8, hch, -⟩, -, -⟩ := h.2.1
  exact ⟨rc, _, ((ch_addTrack h hbr hch hc8 hB z).2.1 hx).2⟩
theorem GS.removeTrack (h : GS B σ pm) (hB : B + 1 < 1000000) (id : Int32) (hx : (f_xTrack σ id) = none) : GS (B + 1) (atO (f_findTrack σ id) (f_push σ pm 0) (fun k => sp_st (f_dropP (f_push σ pm 0) ((f_push σ pm 0) (3 + k) 1) 30) (3 + k) 0 0)) (pm_push pm) := by
  obtain ⟨rc, μ, h⟩ := h
  obtain ⟨n9, t9, pi9, ro9, hbr⟩ := h.1
  obtain ⟨⟨ch, hc8, hch, -⟩, -, -⟩ := h.2.1
  exact ⟨rc, _, ((ch_removeTrack h hbr hch hc8 hB id).2.1 hx).2⟩
theorem GS.addPrint (h : GS B σ pm) (hB : B + 1 < 1000000) (t : Int32) (u : Int32) (r : Int32) (c1 : Int32) (lf : Bool) (z : Int32) (hx : ((f_xTrack σ t).or ((f_xCell r c1).or ((f_xIn (f_in 0 999 u && f_in 1 9 z)).or (f_xRej (f_objPrint σ t u r c1))))) = none) : GS (B + 1) (f_putP (f_push σ pm 0) t u r c1 lf z) (pm_push pm) := by
  obtain ⟨rc, μ, h⟩ := h
  obtain ⟨n9, t9, pi9, ro9, hbr⟩ := h.1
  obtain ⟨⟨ch, hc8, hch, -⟩, -, -⟩ := h.2.1
  exact ⟨rc, _, ((ch_addPrint h hbr hch hc8 hB t u r c1 z lf).2.1 hx).2⟩
theorem GS.removePrint (h : GS B σ pm) (hB : B + 1 < 1000000) (id : Int32) (hx : (f_xPrint σ id) = none) : GS (B + 1) (atO (f_findPrint σ id) (f_push σ pm 0) (fun k => sp_st (f_push σ pm 0) (9 + k) 0 0)) (pm_push pm) := by
  obtain ⟨rc, μ, h⟩ := h
  obtain ⟨n9, t9, pi9, ro9, hbr⟩ := h.1
  obtain ⟨⟨ch, hc8, hch, -⟩, -, -⟩ := h.2.1
  exact ⟨rc, _, ((ch_removePrint h hbr hch hc8 hB id).2.1 hx).2⟩
theorem GS.correctHeel (h : GS B σ pm) (hB : B + 1 < 1000000) (id : Int32) (r : Int32) (c1 : Int32) (hx : ((f_xPrint σ id).or ((f_xCell r c1).or (atO (f_findPrint σ id) none (fun k => f_xRej (f_objMove σ k r c1))))) = none) : GS (B + 1) (atO (f_findPrint σ id) (f_push σ pm 0) (fun k => sp_st (sp_st (sp_st (f_push σ pm 0) (9 + k) 4 r) (9 + k) 5 c1) 0 6 ((f_push σ pm 0) 0 6 + 1))) (pm_push pm) := by
  obtain ⟨rc, μ, h⟩ := h
  obtain ⟨n9, t9, pi9, ro9, hbr⟩ := h.1
  obtain ⟨⟨ch, hc8, hch, -⟩, -, -⟩ := h.2.1
  exact ⟨rc, _, ((ch_heel h hbr hch hc8 hB id r c1).2.1 hx).2⟩
theorem GS.doubtToes (h : GS B σ pm) (hB : B + 1 < 1000000) (id : Int32) (hx : ((f_xPrint σ id).or (atO (f_findPrint σ id) none (fun k => f_xRej (f_objDoubt σ k)))) = none) : GS (B + 1) (atO (f_findPrint σ id) (f_push σ pm 0) (fun k => sp_st (f_push σ pm 0) (9 + k) 8 ((f_push σ pm 0) (9 + k) 8 + 1))) (pm_push pm) := by
  obtain ⟨rc, μ, h⟩ := h
  obtain ⟨n9, t9, pi9, ro9, hbr⟩ := h.1
  obtain ⟨⟨ch, hc8, hch, -⟩, -, -⟩ := h.2.1
  exact ⟨rc, _, ((ch_doubt h hbr hch hc8 hB id).2.1 hx).2⟩
theorem GS.confirmToes (h : GS B σ pm) (hB : B + 1 < 1000000) (id : Int32) (hx : ((f_xPrint σ id).or (atO (f_findPrint σ id) none (fun k => f_xRej (f_objConf σ k)))) = none) : GS (B + 1) (atO (f_findPrint σ id) (f_push σ pm 0) (fun k => sp_st (f_push σ pm 0) (9 + k) 8 0)) (pm_push pm) := by
  obtain ⟨rc, μ, h⟩ := h
  obtain ⟨n9, t9, pi9, ro9, hbr⟩ := h.1
  obtain ⟨⟨ch, hc8, hch, -⟩, -, -⟩ := h.2.1
  exact ⟨rc, _, ((ch_conf h hbr hch hc8 hB id).2.1 hx).2⟩
theorem GS.setTide (h : GS B σ pm) (hB : B + 1 < 1000000) (v : Int32) (hx : ((f_xLevel v).or (f_xRej (f_objTide σ v))) = none) : GS (B + 1) (f_tide (f_push σ pm 0) v) (pm_push pm) := by
  obtain ⟨rc, μ, h⟩ := h
  obtain ⟨n9, t9, pi9, ro9, hbr⟩ := h.1
  obtain ⟨⟨ch, hc8, hch, -⟩, -, -⟩ := h.2.1
  exact ⟨rc, _, ((ch_tide h hbr hch hc8 hB v).2.1 hx).2⟩
theorem GS.swapFoot (h : GS B σ pm) (hB : B + 1 < 1000000) (id : Int32) (hx : (f_xPrint σ id) = none) : GS (B + 1) (atO (f_findPrint σ id) (f_push σ pm 0) (fun k => sp_st (f_push σ pm 0) (9 + k) 6 (b2i ((f_push σ pm 0) (9 + k) 6 == 0)))) (pm_push pm) := by
  obtain ⟨rc, μ, h⟩ := h
  obtain ⟨n9, t9, pi9, ro9, hbr⟩ := h.1
  obtain ⟨⟨ch, hc8, hch, -⟩, -, -⟩ := h.2.1
  exact ⟨rc, _, ((ch_swap h hbr hch hc8 hB id).2.1 hx).2⟩
end GSS
/-- an end that leaves some state of that kind -/
abbrev lQ (D : va_G) (ad : Nat → Nat) (cy : Nat → ClassId) (B : Nat) (A : Nat → Prop) : Array Value → State → Outcome → State → Prop := tQ (fun r H9 => ∃ (v : Int32) (pm1 : Nat → Nat) (rj1 : Option Nat) (σ1 : Nat → Nat → Int32), r = some (.int v) ∧ GS B σ1 pm1 ∧ va_P D vwCl (cW ad cy pm1 rj1 σ1) H9) A
/-- a rejection is kept -/
def XJ (x : XO) : Prop := ∀ r, x = some (eUOE, r) → ∃ y : RC, r = some y
theorem XJ.or {x y : XO} (h : XJ x) (h2 : XJ y) : XJ (x.or y) := fun r e => by
  rcases x with _ | z
  · exact h2 r e
  · exact h r e
theorem XJ.at {o : Option Nat} {F : Nat → XO} (h : ∀ k, XJ (F k)) : XJ (atO o none F) := fun r e => by
  rcases o with _ | k
  · cases e
  · exact h k r e
theorem XJ.no : XJ none := fun _ e => by cases e
theorem XJ.of {E : String} {r : Option RC} (h : E ≠ eUOE) : XJ (some (E, r)) := fun _ e => by
  simp only [Option.some.injEq, Prod.mk.injEq] at e
  exact absurd e.1 h
theorem XJ.ite {p : Prop} [Decidable p] {x y : XO} (h : XJ x) (h2 : XJ y) : XJ (if p then x else y) := by
  by_cases q : p
  · rw [if_pos q]; exact h
  · rw [if_neg q]; exact h2
theorem XJ.fi {b : Bool} : XJ (f_xIn b) := XJ.ite XJ.no (XJ.of (by decide +kernel))
theorem XJ.fl {v : Int32} : XJ (f_xLevel v) := XJ.ite XJ.no (XJ.of (by decide +kernel))
theorem XJ.fc {r c1 : Int32} : XJ (f_xCell r c1) := XJ.ite XJ.no (XJ.of (by decide +kernel))
theorem XJ.ft {σ : Nat → Nat → Int32} {i : Int32} : XJ (f_xTrack σ i) := by
  unfold f_xTrack f_xNo
  split
  · exact XJ.of (by decide +kernel)
  · exact XJ.no
theorem XJ.fp {σ : Nat → Nat → Int32} {i : Int32} : XJ (f_xPrint σ i) := by
  unfold f_xPrint f_xNo
  split
  · exact XJ.of (by decide +kernel)
  · exact XJ.no
theorem XJ.fj {o : Option (Int32 × Int32)} : XJ (f_xRej o) := fun r e => by
  rcases o with _ | y
  · cases e
  · have e9 : (some (eUOE, some (y.1, y.2, none)) : XO) = some (eUOE, r) := e
    simp only [Option.some.injEq, Prod.mk.injEq] at e9
    exact ⟨_, e9.2.symm⟩
/-- the exceptions that a call may throw -/
def XI (L : List String) (x : XO) : Prop := ∀ E r, x = some (E, r) → E ∈ L
section XIS
variable {L : List String} {x y : XO}
theorem XI.or (h : XI L x) (h2 : XI L y) : XI L (x.or y) := fun E r e => by
  rcases x with _ | z
  · exact h2 E r e
  · exact h E r e
theorem XI.at {o : Option Nat} {F : Nat → XO} (h : ∀ k, XI L (F k)) : XI L (atO o none F) := fun E r e => by
  rcases o with _ | k
  · cases e
  · exact h k E r e
theorem XI.no : XI L none := fun _ _ e => by cases e
theorem XI.of {E : String} {r : Option RC} (h : E ∈ L) : XI L (some (E, r)) := fun _ _ e => by (cases e; exact h)
theorem XI.ite {p : Prop} [Decidable p] (h : XI L x) (h2 : XI L y) : XI L (if p then x else y) := by
  by_cases q : p
  · rw [if_pos q]; exact h
  · rw [if_neg q]; exact h2
theorem XI.fi {b : Bool} (h : eIAE ∈ L) : XI L (f_xIn b) := XI.ite XI.no (XI.of h)
theorem XI.fj {o : Option (Int32 × Int32)} (h : eUOE ∈ L) : XI L (f_xRej o) := by
  rcases o with _ | y
  · exact XI.no
  · exact XI.of h
theorem XI.ft {σ : Nat → Nat → Int32} {i : Int32} (h : eIOO ∈ L) : XI L (f_xTrack σ i) := by
  unfold f_xTrack f_xNo
  split
  · exact XI.of h
  · exact XI.no
theorem XI.fp {σ : Nat → Nat → Int32} {i : Int32} (h : eIOO ∈ L) : XI L (f_xPrint σ i) := by
  unfold f_xPrint f_xNo
  split
  · exact XI.of h
  · exact XI.no
theorem XI.fc {r c1 : Int32} (h : eIOO ∈ L) : XI L (f_xCell r c1) := XI.ite XI.no (XI.of h)
theorem XI.fl {v : Int32} (h : eIAE ∈ L) : XI L (f_xLevel v) := XI.ite XI.no (XI.of h)
end XIS
theorem sp_blindPr {q ad : Nat → Nat} {K : Nat} {D : va_G} {tys : List (ClassId × FieldType)} {sz : Nat} {av : List Value} {ws : va_W} {rj : Option Nat} {rc : Option RC} : FrameBlind (sp_Pr D rj rc (sp_Pmx q ad K D tys sz av ws)) := fun a U g mk z => ⟨sp_blindmx a U g mk z.1, z.2⟩
set_option maxHeartbeats 4000000 in
set_option maxRecDepth 100000 in
theorem k_L_addTrack (l : Launch) (D : va_G) (ad : Nat → Nat) (cy : Nat → ClassId) (pm : Nat → Nat) (rj : Option Nat) (σ : Nat → Nat → Int32) (xq : Nat → Nat) (hst : l.stackTraces = false) (sz : Nat) (hi : sp_inj ad 459) {B : Nat} (hG : GS B σ pm) (hB : B + 1 < 1000000) (z : Int32) : Met l yL_addTrack wsL_addTrack ({ frames := 8, cells := 3, slots := 15, locals := 132 } : Room) (sp_Pmx xq ad 459 D (tyG cy) sz [.ref (ad (429)), .int (z)] (cW ad cy pm rj σ)) (lQ D ad cy (B + 1) (sp_A ad 459 sz)) 3 15 (sp_A ad 459 sz) := by
  have hpm := hG.hpm
  have hXI : XI [eIAE, eUOE] ((f_xIn (f_in 1 9 z)).or (f_xRej (f_objTrack σ))) := XI.or (XI.fi List.mem_cons_self) (XI.fj (List.mem_cons_of_mem _ List.mem_cons_self))
  have hXJ : XJ ((f_xIn (f_in 1 9 z)).or (f_xRej (f_objTrack σ))) := XJ.or (XJ.fi) (XJ.fj)
  refine va_MetW (cc := cL_addTrack) (maxL := 3) (ret := (some .int)) (by decide) rfl ?_
  intro p e s m args below meth c s₁ B9 hml hv
  obtain ⟨rfl, hsz, hP, hK, hE⟩ := hv
  have hx := B9.exec
  have hb := B9.bytes
  have hr := B9.returns
  have hts := atoms_spec (ws := wsL_addTrack) B9.pre
  have hown : s.vm.findClass RL = some m.cls := findClass_of_methodNamed B9.named
  have ht := vx_table (x := yL_addTrack) B9 (hts _ (List.mem_of_getElem? (i := 0) rfl))
  subst hsz
  have hNC := hE.2.2.2.2.1.1
  have hS : va_S (sp_A ad 459 s.heap.size) s.heap s.heap [] := va_S.rf
  have hl := lv_entry ([.ref (ad (429)), .int (z)]) (n := 3) (Nat.le_of_ble_eq_true rfl)
  refine W.eq (lg_entry_eq _ ([.ref (ad (429)), .int (z)]) _) ?_
  generalize (lg_sl ([.ref (ad (429)), .int (z)]) ++ List.replicate (3 - (lg_sl ([.ref (ad (429)), .int (z)])).length) Slot.unset).toArray = ls at hl ⊢
  have hl : lv_has ls 3 [(0, .ref (ad (429))), (1, .int (z))] := hl
  refine lv_aload_n hx hb dL_addTrack_0 rfl (lv_at hl 0 rfl) ?_
  refine lv_iload_n hx hb dL_addTrack_1 rfl (lv_at hl 1 rfl) ?_
  refine sp_callx (vx_runV (As := [.int (z)]) (rest := []) ⟨hx, hb, hml, hown, hts⟩ (c_X9_addTrack l D ad cy pm rj σ xq hst _ hi z hpm) (cwV 1 hts gL_addTrack_X9_addTrack rfl rfl rfl (by decide +kernel) ⟨Nat.le_of_ble_eq_true rfl, Nat.le_of_ble_eq_true rfl⟩) (sp_preVmx hK hP hE (κ := 429) (by decide) cE_sp rfl) rfl rfl hl.1 rfl (lv_room (Nat.le_of_ble_eq_true rfl)) dL_addTrack_2 ⟨Nat.le_of_ble_eq_true rfl, Nat.le_of_ble_eq_true rfl⟩) hS (fun q _ h => h) (fun q h => h) (fun E_x r_x ce q9 H locs hthr hB9 hle hfr hS hce hcv hcl => ?_) (fun hthr H locs hP hle hfr hS => ?_)
  · have hmem := hXI E_x r_x hthr
    obtain ⟨rj9, hP, hN9⟩ := hB9
    rcases List.mem_cons.mp hmem with rfl | hmem
    · skip
      refine vx_catch (name := "java/lang/IllegalArgumentException") hown ([]) (⟨0, 5, 6, 19⟩ : ExceptionTableEntry) (tableOf [(0, 5, 11, 21)]) (by rw [ht]; rfl) (fun z hz => absurd hz List.not_mem_nil) (by decide) (by decide) (hts _ (List.mem_of_getElem? (i := 1) rfl)) (va_Nw.use rfl hE.k1) hce hcv hcl ?_
      refine lv_astore_n (lv' := [(2, .ref q9), (0, .ref (ad (429))), (1, .int (z))]) hx hb dL_addTrack_6 rfl hl (by decide) rfl (fun ls hl => ?_)
      refine lv_sipush (v := (-20000)) hx hb dL_addTrack_7 (by decide) ?_
      refine W.widen (k := 3) (n := 15) (by omega) (by omega) ?_
      exact W.iret (v := (-20000)) hx hb hr (fun T9 hT9 _ => ⟨_, rfl, ⟨(-20000), pm, rj9, σ, rfl, hG.mono (Nat.le_succ _) hB, by rw [hT9]; exact hP⟩, hS.F hT9⟩) hS.2.2 dL_addTrack_10
    · skip
      obtain rfl := List.mem_singleton.mp hmem
      refine vx_catch (name := "java/lang/UnsupportedOperationException") hown (tableOf [(0, 5, 6, 19)]) (⟨0, 5, 11, 21⟩ : ExceptionTableEntry) (tableOf []) (by rw [ht]; rfl) (fun z hz => ((fun h9 => (List.mem_cons.mp h9).elim (fun e9 => by (subst e9; exact Or.inr ⟨by decide, "java/lang/IllegalArgumentException", hts _ (List.mem_of_getElem? (i := 1) rfl), hNC _ _ (by decide +kernel) (by decide +kernel) (by decide +kernel)⟩)) (fun h9 => absurd h9 List.not_mem_nil)) : z ∈ tableOf [(0, 5, 6, 19)] → covers z 2 = false ∨ (z.catchType ≠ 0 ∧ ∃ nm : String, (Cond.classLink RL z.catchType nm).before _ s = true ∧ va_Nc eUOE nm s)) hz) (by decide) (by decide) (hts _ (List.mem_of_getElem? (i := 2) rfl)) (va_Nw.use rfl hE.k2) hce hcv hcl ?_
      refine lv_astore_n (lv' := [(2, .ref q9), (0, .ref (ad (429))), (1, .int (z))]) hx hb dL_addTrack_11 rfl hl (by decide) rfl (fun ls hl => ?_)
      refine lv_sipush (v := (-10000)) hx hb dL_addTrack_12 (by decide) ?_
      obtain ⟨y9, rfl⟩ := hXJ r_x hthr
      have hN0 := hN9.mono (Nat.zero_le _)
      have hN1 : sp_N D 0 none rj9 (some y9) H := hN0
      refine lv_aload_n hx hb dL_addTrack_15 rfl (lv_at hl 1 rfl) ?_
      refine sp_callm (va_runV (As := []) (rest := [.int (-10000)]) ⟨hx, hb, hml, hown, hts⟩ (vx_quiet (c_X9_rejectionReason l D ad cy pm rj9 σ xq hst (some y9) _ hi) rfl) (cwV 0 hts gL_addTrack_X9_rejectionReason rfl rfl rfl (by decide +kernel) ⟨Nat.le_of_ble_eq_true rfl, Nat.le_of_ble_eq_true rfl⟩) ⟨sp_blindPr, va_recv hK hP (ci := 12) (q := (RX9, TX9, 10)) rfl (q0 := 429) (fs := oF ad rj9 (σ 429)) (a := ad 429) (by rw [sp_W_at (by decide), cE_sp]), fun U hU hW => ⟨⟨rfl, by rw [hU], by rw [hU]; exact hP, va_K.moved hW.alike hK, by rw [hU]; exact (hE.go hS).warm hW⟩, by rw [hU]; exact hN1⟩⟩ rfl rfl hl.1 rfl (lv_room (Nat.le_of_ble_eq_true rfl)) dL_addTrack_16 ⟨Nat.le_of_ble_eq_true rfl, Nat.le_of_ble_eq_true rfl⟩) hS (fun q h1 h2 => sp_Alt h1 h2) (sp_Ale hS.1) (fun H locs hP hle hfr hS => ?_)
      refine W.eq (g2 := F0 m 19 ls [.int (f_rjR (some y9)), .int (-10000)]) rfl ?_
      refine lv_isub hx hb dL_addTrack_19 ?_
      exact W.iret (v := (-10000) - f_rjR (some y9)) hx hb hr (fun T9 hT9 _ => ⟨_, rfl, ⟨_, pm, rj9, σ, rfl, hG.mono (Nat.le_succ _) hB, by rw [hT9]; exact hP⟩, hS.F hT9⟩) hS.2.2 dL_addTrack_20
  · refine W.widen (k := 3) (n := 15) (by omega) (by omega) ?_
    exact W.iret (v := (f_putTv (f_push σ pm 0))) hx hb hr (fun T9 hT9 _ => ⟨_, rfl, ⟨_, pm_push pm, rj, _, rfl, hG.addTrack hB z hthr, by rw [hT9]; exact hP⟩, hS.F hT9⟩) hS.2.2 dL_addTrack_5
set_option maxHeartbeats 4000000 in
set_option maxRecDepth 100000 in
theorem k_L_removeTrack (l : Launch) (D : va_G) (ad : Nat → Nat) (cy : Nat → ClassId) (pm : Nat → Nat) (rj : Option Nat) (σ : Nat → Nat → Int32) (xq : Nat → Nat) (hst : l.stackTraces = false) (sz : Nat) (hi : sp_inj ad 459) {B : Nat} (hG : GS B σ pm) (hB : B + 1 < 1000000) (id : Int32) : Met l yL_removeTrack wsL_removeTrack ({ frames := 8, cells := 1, slots := 6, locals := 134 } : Room) (sp_Pmx xq ad 459 D (tyG cy) sz [.ref (ad (429)), .int (id)] (cW ad cy pm rj σ)) (lQ D ad cy (B + 1) (sp_A ad 459 sz)) 1 6 (sp_A ad 459 sz) := by
  have hpm := hG.hpm
  have hXI : XI [eIOO] (f_xTrack σ id) := XI.ft List.mem_cons_self
  refine va_MetW (cc := cL_removeTrack) (maxL := 3) (ret := (some .int)) (by decide) rfl ?_
  intro p e s m args below meth c s₁ B9 hml hv
  obtain ⟨rfl, hsz, hP, hK, hE⟩ := hv
  have hx := B9.exec
  have hb := B9.bytes
  have hr := B9.returns
  have hts := atoms_spec (ws := wsL_removeTrack) B9.pre
  have hown : s.vm.findClass RL = some m.cls := findClass_of_methodNamed B9.named
  have ht := vx_table (x := yL_removeTrack) B9 (hts _ (List.mem_of_getElem? (i := 0) rfl))
  subst hsz
  have hNC := hE.2.2.2.2.1.1
  have hS : va_S (sp_A ad 459 s.heap.size) s.heap s.heap [] := va_S.rf
  have hl := lv_entry ([.ref (ad (429)), .int (id)]) (n := 3) (Nat.le_of_ble_eq_true rfl)
  refine W.eq (lg_entry_eq _ ([.ref (ad (429)), .int (id)]) _) ?_
  generalize (lg_sl ([.ref (ad (429)), .int (id)]) ++ List.replicate (3 - (lg_sl ([.ref (ad (429)), .int (id)])).length) Slot.unset).toArray = ls at hl ⊢
  have hl : lv_has ls 3 [(0, .ref (ad (429))), (1, .int (id))] := hl
  refine lv_aload_n hx hb dL_removeTrack_0 rfl (lv_at hl 0 rfl) ?_
  refine lv_iload_n hx hb dL_removeTrack_1 rfl (lv_at hl 1 rfl) ?_
  refine sp_callx (vx_runV (As := [.int (id)]) (rest := []) ⟨hx, hb, hml, hown, hts⟩ (c_X9_removeTrack l D ad cy pm rj σ xq hst _ hi id hpm) (cwV 1 hts gL_removeTrack_X9_removeTrack rfl rfl rfl (by decide +kernel) ⟨Nat.le_of_ble_eq_true rfl, Nat.le_of_ble_eq_true rfl⟩) (sp_preVmx hK hP hE (κ := 429) (by decide) cE_sp rfl) rfl rfl hl.1 rfl (lv_room (Nat.le_of_ble_eq_true rfl)) dL_removeTrack_2 ⟨Nat.le_of_ble_eq_true rfl, Nat.le_of_ble_eq_true rfl⟩) hS (fun q _ h => h) (fun q h => h) (fun E_x r_x ce q9 H locs hthr hB9 hle hfr hS hce hcv hcl => ?_) (fun hthr H locs hP hle hfr hS => ?_)
  · have hmem := hXI E_x r_x hthr
    obtain ⟨rj9, hP, hN9⟩ := hB9
    obtain rfl := List.mem_singleton.mp hmem
    refine vx_catch (name := "java/lang/IndexOutOfBoundsException") hown ([]) (⟨0, 5, 6, 30⟩ : ExceptionTableEntry) (tableOf []) (by rw [ht]; rfl) (fun z hz => absurd hz List.not_mem_nil) (by decide) (by decide) (hts _ (List.mem_of_getElem? (i := 1) rfl)) (va_Nw.use rfl hE.k0) hce hcv hcl ?_
    refine lv_astore_n (lv' := [(2, .ref q9), (0, .ref (ad (429))), (1, .int (id))]) hx hb dL_removeTrack_6 rfl hl (by decide) rfl (fun ls hl => ?_)
    refine lv_sipush (v := (-25000)) hx hb dL_removeTrack_7 (by decide) ?_
    refine W.widen (k := 1) (n := 6) (by omega) (by omega) ?_
    exact W.iret (v := (-25000)) hx hb hr (fun T9 hT9 _ => ⟨_, rfl, ⟨(-25000), pm, rj9, σ, rfl, hG.mono (Nat.le_succ _) hB, by rw [hT9]; exact hP⟩, hS.F hT9⟩) hS.2.2 dL_removeTrack_10
  · refine W.widen (k := 1) (n := 6) (by omega) (by omega) ?_
    exact W.iret (v := (atO (f_findTrack σ id) 0 (fun k => f_dropTv (f_push σ pm 0) k))) hx hb hr (fun T9 hT9 _ => ⟨_, rfl, ⟨_, pm_push pm, rj, _, rfl, hG.removeTrack hB id hthr, by rw [hT9]; exact hP⟩, hS.F hT9⟩) hS.2.2 dL_removeTrack_5
set_option maxHeartbeats 4000000 in
set_option maxRecDepth 100000 in
theorem k_L_addPrint (l : Launch) (D : va_G) (ad : Nat → Nat) (cy : Nat → ClassId) (pm : Nat → Nat) (rj : Option Nat) (σ : Nat → Nat → Int32) (xq : Nat → Nat) (hst : l.stackTraces = false) (sz : Nat) (hi : sp_inj ad 459) {B : Nat} (hG : GS B σ pm) (hB : B + 1 < 1000000) (t : Int32) (u : Int32) (r : Int32) (c1 : Int32) (lf : Bool) (z : Int32) : Met l yL_addPrint wsL_addPrint ({ frames := 8, cells := 5, slots := 27, locals := 138 } : Room) (sp_Pmx xq ad 459 D (tyG cy) sz [.ref (ad (429)), .int (t), .int (u), .int (r), .int (c1), .int (b2i lf), .int (z)] (cW ad cy pm rj σ)) (lQ D ad cy (B + 1) (sp_A ad 459 sz)) 5 27 (sp_A ad 459 sz) := by
  have hpm := hG.hpm
  have hXI : XI [eIOO, eIAE, eUOE] ((f_xTrack σ t).or ((f_xCell r c1).or ((f_xIn (f_in 0 999 u && f_in 1 9 z)).or (f_xRej (f_objPrint σ t u r c1))))) := XI.or (XI.ft List.mem_cons_self) (XI.or (XI.fc List.mem_cons_self) (XI.or (XI.fi (List.mem_cons_of_mem _ List.mem_cons_self)) (XI.fj (List.mem_cons_of_mem _ (List.mem_cons_of_mem _ List.mem_cons_self)))))
  have hXJ : XJ ((f_xTrack σ t).or ((f_xCell r c1).or ((f_xIn (f_in 0 999 u && f_in 1 9 z)).or (f_xRej (f_objPrint σ t u r c1))))) := XJ.or (XJ.ft) (XJ.or (XJ.fc) (XJ.or (XJ.fi) (XJ.fj)))
  refine va_MetW (cc := cL_addPrint) (maxL := 8) (ret := (some .int)) (by decide) rfl ?_
  intro p e s m args below meth c s₁ B9 hml hv
  obtain ⟨rfl, hsz, hP, hK, hE⟩ := hv
  have hx := B9.exec
  have hb := B9.bytes
  have hr := B9.returns
  have hts := atoms_spec (ws := wsL_addPrint) B9.pre
  have hown : s.vm.findClass RL = some m.cls := findClass_of_methodNamed B9.named
  have ht := vx_table (x := yL_addPrint) B9 (hts _ (List.mem_of_getElem? (i := 0) rfl))
  subst hsz
  have hNC := hE.2.2.2.2.1.1
  have hS : va_S (sp_A ad 459 s.heap.size) s.heap s.heap [] := va_S.rf
  have hl := lv_entry ([.ref (ad (429)), .int (t), .int (u), .int (r), .int (c1), .int (b2i lf), .int (z)]) (n := 8) (Nat.le_of_ble_eq_true rfl)
  refine W.eq (lg_entry_eq _ ([.ref (ad (429)), .int (t), .int (u), .int (r), .int (c1), .int (b2i lf), .int (z)]) _) ?_
  generalize (lg_sl ([.ref (ad (429)), .int (t), .int (u), .int (r), .int (c1), .int (b2i lf), .int (z)]) ++ List.replicate (8 - (lg_sl ([.ref (ad (429)), .int (t), .int (u), .int (r), .int (c1), .int (b2i lf), .int (z)])).length) Slot.unset).toArray = ls at hl ⊢
  have hl : lv_has ls 8 [(0, .ref (ad (429))), (1, .int (t)), (2, .int (u)), (3, .int (r)), (4, .int (c1)), (5, .int (b2i lf)), (6, .int (z))] := hl
  refine lv_aload_n hx hb dL_addPrint_0 rfl (lv_at hl 0 rfl) ?_
  refine lv_iload_n hx hb dL_addPrint_1 rfl (lv_at hl 1 rfl) ?_
  refine lv_iload_n hx hb dL_addPrint_2 rfl (lv_at hl 2 rfl) ?_
  refine lv_iload_n hx hb dL_addPrint_3 rfl (lv_at hl 3 rfl) ?_
  refine lv_iload hx hb dL_addPrint_4 (lv_at hl 4 rfl) ?_
  refine lv_iload hx hb dL_addPrint_6 (lv_at hl 5 rfl) ?_
  refine lv_iload hx hb dL_addPrint_8 (lv_at hl 6 rfl) ?_
  refine sp_callx (vx_runV (As := [.int (t), .int (u), .int (r), .int (c1), .int (b2i lf), .int (z)]) (rest := []) ⟨hx, hb, hml, hown, hts⟩ (c_X9_addPrint l D ad cy pm rj σ xq hst _ hi t u r c1 lf z hpm) (cwV 6 hts gL_addPrint_X9_addPrint rfl rfl rfl (by decide +kernel) ⟨Nat.le_of_ble_eq_true rfl, Nat.le_of_ble_eq_true rfl⟩) (sp_preVmx hK hP hE (κ := 429) (by decide) cE_sp rfl) rfl rfl hl.1 rfl (lv_room (Nat.le_of_ble_eq_true rfl)) dL_addPrint_10 ⟨Nat.le_of_ble_eq_true rfl, Nat.le_of_ble_eq_true rfl⟩) hS (fun q _ h => h) (fun q h => h) (fun E_x r_x ce q9 H locs hthr hB9 hle hfr hS hce hcv hcl => ?_) (fun hthr H locs hP hle hfr hS => ?_)
  · have hmem := hXI E_x r_x hthr
    obtain ⟨rj9, hP, hN9⟩ := hB9
    rcases List.mem_cons.mp hmem with rfl | hmem
    · skip
      refine vx_catch (name := "java/lang/IndexOutOfBoundsException") hown ([]) (⟨0, 13, 14, 30⟩ : ExceptionTableEntry) (tableOf [(0, 13, 20, 19), (0, 13, 26, 21)]) (by rw [ht]; rfl) (fun z hz => absurd hz List.not_mem_nil) (by decide) (by decide) (hts _ (List.mem_of_getElem? (i := 1) rfl)) (va_Nw.use rfl hE.k0) hce hcv hcl ?_
      refine lv_astore (lv' := [(7, .ref q9), (0, .ref (ad (429))), (1, .int (t)), (2, .int (u)), (3, .int (r)), (4, .int (c1)), (5, .int (b2i lf)), (6, .int (z))]) hx hb dL_addPrint_14 hl (by decide) rfl (fun ls hl => ?_)
      refine lv_sipush (v := (-25000)) hx hb dL_addPrint_16 (by decide) ?_
      refine W.widen (k := 5) (n := 27) (by omega) (by omega) ?_
      exact W.iret (v := (-25000)) hx hb hr (fun T9 hT9 _ => ⟨_, rfl, ⟨(-25000), pm, rj9, σ, rfl, hG.mono (Nat.le_succ _) hB, by rw [hT9]; exact hP⟩, hS.F hT9⟩) hS.2.2 dL_addPrint_19
    · skip
      rcases List.mem_cons.mp hmem with rfl | hmem
      · skip
        refine vx_catch (name := "java/lang/IllegalArgumentException") hown (tableOf [(0, 13, 14, 30)]) (⟨0, 13, 20, 19⟩ : ExceptionTableEntry) (tableOf [(0, 13, 26, 21)]) (by rw [ht]; rfl) (fun z hz => ((fun h9 => (List.mem_cons.mp h9).elim (fun e9 => by (subst e9; exact Or.inr ⟨by decide, "java/lang/IndexOutOfBoundsException", hts _ (List.mem_of_getElem? (i := 1) rfl), hNC _ _ (by decide +kernel) (by decide +kernel) (by decide +kernel)⟩)) (fun h9 => absurd h9 List.not_mem_nil)) : z ∈ tableOf [(0, 13, 14, 30)] → covers z 10 = false ∨ (z.catchType ≠ 0 ∧ ∃ nm : String, (Cond.classLink RL z.catchType nm).before _ s = true ∧ va_Nc eIAE nm s)) hz) (by decide) (by decide) (hts _ (List.mem_of_getElem? (i := 2) rfl)) (va_Nw.use rfl hE.k1) hce hcv hcl ?_
        refine lv_astore (lv' := [(7, .ref q9), (0, .ref (ad (429))), (1, .int (t)), (2, .int (u)), (3, .int (r)), (4, .int (c1)), (5, .int (b2i lf)), (6, .int (z))]) hx hb dL_addPrint_20 hl (by decide) rfl (fun ls hl => ?_)
        refine lv_sipush (v := (-20000)) hx hb dL_addPrint_22 (by decide) ?_
        refine W.widen (k := 5) (n := 27) (by omega) (by omega) ?_
        exact W.iret (v := (-20000)) hx hb hr (fun T9 hT9 _ => ⟨_, rfl, ⟨(-20000), pm, rj9, σ, rfl, hG.mono (Nat.le_succ _) hB, by rw [hT9]; exact hP⟩, hS.F hT9⟩) hS.2.2 dL_addPrint_25
      · skip
        obtain rfl := List.mem_singleton.mp hmem
        refine vx_catch (name := "java/lang/UnsupportedOperationException") hown (tableOf [(0, 13, 14, 30), (0, 13, 20, 19)]) (⟨0, 13, 26, 21⟩ : ExceptionTableEntry) (tableOf []) (by rw [ht]; rfl) (fun z hz => ((fun h9 => (List.mem_cons.mp h9).elim (fun e9 => by (subst e9; exact Or.inr ⟨by decide, "java/lang/IndexOutOfBoundsException", hts _ (List.mem_of_getElem? (i := 1) rfl), hNC _ _ (by decide +kernel) (by decide +kernel) (by decide +kernel)⟩)) (fun h9 => (List.mem_cons.mp h9).elim (fun e9 => by (subst e9; exact Or.inr ⟨by decide, "java/lang/IllegalArgumentException", hts _ (List.mem_of_getElem? (i := 2) rfl), hNC _ _ (by decide +kernel) (by decide +kernel) (by decide +kernel)⟩)) (fun h9 => absurd h9 List.not_mem_nil))) : z ∈ tableOf [(0, 13, 14, 30), (0, 13, 20, 19)] → covers z 10 = false ∨ (z.catchType ≠ 0 ∧ ∃ nm : String, (Cond.classLink RL z.catchType nm).before _ s = true ∧ va_Nc eUOE nm s)) hz) (by decide) (by decide) (hts _ (List.mem_of_getElem? (i := 3) rfl)) (va_Nw.use rfl hE.k2) hce hcv hcl ?_
        refine lv_astore (lv' := [(7, .ref q9), (0, .ref (ad (429))), (1, .int (t)), (2, .int (u)), (3, .int (r)), (4, .int (c1)), (5, .int (b2i lf)), (6, .int (z))]) hx hb dL_addPrint_26 hl (by decide) rfl (fun ls hl => ?_)
        refine lv_sipush (v := (-10000)) hx hb dL_addPrint_28 (by decide) ?_
        obtain ⟨y9, rfl⟩ := hXJ r_x hthr
        have hN0 := hN9.mono (Nat.zero_le _)
        have hN1 : sp_N D 0 none rj9 (some y9) H := hN0
        refine lv_aload_n hx hb dL_addPrint_31 rfl (lv_at hl 1 rfl) ?_
        refine sp_callm (va_runV (As := []) (rest := [.int (-10000)]) ⟨hx, hb, hml, hown, hts⟩ (vx_quiet (c_X9_rejectionReason l D ad cy pm rj9 σ xq hst (some y9) _ hi) rfl) (cwV 0 hts gL_addPrint_X9_rejectionReason rfl rfl rfl (by decide +kernel) ⟨Nat.le_of_ble_eq_true rfl, Nat.le_of_ble_eq_true rfl⟩) ⟨sp_blindPr, va_recv hK hP (ci := 12) (q := (RX9, TX9, 10)) rfl (q0 := 429) (fs := oF ad rj9 (σ 429)) (a := ad 429) (by rw [sp_W_at (by decide), cE_sp]), fun U hU hW => ⟨⟨rfl, by rw [hU], by rw [hU]; exact hP, va_K.moved hW.alike hK, by rw [hU]; exact (hE.go hS).warm hW⟩, by rw [hU]; exact hN1⟩⟩ rfl rfl hl.1 rfl (lv_room (Nat.le_of_ble_eq_true rfl)) dL_addPrint_32 ⟨Nat.le_of_ble_eq_true rfl, Nat.le_of_ble_eq_true rfl⟩) hS (fun q h1 h2 => sp_Alt h1 h2) (sp_Ale hS.1) (fun H locs hP hle hfr hS => ?_)
        refine W.eq (g2 := F0 m 35 ls [.int (f_rjR (some y9)), .int (-10000)]) rfl ?_
        refine lv_isub hx hb dL_addPrint_35 ?_
        exact W.iret (v := (-10000) - f_rjR (some y9)) hx hb hr (fun T9 hT9 _ => ⟨_, rfl, ⟨_, pm, rj9, σ, rfl, hG.mono (Nat.le_succ _) hB, by rw [hT9]; exact hP⟩, hS.F hT9⟩) hS.2.2 dL_addPrint_36
  · refine W.widen (k := 5) (n := 27) (by omega) (by omega) ?_
    exact W.iret (v := (f_putPv (f_push σ pm 0))) hx hb hr (fun T9 hT9 _ => ⟨_, rfl, ⟨_, pm_push pm, rj, _, rfl, hG.addPrint hB t u r c1 lf z hthr, by rw [hT9]; exact hP⟩, hS.F hT9⟩) hS.2.2 dL_addPrint_13
set_option maxHeartbeats 4000000 in
set_option maxRecDepth 100000 in
theorem k_L_removePrint (l : Launch) (D : va_G) (ad : Nat → Nat) (cy : Nat → ClassId) (pm : Nat → Nat) (rj : Option Nat) (σ : Nat → Nat → Int32) (xq : Nat → Nat) (hst : l.stackTraces = false) (sz : Nat) (hi : sp_inj ad 459) {B : Nat} (hG : GS B σ pm) (hB : B + 1 < 1000000) (id : Int32) : Met l yL_removePrint wsL_removePrint ({ frames := 8, cells := 1, slots := 6, locals := 134 } : Room) (sp_Pmx xq ad 459 D (tyG cy) sz [.ref (ad (429)), .int (id)] (cW ad cy pm rj σ)) (lQ D ad cy (B + 1) (sp_A ad 459 sz)) 1 6 (sp_A ad 459 sz) := by
  have hpm := hG.hpm
  have hXI : XI [eIOO] (f_xPrint σ id) := XI.fp List.mem_cons_self
  refine va_MetW (cc := cL_removePrint) (maxL := 3) (ret := (some .int)) (by decide) rfl ?_
  intro p e s m args below meth c s₁ B9 hml hv
  obtain ⟨rfl, hsz, hP, hK, hE⟩ := hv
  have hx := B9.exec
  have hb := B9.bytes
  have hr := B9.returns
  have hts := atoms_spec (ws := wsL_removePrint) B9.pre
  have hown : s.vm.findClass RL = some m.cls := findClass_of_methodNamed B9.named
  have ht := vx_table (x := yL_removePrint) B9 (hts _ (List.mem_of_getElem? (i := 0) rfl))
  subst hsz
  have hNC := hE.2.2.2.2.1.1
  have hS : va_S (sp_A ad 459 s.heap.size) s.heap s.heap [] := va_S.rf
  have hl := lv_entry ([.ref (ad (429)), .int (id)]) (n := 3) (Nat.le_of_ble_eq_true rfl)
  refine W.eq (lg_entry_eq _ ([.ref (ad (429)), .int (id)]) _) ?_
  generalize (lg_sl ([.ref (ad (429)), .int (id)]) ++ List.replicate (3 - (lg_sl ([.ref (ad (429)), .int (id)])).length) Slot.unset).toArray = ls at hl ⊢
  have hl : lv_has ls 3 [(0, .ref (ad (429))), (1, .int (id))] := hl
  refine lv_aload_n hx hb dL_removePrint_0 rfl (lv_at hl 0 rfl) ?_
  refine lv_iload_n hx hb dL_removePrint_1 rfl (lv_at hl 1 rfl) ?_
  refine sp_callx (vx_runV (As := [.int (id)]) (rest := []) ⟨hx, hb, hml, hown, hts⟩ (c_X9_removePrint l D ad cy pm rj σ xq hst _ hi id hpm) (cwV 1 hts gL_removePrint_X9_removePrint rfl rfl rfl (by decide +kernel) ⟨Nat.le_of_ble_eq_true rfl, Nat.le_of_ble_eq_true rfl⟩) (sp_preVmx hK hP hE (κ := 429) (by decide) cE_sp rfl) rfl rfl hl.1 rfl (lv_room (Nat.le_of_ble_eq_true rfl)) dL_removePrint_2 ⟨Nat.le_of_ble_eq_true rfl, Nat.le_of_ble_eq_true rfl⟩) hS (fun q _ h => h) (fun q h => h) (fun E_x r_x ce q9 H locs hthr hB9 hle hfr hS hce hcv hcl => ?_) (fun hthr H locs hP hle hfr hS => ?_)
  · have hmem := hXI E_x r_x hthr
    obtain ⟨rj9, hP, hN9⟩ := hB9
    obtain rfl := List.mem_singleton.mp hmem
    refine vx_catch (name := "java/lang/IndexOutOfBoundsException") hown ([]) (⟨0, 5, 6, 30⟩ : ExceptionTableEntry) (tableOf []) (by rw [ht]; rfl) (fun z hz => absurd hz List.not_mem_nil) (by decide) (by decide) (hts _ (List.mem_of_getElem? (i := 1) rfl)) (va_Nw.use rfl hE.k0) hce hcv hcl ?_
    refine lv_astore_n (lv' := [(2, .ref q9), (0, .ref (ad (429))), (1, .int (id))]) hx hb dL_removePrint_6 rfl hl (by decide) rfl (fun ls hl => ?_)
    refine lv_sipush (v := (-25000)) hx hb dL_removePrint_7 (by decide) ?_
    refine W.widen (k := 1) (n := 6) (by omega) (by omega) ?_
    exact W.iret (v := (-25000)) hx hb hr (fun T9 hT9 _ => ⟨_, rfl, ⟨(-25000), pm, rj9, σ, rfl, hG.mono (Nat.le_succ _) hB, by rw [hT9]; exact hP⟩, hS.F hT9⟩) hS.2.2 dL_removePrint_10
  · refine W.widen (k := 1) (n := 6) (by omega) (by omega) ?_
    exact W.iret (v := (atO (f_findPrint σ id) 0 (fun k => (f_push σ pm 0) (9 + k) 2))) hx hb hr (fun T9 hT9 _ => ⟨_, rfl, ⟨_, pm_push pm, rj, _, rfl, hG.removePrint hB id hthr, by rw [hT9]; exact hP⟩, hS.F hT9⟩) hS.2.2 dL_removePrint_5
set_option maxHeartbeats 4000000 in
set_option maxRecDepth 100000 in
theorem k_L_correctHeel (l : Launch) (D : va_G) (ad : Nat → Nat) (cy : Nat → ClassId) (pm : Nat → Nat) (rj : Option Nat) (σ : Nat → Nat → Int32) (xq : Nat → Nat) (hst : l.stackTraces = false) (sz : Nat) (hi : sp_inj ad 459) {B : Nat} (hG : GS B σ pm) (hB : B + 1 < 1000000) (id : Int32) (r : Int32) (c1 : Int32) : Met l yL_correctHeel wsL_correctHeel ({ frames := 8, cells := 5, slots := 27, locals := 136 } : Room) (sp_Pmx xq ad 459 D (tyG cy) sz [.ref (ad (429)), .int (id), .int (r), .int (c1)] (cW ad cy pm rj σ)) (lQ D ad cy (B + 1) (sp_A ad 459 sz)) 5 27 (sp_A ad 459 sz) := by
  have hpm := hG.hpm
  have hXI : XI [eIOO, eUOE] ((f_xPrint σ id).or ((f_xCell r c1).or (atO (f_findPrint σ id) none (fun k => f_xRej (f_objMove σ k r c1))))) := XI.or (XI.fp List.mem_cons_self) (XI.or (XI.fc List.mem_cons_self) (XI.at (fun k => XI.fj (List.mem_cons_of_mem _ List.mem_cons_self))))
  have hXJ : XJ ((f_xPrint σ id).or ((f_xCell r c1).or (atO (f_findPrint σ id) none (fun k => f_xRej (f_objMove σ k r c1))))) := XJ.or (XJ.fp) (XJ.or (XJ.fc) (XJ.at (fun k => XJ.fj)))
  refine va_MetW (cc := cL_correctHeel) (maxL := 5) (ret := (some .int)) (by decide) rfl ?_
  intro p e s m args below meth c s₁ B9 hml hv
  obtain ⟨rfl, hsz, hP, hK, hE⟩ := hv
  have hx := B9.exec
  have hb := B9.bytes
  have hr := B9.returns
  have hts := atoms_spec (ws := wsL_correctHeel) B9.pre
  have hown : s.vm.findClass RL = some m.cls := findClass_of_methodNamed B9.named
  have ht := vx_table (x := yL_correctHeel) B9 (hts _ (List.mem_of_getElem? (i := 0) rfl))
  subst hsz
  have hNC := hE.2.2.2.2.1.1
  have hS : va_S (sp_A ad 459 s.heap.size) s.heap s.heap [] := va_S.rf
  have hl := lv_entry ([.ref (ad (429)), .int (id), .int (r), .int (c1)]) (n := 5) (Nat.le_of_ble_eq_true rfl)
  refine W.eq (lg_entry_eq _ ([.ref (ad (429)), .int (id), .int (r), .int (c1)]) _) ?_
  generalize (lg_sl ([.ref (ad (429)), .int (id), .int (r), .int (c1)]) ++ List.replicate (5 - (lg_sl ([.ref (ad (429)), .int (id), .int (r), .int (c1)])).length) Slot.unset).toArray = ls at hl ⊢
  have hl : lv_has ls 5 [(0, .ref (ad (429))), (1, .int (id)), (2, .int (r)), (3, .int (c1))] := hl
  refine lv_aload_n hx hb dL_correctHeel_0 rfl (lv_at hl 0 rfl) ?_
  refine lv_iload_n hx hb dL_correctHeel_1 rfl (lv_at hl 1 rfl) ?_
  refine lv_iload_n hx hb dL_correctHeel_2 rfl (lv_at hl 2 rfl) ?_
  refine lv_iload_n hx hb dL_correctHeel_3 rfl (lv_at hl 3 rfl) ?_
  refine sp_callx (vx_runV (As := [.int (id), .int (r), .int (c1)]) (rest := []) ⟨hx, hb, hml, hown, hts⟩ (c_X9_correctHeel l D ad cy pm rj σ xq hst _ hi id r c1 hpm) (cwV 3 hts gL_correctHeel_X9_correctHeel rfl rfl rfl (by decide +kernel) ⟨Nat.le_of_ble_eq_true rfl, Nat.le_of_ble_eq_true rfl⟩) (sp_preVmx hK hP hE (κ := 429) (by decide) cE_sp rfl) rfl rfl hl.1 rfl (lv_room (Nat.le_of_ble_eq_true rfl)) dL_correctHeel_4 ⟨Nat.le_of_ble_eq_true rfl, Nat.le_of_ble_eq_true rfl⟩) hS (fun q _ h => h) (fun q h => h) (fun E_x r_x ce q9 H locs hthr hB9 hle hfr hS hce hcv hcl => ?_) (fun hthr H locs hP hle hfr hS => ?_)
  · have hmem := hXI E_x r_x hthr
    obtain ⟨rj9, hP, hN9⟩ := hB9
    rcases List.mem_cons.mp hmem with rfl | hmem
    · skip
      refine vx_catch (name := "java/lang/IndexOutOfBoundsException") hown ([]) (⟨0, 7, 8, 30⟩ : ExceptionTableEntry) (tableOf [(0, 7, 14, 21)]) (by rw [ht]; rfl) (fun z hz => absurd hz List.not_mem_nil) (by decide) (by decide) (hts _ (List.mem_of_getElem? (i := 1) rfl)) (va_Nw.use rfl hE.k0) hce hcv hcl ?_
      refine lv_astore (lv' := [(4, .ref q9), (0, .ref (ad (429))), (1, .int (id)), (2, .int (r)), (3, .int (c1))]) hx hb dL_correctHeel_8 hl (by decide) rfl (fun ls hl => ?_)
      refine lv_sipush (v := (-25000)) hx hb dL_correctHeel_10 (by decide) ?_
      refine W.widen (k := 5) (n := 27) (by omega) (by omega) ?_
      exact W.iret (v := (-25000)) hx hb hr (fun T9 hT9 _ => ⟨_, rfl, ⟨(-25000), pm, rj9, σ, rfl, hG.mono (Nat.le_succ _) hB, by rw [hT9]; exact hP⟩, hS.F hT9⟩) hS.2.2 dL_correctHeel_13
    · skip
      obtain rfl := List.mem_singleton.mp hmem
      refine vx_catch (name := "java/lang/UnsupportedOperationException") hown (tableOf [(0, 7, 8, 30)]) (⟨0, 7, 14, 21⟩ : ExceptionTableEntry) (tableOf []) (by rw [ht]; rfl) (fun z hz => ((fun h9 => (List.mem_cons.mp h9).elim (fun e9 => by (subst e9; exact Or.inr ⟨by decide, "java/lang/IndexOutOfBoundsException", hts _ (List.mem_of_getElem? (i := 1) rfl), hNC _ _ (by decide +kernel) (by decide +kernel) (by decide +kernel)⟩)) (fun h9 => absurd h9 List.not_mem_nil)) : z ∈ tableOf [(0, 7, 8, 30)] → covers z 4 = false ∨ (z.catchType ≠ 0 ∧ ∃ nm : String, (Cond.classLink RL z.catchType nm).before _ s = true ∧ va_Nc eUOE nm s)) hz) (by decide) (by decide) (hts _ (List.mem_of_getElem? (i := 2) rfl)) (va_Nw.use rfl hE.k2) hce hcv hcl ?_
      refine lv_astore (lv' := [(4, .ref q9), (0, .ref (ad (429))), (1, .int (id)), (2, .int (r)), (3, .int (c1))]) hx hb dL_correctHeel_14 hl (by decide) rfl (fun ls hl => ?_)
      refine lv_sipush (v := (-10000)) hx hb dL_correctHeel_16 (by decide) ?_
      obtain ⟨y9, rfl⟩ := hXJ r_x hthr
      have hN0 := hN9.mono (Nat.zero_le _)
      have hN1 : sp_N D 0 none rj9 (some y9) H := hN0
      refine lv_aload_n hx hb dL_correctHeel_19 rfl (lv_at hl 1 rfl) ?_
      refine sp_callm (va_runV (As := []) (rest := [.int (-10000)]) ⟨hx, hb, hml, hown, hts⟩ (vx_quiet (c_X9_rejectionReason l D ad cy pm rj9 σ xq hst (some y9) _ hi) rfl) (cwV 0 hts gL_correctHeel_X9_rejectionReason rfl rfl rfl (by decide +kernel) ⟨Nat.le_of_ble_eq_true rfl, Nat.le_of_ble_eq_true rfl⟩) ⟨sp_blindPr, va_recv hK hP (ci := 12) (q := (RX9, TX9, 10)) rfl (q0 := 429) (fs := oF ad rj9 (σ 429)) (a := ad 429) (by rw [sp_W_at (by decide), cE_sp]), fun U hU hW => ⟨⟨rfl, by rw [hU], by rw [hU]; exact hP, va_K.moved hW.alike hK, by rw [hU]; exact (hE.go hS).warm hW⟩, by rw [hU]; exact hN1⟩⟩ rfl rfl hl.1 rfl (lv_room (Nat.le_of_ble_eq_true rfl)) dL_correctHeel_20 ⟨Nat.le_of_ble_eq_true rfl, Nat.le_of_ble_eq_true rfl⟩) hS (fun q h1 h2 => sp_Alt h1 h2) (sp_Ale hS.1) (fun H locs hP hle hfr hS => ?_)
      refine W.eq (g2 := F0 m 23 ls [.int (f_rjR (some y9)), .int (-10000)]) rfl ?_
      refine lv_isub hx hb dL_correctHeel_23 ?_
      exact W.iret (v := (-10000) - f_rjR (some y9)) hx hb hr (fun T9 hT9 _ => ⟨_, rfl, ⟨_, pm, rj9, σ, rfl, hG.mono (Nat.le_succ _) hB, by rw [hT9]; exact hP⟩, hS.F hT9⟩) hS.2.2 dL_correctHeel_24
  · refine W.widen (k := 5) (n := 27) (by omega) (by omega) ?_
    exact W.iret (v := (atO (f_findPrint σ id) 0 (fun k => f_dist (f_push σ pm 0) (9 + k) r c1))) hx hb hr (fun T9 hT9 _ => ⟨_, rfl, ⟨_, pm_push pm, rj, _, rfl, hG.correctHeel hB id r c1 hthr, by rw [hT9]; exact hP⟩, hS.F hT9⟩) hS.2.2 dL_correctHeel_7
set_option maxHeartbeats 4000000 in
set_option maxRecDepth 100000 in
theorem k_L_doubtToes (l : Launch) (D : va_G) (ad : Nat → Nat) (cy : Nat → ClassId) (pm : Nat → Nat) (rj : Option Nat) (σ : Nat → Nat → Int32) (xq : Nat → Nat) (hst : l.stackTraces = false) (sz : Nat) (hi : sp_inj ad 459) {B : Nat} (hG : GS B σ pm) (hB : B + 1 < 1000000) (id : Int32) : Met l yL_doubtToes wsL_doubtToes ({ frames := 8, cells := 4, slots := 21, locals := 134 } : Room) (sp_Pmx xq ad 459 D (tyG cy) sz [.ref (ad (429)), .int (id)] (cW ad cy pm rj σ)) (lQ D ad cy (B + 1) (sp_A ad 459 sz)) 4 21 (sp_A ad 459 sz) := by
  have hpm := hG.hpm
  have hXI : XI [eIOO, eUOE] ((f_xPrint σ id).or (atO (f_findPrint σ id) none (fun k => f_xRej (f_objDoubt σ k)))) := XI.or (XI.fp List.mem_cons_self) (XI.at (fun k => XI.fj (List.mem_cons_of_mem _ List.mem_cons_self)))
  have hXJ : XJ ((f_xPrint σ id).or (atO (f_findPrint σ id) none (fun k => f_xRej (f_objDoubt σ k)))) := XJ.or (XJ.fp) (XJ.at (fun k => XJ.fj))
  refine va_MetW (cc := cL_doubtToes) (maxL := 3) (ret := (some .int)) (by decide) rfl ?_
  intro p e s m args below meth c s₁ B9 hml hv
  obtain ⟨rfl, hsz, hP, hK, hE⟩ := hv
  have hx := B9.exec
  have hb := B9.bytes
  have hr := B9.returns
  have hts := atoms_spec (ws := wsL_doubtToes) B9.pre
  have hown : s.vm.findClass RL = some m.cls := findClass_of_methodNamed B9.named
  have ht := vx_table (x := yL_doubtToes) B9 (hts _ (List.mem_of_getElem? (i := 0) rfl))
  subst hsz
  have hNC := hE.2.2.2.2.1.1
  have hS : va_S (sp_A ad 459 s.heap.size) s.heap s.heap [] := va_S.rf
  have hl := lv_entry ([.ref (ad (429)), .int (id)]) (n := 3) (Nat.le_of_ble_eq_true rfl)
  refine W.eq (lg_entry_eq _ ([.ref (ad (429)), .int (id)]) _) ?_
  generalize (lg_sl ([.ref (ad (429)), .int (id)]) ++ List.replicate (3 - (lg_sl ([.ref (ad (429)), .int (id)])).length) Slot.unset).toArray = ls at hl ⊢
  have hl : lv_has ls 3 [(0, .ref (ad (429))), (1, .int (id))] := hl
  refine lv_aload_n hx hb dL_doubtToes_0 rfl (lv_at hl 0 rfl) ?_
  refine lv_iload_n hx hb dL_doubtToes_1 rfl (lv_at hl 1 rfl) ?_
  refine sp_callx (vx_runV (As := [.int (id)]) (rest := []) ⟨hx, hb, hml, hown, hts⟩ (c_X9_doubtToes l D ad cy pm rj σ xq hst _ hi id hpm) (cwV 1 hts gL_doubtToes_X9_doubtToes rfl rfl rfl (by decide +kernel) ⟨Nat.le_of_ble_eq_true rfl, Nat.le_of_ble_eq_true rfl⟩) (sp_preVmx hK hP hE (κ := 429) (by decide) cE_sp rfl) rfl rfl hl.1 rfl (lv_room (Nat.le_of_ble_eq_true rfl)) dL_doubtToes_2 ⟨Nat.le_of_ble_eq_true rfl, Nat.le_of_ble_eq_true rfl⟩) hS (fun q _ h => h) (fun q h => h) (fun E_x r_x ce q9 H locs hthr hB9 hle hfr hS hce hcv hcl => ?_) (fun hthr H locs hP hle hfr hS => ?_)
  · have hmem := hXI E_x r_x hthr
    obtain ⟨rj9, hP, hN9⟩ := hB9
    rcases List.mem_cons.mp hmem with rfl | hmem
    · skip
      refine vx_catch (name := "java/lang/IndexOutOfBoundsException") hown ([]) (⟨0, 5, 6, 30⟩ : ExceptionTableEntry) (tableOf [(0, 5, 11, 21)]) (by rw [ht]; rfl) (fun z hz => absurd hz List.not_mem_nil) (by decide) (by decide) (hts _ (List.mem_of_getElem? (i := 1) rfl)) (va_Nw.use rfl hE.k0) hce hcv hcl ?_
      refine lv_astore_n (lv' := [(2, .ref q9), (0, .ref (ad (429))), (1, .int (id))]) hx hb dL_doubtToes_6 rfl hl (by decide) rfl (fun ls hl => ?_)
      refine lv_sipush (v := (-25000)) hx hb dL_doubtToes_7 (by decide) ?_
      refine W.widen (k := 4) (n := 21) (by omega) (by omega) ?_
      exact W.iret (v := (-25000)) hx hb hr (fun T9 hT9 _ => ⟨_, rfl, ⟨(-25000), pm, rj9, σ, rfl, hG.mono (Nat.le_succ _) hB, by rw [hT9]; exact hP⟩, hS.F hT9⟩) hS.2.2 dL_doubtToes_10
    · skip
      obtain rfl := List.mem_singleton.mp hmem
      refine vx_catch (name := "java/lang/UnsupportedOperationException") hown (tableOf [(0, 5, 6, 30)]) (⟨0, 5, 11, 21⟩ : ExceptionTableEntry) (tableOf []) (by rw [ht]; rfl) (fun z hz => ((fun h9 => (List.mem_cons.mp h9).elim (fun e9 => by (subst e9; exact Or.inr ⟨by decide, "java/lang/IndexOutOfBoundsException", hts _ (List.mem_of_getElem? (i := 1) rfl), hNC _ _ (by decide +kernel) (by decide +kernel) (by decide +kernel)⟩)) (fun h9 => absurd h9 List.not_mem_nil)) : z ∈ tableOf [(0, 5, 6, 30)] → covers z 2 = false ∨ (z.catchType ≠ 0 ∧ ∃ nm : String, (Cond.classLink RL z.catchType nm).before _ s = true ∧ va_Nc eUOE nm s)) hz) (by decide) (by decide) (hts _ (List.mem_of_getElem? (i := 2) rfl)) (va_Nw.use rfl hE.k2) hce hcv hcl ?_
      refine lv_astore_n (lv' := [(2, .ref q9), (0, .ref (ad (429))), (1, .int (id))]) hx hb dL_doubtToes_11 rfl hl (by decide) rfl (fun ls hl => ?_)
      refine lv_sipush (v := (-10000)) hx hb dL_doubtToes_12 (by decide) ?_
      obtain ⟨y9, rfl⟩ := hXJ r_x hthr
      have hN0 := hN9.mono (Nat.zero_le _)
      have hN1 : sp_N D 0 none rj9 (some y9) H := hN0
      refine lv_aload_n hx hb dL_doubtToes_15 rfl (lv_at hl 1 rfl) ?_
      refine sp_callm (va_runV (As := []) (rest := [.int (-10000)]) ⟨hx, hb, hml, hown, hts⟩ (vx_quiet (c_X9_rejectionReason l D ad cy pm rj9 σ xq hst (some y9) _ hi) rfl) (cwV 0 hts gL_doubtToes_X9_rejectionReason rfl rfl rfl (by decide +kernel) ⟨Nat.le_of_ble_eq_true rfl, Nat.le_of_ble_eq_true rfl⟩) ⟨sp_blindPr, va_recv hK hP (ci := 12) (q := (RX9, TX9, 10)) rfl (q0 := 429) (fs := oF ad rj9 (σ 429)) (a := ad 429) (by rw [sp_W_at (by decide), cE_sp]), fun U hU hW => ⟨⟨rfl, by rw [hU], by rw [hU]; exact hP, va_K.moved hW.alike hK, by rw [hU]; exact (hE.go hS).warm hW⟩, by rw [hU]; exact hN1⟩⟩ rfl rfl hl.1 rfl (lv_room (Nat.le_of_ble_eq_true rfl)) dL_doubtToes_16 ⟨Nat.le_of_ble_eq_true rfl, Nat.le_of_ble_eq_true rfl⟩) hS (fun q h1 h2 => sp_Alt h1 h2) (sp_Ale hS.1) (fun H locs hP hle hfr hS => ?_)
      refine W.eq (g2 := F0 m 19 ls [.int (f_rjR (some y9)), .int (-10000)]) rfl ?_
      refine lv_isub hx hb dL_doubtToes_19 ?_
      exact W.iret (v := (-10000) - f_rjR (some y9)) hx hb hr (fun T9 hT9 _ => ⟨_, rfl, ⟨_, pm, rj9, σ, rfl, hG.mono (Nat.le_succ _) hB, by rw [hT9]; exact hP⟩, hS.F hT9⟩) hS.2.2 dL_doubtToes_20
  · refine W.widen (k := 4) (n := 21) (by omega) (by omega) ?_
    exact W.iret (v := (atO (f_findPrint σ id) 0 (fun k => (f_push σ pm 0) (9 + k) 8 + 1))) hx hb hr (fun T9 hT9 _ => ⟨_, rfl, ⟨_, pm_push pm, rj, _, rfl, hG.doubtToes hB id hthr, by rw [hT9]; exact hP⟩, hS.F hT9⟩) hS.2.2 dL_doubtToes_5
set_option maxHeartbeats 4000000 in
set_option maxRecDepth 100000 in
theorem k_L_confirmToes (l : Launch) (D : va_G) (ad : Nat → Nat) (cy : Nat → ClassId) (pm : Nat → Nat) (rj : Option Nat) (σ : Nat → Nat → Int32) (xq : Nat → Nat) (hst : l.stackTraces = false) (sz : Nat) (hi : sp_inj ad 459) {B : Nat} (hG : GS B σ pm) (hB : B + 1 < 1000000) (id : Int32) : Met l yL_confirmToes wsL_confirmToes ({ frames := 8, cells := 4, slots := 21, locals := 134 } : Room) (sp_Pmx xq ad 459 D (tyG cy) sz [.ref (ad (429)), .int (id)] (cW ad cy pm rj σ)) (lQ D ad cy (B + 1) (sp_A ad 459 sz)) 4 21 (sp_A ad 459 sz) := by
  have hpm := hG.hpm
  have hXI : XI [eIOO, eUOE] ((f_xPrint σ id).or (atO (f_findPrint σ id) none (fun k => f_xRej (f_objConf σ k)))) := XI.or (XI.fp List.mem_cons_self) (XI.at (fun k => XI.fj (List.mem_cons_of_mem _ List.mem_cons_self)))
  have hXJ : XJ ((f_xPrint σ id).or (atO (f_findPrint σ id) none (fun k => f_xRej (f_objConf σ k)))) := XJ.or (XJ.fp) (XJ.at (fun k => XJ.fj))
  refine va_MetW (cc := cL_confirmToes) (maxL := 3) (ret := (some .int)) (by decide) rfl ?_
  intro p e s m args below meth c s₁ B9 hml hv
  obtain ⟨rfl, hsz, hP, hK, hE⟩ := hv
  have hx := B9.exec
  have hb := B9.bytes
  have hr := B9.returns
  have hts := atoms_spec (ws := wsL_confirmToes) B9.pre
  have hown : s.vm.findClass RL = some m.cls := findClass_of_methodNamed B9.named
  have ht := vx_table (x := yL_confirmToes) B9 (hts _ (List.mem_of_getElem? (i := 0) rfl))
  subst hsz
  have hNC := hE.2.2.2.2.1.1
  have hS : va_S (sp_A ad 459 s.heap.size) s.heap s.heap [] := va_S.rf
  have hl := lv_entry ([.ref (ad (429)), .int (id)]) (n := 3) (Nat.le_of_ble_eq_true rfl)
  refine W.eq (lg_entry_eq _ ([.ref (ad (429)), .int (id)]) _) ?_
  generalize (lg_sl ([.ref (ad (429)), .int (id)]) ++ List.replicate (3 - (lg_sl ([.ref (ad (429)), .int (id)])).length) Slot.unset).toArray = ls at hl ⊢
  have hl : lv_has ls 3 [(0, .ref (ad (429))), (1, .int (id))] := hl
  refine lv_aload_n hx hb dL_confirmToes_0 rfl (lv_at hl 0 rfl) ?_
  refine lv_iload_n hx hb dL_confirmToes_1 rfl (lv_at hl 1 rfl) ?_
  refine sp_callx (vx_runV (As := [.int (id)]) (rest := []) ⟨hx, hb, hml, hown, hts⟩ (c_X9_confirmToes l D ad cy pm rj σ xq hst _ hi id hpm) (cwV 1 hts gL_confirmToes_X9_confirmToes rfl rfl rfl (by decide +kernel) ⟨Nat.le_of_ble_eq_true rfl, Nat.le_of_ble_eq_true rfl⟩) (sp_preVmx hK hP hE (κ := 429) (by decide) cE_sp rfl) rfl rfl hl.1 rfl (lv_room (Nat.le_of_ble_eq_true rfl)) dL_confirmToes_2 ⟨Nat.le_of_ble_eq_true rfl, Nat.le_of_ble_eq_true rfl⟩) hS (fun q _ h => h) (fun q h => h) (fun E_x r_x ce q9 H locs hthr hB9 hle hfr hS hce hcv hcl => ?_) (fun hthr H locs hP hle hfr hS => ?_)
  · have hmem := hXI E_x r_x hthr
    obtain ⟨rj9, hP, hN9⟩ := hB9
    rcases List.mem_cons.mp hmem with rfl | hmem
    · skip
      refine vx_catch (name := "java/lang/IndexOutOfBoundsException") hown ([]) (⟨0, 5, 6, 30⟩ : ExceptionTableEntry) (tableOf [(0, 5, 11, 21)]) (by rw [ht]; rfl) (fun z hz => absurd hz List.not_mem_nil) (by decide) (by decide) (hts _ (List.mem_of_getElem? (i := 1) rfl)) (va_Nw.use rfl hE.k0) hce hcv hcl ?_
      refine lv_astore_n (lv' := [(2, .ref q9), (0, .ref (ad (429))), (1, .int (id))]) hx hb dL_confirmToes_6 rfl hl (by decide) rfl (fun ls hl => ?_)
      refine lv_sipush (v := (-25000)) hx hb dL_confirmToes_7 (by decide) ?_
      refine W.widen (k := 4) (n := 21) (by omega) (by omega) ?_
      exact W.iret (v := (-25000)) hx hb hr (fun T9 hT9 _ => ⟨_, rfl, ⟨(-25000), pm, rj9, σ, rfl, hG.mono (Nat.le_succ _) hB, by rw [hT9]; exact hP⟩, hS.F hT9⟩) hS.2.2 dL_confirmToes_10
    · skip
      obtain rfl := List.mem_singleton.mp hmem
      refine vx_catch (name := "java/lang/UnsupportedOperationException") hown (tableOf [(0, 5, 6, 30)]) (⟨0, 5, 11, 21⟩ : ExceptionTableEntry) (tableOf []) (by rw [ht]; rfl) (fun z hz => ((fun h9 => (List.mem_cons.mp h9).elim (fun e9 => by (subst e9; exact Or.inr ⟨by decide, "java/lang/IndexOutOfBoundsException", hts _ (List.mem_of_getElem? (i := 1) rfl), hNC _ _ (by decide +kernel) (by decide +kernel) (by decide +kernel)⟩)) (fun h9 => absurd h9 List.not_mem_nil)) : z ∈ tableOf [(0, 5, 6, 30)] → covers z 2 = false ∨ (z.catchType ≠ 0 ∧ ∃ nm : String, (Cond.classLink RL z.catchType nm).before _ s = true ∧ va_Nc eUOE nm s)) hz) (by decide) (by decide) (hts _ (List.mem_of_getElem? (i := 2) rfl)) (va_Nw.use rfl hE.k2) hce hcv hcl ?_
      refine lv_astore_n (lv' := [(2, .ref q9), (0, .ref (ad (429))), (1, .int (id))]) hx hb dL_confirmToes_11 rfl hl (by decide) rfl (fun ls hl => ?_)
      refine lv_sipush (v := (-10000)) hx hb dL_confirmToes_12 (by decide) ?_
      obtain ⟨y9, rfl⟩ := hXJ r_x hthr
      have hN0 := hN9.mono (Nat.zero_le _)
      have hN1 : sp_N D 0 none rj9 (some y9) H := hN0
      refine lv_aload_n hx hb dL_confirmToes_15 rfl (lv_at hl 1 rfl) ?_
      refine sp_callm (va_runV (As := []) (rest := [.int (-10000)]) ⟨hx, hb, hml, hown, hts⟩ (vx_quiet (c_X9_rejectionReason l D ad cy pm rj9 σ xq hst (some y9) _ hi) rfl) (cwV 0 hts gL_confirmToes_X9_rejectionReason rfl rfl rfl (by decide +kernel) ⟨Nat.le_of_ble_eq_true rfl, Nat.le_of_ble_eq_true rfl⟩) ⟨sp_blindPr, va_recv hK hP (ci := 12) (q := (RX9, TX9, 10)) rfl (q0 := 429) (fs := oF ad rj9 (σ 429)) (a := ad 429) (by rw [sp_W_at (by decide), cE_sp]), fun U hU hW => ⟨⟨rfl, by rw [hU], by rw [hU]; exact hP, va_K.moved hW.alike hK, by rw [hU]; exact (hE.go hS).warm hW⟩, by rw [hU]; exact hN1⟩⟩ rfl rfl hl.1 rfl (lv_room (Nat.le_of_ble_eq_true rfl)) dL_confirmToes_16 ⟨Nat.le_of_ble_eq_true rfl, Nat.le_of_ble_eq_true rfl⟩) hS (fun q h1 h2 => sp_Alt h1 h2) (sp_Ale hS.1) (fun H locs hP hle hfr hS => ?_)
      refine W.eq (g2 := F0 m 19 ls [.int (f_rjR (some y9)), .int (-10000)]) rfl ?_
      refine lv_isub hx hb dL_confirmToes_19 ?_
      exact W.iret (v := (-10000) - f_rjR (some y9)) hx hb hr (fun T9 hT9 _ => ⟨_, rfl, ⟨_, pm, rj9, σ, rfl, hG.mono (Nat.le_succ _) hB, by rw [hT9]; exact hP⟩, hS.F hT9⟩) hS.2.2 dL_confirmToes_20
  · refine W.widen (k := 4) (n := 21) (by omega) (by omega) ?_
    exact W.iret (v := (atO (f_findPrint σ id) 0 (fun k => (f_push σ pm 0) (9 + k) 8))) hx hb hr (fun T9 hT9 _ => ⟨_, rfl, ⟨_, pm_push pm, rj, _, rfl, hG.confirmToes hB id hthr, by rw [hT9]; exact hP⟩, hS.F hT9⟩) hS.2.2 dL_confirmToes_5
set_option maxHeartbeats 4000000 in
set_option maxRecDepth 100000 in
theorem k_L_setTide (l : Launch) (D : va_G) (ad : Nat → Nat) (cy : Nat → ClassId) (pm : Nat → Nat) (rj : Option Nat) (σ : Nat → Nat → Int32) (xq : Nat → Nat) (hst : l.stackTraces = false) (sz : Nat) (hi : sp_inj ad 459) {B : Nat} (hG : GS B σ pm) (hB : B + 1 < 1000000) (v : Int32) : Met l yL_setTide wsL_setTide ({ frames := 8, cells := 4, slots := 21, locals := 132 } : Room) (sp_Pmx xq ad 459 D (tyG cy) sz [.ref (ad (429)), .int (v)] (cW ad cy pm rj σ)) (lQ D ad cy (B + 1) (sp_A ad 459 sz)) 4 21 (sp_A ad 459 sz) := by
  have hpm := hG.hpm
  have hXI : XI [eIAE, eUOE] ((f_xLevel v).or (f_xRej (f_objTide σ v))) := XI.or (XI.fl List.mem_cons_self) (XI.fj (List.mem_cons_of_mem _ List.mem_cons_self))
  have hXJ : XJ ((f_xLevel v).or (f_xRej (f_objTide σ v))) := XJ.or (XJ.fl) (XJ.fj)
  refine va_MetW (cc := cL_setTide) (maxL := 3) (ret := (some .int)) (by decide) rfl ?_
  intro p e s m args below meth c s₁ B9 hml hv
  obtain ⟨rfl, hsz, hP, hK, hE⟩ := hv
  have hx := B9.exec
  have hb := B9.bytes
  have hr := B9.returns
  have hts := atoms_spec (ws := wsL_setTide) B9.pre
  have hown : s.vm.findClass RL = some m.cls := findClass_of_methodNamed B9.named
  have ht := vx_table (x := yL_setTide) B9 (hts _ (List.mem_of_getElem? (i := 0) rfl))
  subst hsz
  have hNC := hE.2.2.2.2.1.1
  have hS : va_S (sp_A ad 459 s.heap.size) s.heap s.heap [] := va_S.rf
  have hl := lv_entry ([.ref (ad (429)), .int (v)]) (n := 3) (Nat.le_of_ble_eq_true rfl)
  refine W.eq (lg_entry_eq _ ([.ref (ad (429)), .int (v)]) _) ?_
  generalize (lg_sl ([.ref (ad (429)), .int (v)]) ++ List.replicate (3 - (lg_sl ([.ref (ad (429)), .int (v)])).length) Slot.unset).toArray = ls at hl ⊢
  have hl : lv_has ls 3 [(0, .ref (ad (429))), (1, .int (v))] := hl
  refine lv_aload_n hx hb dL_setTide_0 rfl (lv_at hl 0 rfl) ?_
  refine lv_iload_n hx hb dL_setTide_1 rfl (lv_at hl 1 rfl) ?_
  refine sp_callx (vx_runV (As := [.int (v)]) (rest := []) ⟨hx, hb, hml, hown, hts⟩ (c_X9_setTide l D ad cy pm rj σ xq hst _ hi v hpm) (cwV 1 hts gL_setTide_X9_setTide rfl rfl rfl (by decide +kernel) ⟨Nat.le_of_ble_eq_true rfl, Nat.le_of_ble_eq_true rfl⟩) (sp_preVmx hK hP hE (κ := 429) (by decide) cE_sp rfl) rfl rfl hl.1 rfl (lv_room (Nat.le_of_ble_eq_true rfl)) dL_setTide_2 ⟨Nat.le_of_ble_eq_true rfl, Nat.le_of_ble_eq_true rfl⟩) hS (fun q _ h => h) (fun q h => h) (fun E_x r_x ce q9 H locs hthr hB9 hle hfr hS hce hcv hcl => ?_) (fun hthr H locs hP hle hfr hS => ?_)
  · have hmem := hXI E_x r_x hthr
    obtain ⟨rj9, hP, hN9⟩ := hB9
    rcases List.mem_cons.mp hmem with rfl | hmem
    · skip
      refine vx_catch (name := "java/lang/IllegalArgumentException") hown ([]) (⟨0, 5, 6, 19⟩ : ExceptionTableEntry) (tableOf [(0, 5, 11, 21)]) (by rw [ht]; rfl) (fun z hz => absurd hz List.not_mem_nil) (by decide) (by decide) (hts _ (List.mem_of_getElem? (i := 1) rfl)) (va_Nw.use rfl hE.k1) hce hcv hcl ?_
      refine lv_astore_n (lv' := [(2, .ref q9), (0, .ref (ad (429))), (1, .int (v))]) hx hb dL_setTide_6 rfl hl (by decide) rfl (fun ls hl => ?_)
      refine lv_sipush (v := (-20000)) hx hb dL_setTide_7 (by decide) ?_
      refine W.widen (k := 4) (n := 21) (by omega) (by omega) ?_
      exact W.iret (v := (-20000)) hx hb hr (fun T9 hT9 _ => ⟨_, rfl, ⟨(-20000), pm, rj9, σ, rfl, hG.mono (Nat.le_succ _) hB, by rw [hT9]; exact hP⟩, hS.F hT9⟩) hS.2.2 dL_setTide_10
    · skip
      obtain rfl := List.mem_singleton.mp hmem
      refine vx_catch (name := "java/lang/UnsupportedOperationException") hown (tableOf [(0, 5, 6, 19)]) (⟨0, 5, 11, 21⟩ : ExceptionTableEntry) (tableOf []) (by rw [ht]; rfl) (fun z hz => ((fun h9 => (List.mem_cons.mp h9).elim (fun e9 => by (subst e9; exact Or.inr ⟨by decide, "java/lang/IllegalArgumentException", hts _ (List.mem_of_getElem? (i := 1) rfl), hNC _ _ (by decide +kernel) (by decide +kernel) (by decide +kernel)⟩)) (fun h9 => absurd h9 List.not_mem_nil)) : z ∈ tableOf [(0, 5, 6, 19)] → covers z 2 = false ∨ (z.catchType ≠ 0 ∧ ∃ nm : String, (Cond.classLink RL z.catchType nm).before _ s = true ∧ va_Nc eUOE nm s)) hz) (by decide) (by decide) (hts _ (List.mem_of_getElem? (i := 2) rfl)) (va_Nw.use rfl hE.k2) hce hcv hcl ?_
      refine lv_astore_n (lv' := [(2, .ref q9), (0, .ref (ad (429))), (1, .int (v))]) hx hb dL_setTide_11 rfl hl (by decide) rfl (fun ls hl => ?_)
      refine lv_sipush (v := (-10000)) hx hb dL_setTide_12 (by decide) ?_
      obtain ⟨y9, rfl⟩ := hXJ r_x hthr
      have hN0 := hN9.mono (Nat.zero_le _)
      have hN1 : sp_N D 0 none rj9 (some y9) H := hN0
      refine lv_aload_n hx hb dL_setTide_15 rfl (lv_at hl 1 rfl) ?_
      refine sp_callm (va_runV (As := []) (rest := [.int (-10000)]) ⟨hx, hb, hml, hown, hts⟩ (vx_quiet (c_X9_rejectionReason l D ad cy pm rj9 σ xq hst (some y9) _ hi) rfl) (cwV 0 hts gL_setTide_X9_rejectionReason rfl rfl rfl (by decide +kernel) ⟨Nat.le_of_ble_eq_true rfl, Nat.le_of_ble_eq_true rfl⟩) ⟨sp_blindPr, va_recv hK hP (ci := 12) (q := (RX9, TX9, 10)) rfl (q0 := 429) (fs := oF ad rj9 (σ 429)) (a := ad 429) (by rw [sp_W_at (by decide), cE_sp]), fun U hU hW => ⟨⟨rfl, by rw [hU], by rw [hU]; exact hP, va_K.moved hW.alike hK, by rw [hU]; exact (hE.go hS).warm hW⟩, by rw [hU]; exact hN1⟩⟩ rfl rfl hl.1 rfl (lv_room (Nat.le_of_ble_eq_true rfl)) dL_setTide_16 ⟨Nat.le_of_ble_eq_true rfl, Nat.le_of_ble_eq_true rfl⟩) hS (fun q h1 h2 => sp_Alt h1 h2) (sp_Ale hS.1) (fun H locs hP hle hfr hS => ?_)
      refine W.eq (g2 := F0 m 19 ls [.int (f_rjR (some y9)), .int (-10000)]) rfl ?_
      refine lv_isub hx hb dL_setTide_19 ?_
      exact W.iret (v := (-10000) - f_rjR (some y9)) hx hb hr (fun T9 hT9 _ => ⟨_, rfl, ⟨_, pm, rj9, σ, rfl, hG.mono (Nat.le_succ _) hB, by rw [hT9]; exact hP⟩, hS.F hT9⟩) hS.2.2 dL_setTide_20
  · refine W.widen (k := 4) (n := 21) (by omega) (by omega) ?_
    exact W.iret (v := (f_below (f_push σ pm 0) v)) hx hb hr (fun T9 hT9 _ => ⟨_, rfl, ⟨_, pm_push pm, rj, _, rfl, hG.setTide hB v hthr, by rw [hT9]; exact hP⟩, hS.F hT9⟩) hS.2.2 dL_setTide_5

