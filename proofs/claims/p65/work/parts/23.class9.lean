/-! the latest rejection, read -/
def sp_Pr (D : va_G) (rj : Option Nat) (rc : Option RC) (P : Array Value → State → Prop) : Array Value → State → Prop := fun a U => P a U ∧ sp_N D 0 none rj rc U.heap
def f_xRj (rc : Option RC) : XO := match rc with
  | none => some (eNSE, none)
  | some _ => none
def f_xRjC (rc : Option RC) : XO := match rc with
  | none => some (eNSE, none)
  | some (_, _, none) => some (eNSE, none)
  | some (_, _, some _) => none
def f_rjR (rc : Option RC) : Int32 := match rc with
  | none => 0
  | some x => x.1
def f_rjD (rc : Option RC) : Int32 := match rc with
  | none => 0
  | some x => x.2.1
def f_rjCR (rc : Option RC) : Int32 := match rc with
  | some (_, _, some y) => y.1
  | _ => 0
def f_rjCD (rc : Option RC) : Int32 := match rc with
  | some (_, _, some y) => y.2
  | _ => 0
set_option maxHeartbeats 4000000 in
set_option maxRecDepth 100000 in
theorem c_X9_requireRejection_n (l : Launch) (D : va_G) (ad : Nat → Nat) (cy : Nat → ClassId) (pm : Nat → Nat) (rj : Option Nat) (σ : Nat → Nat → Int32) (xq : Nat → Nat) (hst : l.stackTraces = false) (sz : Nat) (hi : sp_inj ad 459) : vx_Met l yX9_requireRejection wsX9_requireRejection ({ frames := 6, cells := 1, slots := 6, locals := 90 } : Room) (sp_Pmx xq ad 459 D (tyG cy) sz [.null] (cW ad cy pm rj σ)) (sp_QT (some (eNSE, none)) D (none) (cW ad cy (pm) (rj) (σ)) (sp_A ad 459 sz)) (sp_XT (some (eNSE, none)) (sp_B D ad cy (pm) (σ) sz rj) (sp_A ad 459 sz)) 1 6 (sp_A ad 459 sz) := by
  refine vx_ofW (cc := cX9_requireRejection) (maxL := 1) (ret := (some (.object "SandProofreader$Rejection"))) (by decide) rfl ?_
  intro p e s m args below meth c s₁ B hml ht hv
  obtain ⟨rfl, hsz, hP, hK, hE⟩ := hv
  have hx := B.exec
  have hb := B.bytes
  have hr := B.returns
  have hts := atoms_spec (ws := wsX9_requireRejection) B.pre
  have hown : s.vm.findClass RX9 = some m.cls := findClass_of_methodNamed B.named
  have hlocks := B.notSynchronized
  subst hsz
  have hlt0 : ∀ k, k < 459 → ad k < s.heap.size := fun k hk => (sp_P_at hP hk).lt
  have hS : va_S (sp_A ad 459 s.heap.size) s.heap s.heap [] := va_S.rf
  have hAk : ∀ k, k < 459 → (sp_A ad 459 s.heap.size) (ad k) := fun k hk => Or.inl ⟨k, hk, rfl⟩
  skip
  have hl := lv_entry ([.null]) (n := 1) (Nat.le_of_ble_eq_true rfl)
  refine W.eq (lg_entry_eq _ ([.null]) _) ?_
  generalize (lg_sl ([.null]) ++ List.replicate (1 - (lg_sl ([.null])).length) Slot.unset).toArray = ls at hl ⊢
  have hl : lv_has ls 1 [(0, .null)] := hl
  refine lv_aload_nN hx hb dX9_requireRejection_0 rfl (lv_at hl 0 rfl) ?_
  refine lv_ifnonnullN hx hb dX9_requireRejection_1 ?_
  refine nx_throwSW (sa := xq 23) hx hb hst hown (hts _ (List.mem_of_getElem? (i := 1) rfl)) (hts _ (List.mem_of_getElem? (i := 2) rfl)) hE.t23 (vx_hat (fun w hw => hts w (List.mem_cons_of_mem _ (List.mem_append_right _ hw))) (by decide +kernel) (vx_c (va_Nw.use rfl hE.k3) (vx_c (va_Nw.use rfl hE.d0) (vx_c (va_Nw.use rfl hE.d1) (vx_c (va_Nw.use rfl hE.d2) vx_n))))) (by decide +kernel) hE.2.2.1 hE.2.2.2.1 hS (by rw [hml]; exact hl.1) dX9_requireRejection_4 dX9_requireRejection_7 dX9_requireRejection_8 dX9_requireRejection_11 dX9_requireRejection_14 (fun x hx => (ht x hx).elim) (Nat.le_of_ble_eq_true rfl) (by decide) (Nat.le_of_ble_eq_true rfl) (Nat.le_of_ble_eq_true rfl) hlocks (fun T9 _ h1 h2 => ⟨none, show (some (eNSE, none) : XO) = some ("java/util/NoSuchElementException", none) from (by first | (simp [Option.or, eIOO, eIAE, eUOE, eNSE, eARE, eISE]; done) | (simp [eIOO, eIAE, eUOE, eNSE, eARE, eISE]; done)), ⟨rj, sp_P_ext hP h2, rfl⟩, sp_SF hS h1 h2⟩) hS.2.2 (by omega) (by omega)

set_option maxHeartbeats 4000000 in
set_option maxRecDepth 100000 in
theorem c_X9_requireRejection_q (l : Launch) (D : va_G) (ad : Nat → Nat) (cy : Nat → ClassId) (pm : Nat → Nat) (rj : Option Nat) (σ : Nat → Nat → Int32) (q : Nat) : Met l yX9_requireRejection wsX9_requireRejection ({ frames := 6, cells := 0, slots := 0, locals := 90 } : Room) (sp_Pc D (tyG cy) [.ref (q)] (cW ad cy pm rj σ)) (sp_S (some (.ref (q)))) 0 0 (fun _ => False) := by
  refine Met.ofW (cc := cX9_requireRejection) (maxL := 1) (ret := (some (.object "SandProofreader$Rejection"))) (by decide) rfl ?_
  intro p e s m args below meth c s₁ B hml hv
  obtain ⟨rfl, hP, hK⟩ := hv
  have hx := B.exec
  have hb := B.bytes
  have hr := B.returns
  have hts := atoms_spec (ws := wsX9_requireRejection) B.pre
  have hown : s.vm.findClass RX9 = some m.cls := findClass_of_methodNamed B.named
  have hlocks := B.notSynchronized
  have hl := lv_entry ([.ref (q)]) (n := 1) (Nat.le_of_ble_eq_true rfl)
  refine W.eq (lg_entry_eq _ ([.ref (q)]) _) ?_
  generalize (lg_sl ([.ref (q)]) ++ List.replicate (1 - (lg_sl ([.ref (q)])).length) Slot.unset).toArray = ls at hl ⊢
  have hl : lv_has ls 1 [(0, .ref (q))] := hl
  refine lv_aload_n hx hb dX9_requireRejection_0 rfl (lv_at hl 0 rfl) ?_
  refine lv_ifnonnull (tgt := 15) hx hb dX9_requireRejection_1 (by decide) ?_
  refine lv_aload_n hx hb dX9_requireRejection_15 rfl (lv_at hl 0 rfl) ?_
  exact W.aret (v := .ref (q)) (rt := (.object "SandProofreader$Rejection")) hx hb hr (Or.inl ⟨_, rfl⟩) (Or.inr ⟨_, rfl⟩) (fun T9 hT9 _ => ⟨rfl, hT9⟩) (fun _ h => by cases h) dX9_requireRejection_16

theorem wi_X9_rejectionReason_X9 : ∀ w ∈ wsX90, w ∈ wsX9_rejectionReason := by decide +kernel
theorem wi_X9_rejectionReason_X5 : ∀ w ∈ wsX50, w ∈ wsX9_rejectionReason := by decide +kernel
set_option maxHeartbeats 4000000 in
set_option maxRecDepth 100000 in
theorem c_X9_rejectionReason (l : Launch) (D : va_G) (ad : Nat → Nat) (cy : Nat → ClassId) (pm : Nat → Nat) (rj : Option Nat) (σ : Nat → Nat → Int32) (xq : Nat → Nat) (hst : l.stackTraces = false) (rc : Option RC) (sz : Nat) (hi : sp_inj ad 459) : vx_Met l yX9_rejectionReason wsX9_rejectionReason ({ frames := 7, cells := 1, slots := 6, locals := 110 } : Room) (sp_Pr D rj rc (sp_Pmx xq ad 459 D (tyG cy) sz [.ref (ad (429))] (cW ad cy pm rj σ))) (sp_QT (f_xRj rc) D (some (.int (f_rjR rc))) (cW ad cy (pm) (rj) (σ)) (sp_A ad 459 sz)) (sp_XT (f_xRj rc) (sp_B D ad cy (pm) (σ) sz rj) (sp_A ad 459 sz)) 1 6 (sp_A ad 459 sz) := by
  refine vx_ofW (cc := cX9_rejectionReason) (maxL := 1) (ret := (some .int)) (by decide) rfl ?_
  intro p e s m args below meth c s₁ B hml ht hv
  obtain ⟨hv, hR⟩ := hv
  obtain ⟨rfl, hsz, hP, hK, hE⟩ := hv
  have hx := B.exec
  have hb := B.bytes
  have hr := B.returns
  have hts := atoms_spec (ws := wsX9_rejectionReason) B.pre
  have hown : s.vm.findClass RX9 = some m.cls := findClass_of_methodNamed B.named
  have hlocks := B.notSynchronized
  subst hsz
  have hlt0 : ∀ k, k < 459 → ad k < s.heap.size := fun k hk => (sp_P_at hP hk).lt
  have hS : va_S (sp_A ad 459 s.heap.size) s.heap s.heap [] := va_S.rf
  have hAk : ∀ k, k < 459 → (sp_A ad 459 s.heap.size) (ad k) := fun k hk => Or.inl ⟨k, hk, rfl⟩
  skip
  have hl := lv_entry ([.ref (ad (429))]) (n := 1) (Nat.le_of_ble_eq_true rfl)
  refine W.eq (lg_entry_eq _ ([.ref (ad (429))]) _) ?_
  generalize (lg_sl ([.ref (ad (429))]) ++ List.replicate (1 - (lg_sl ([.ref (ad (429))])).length) Slot.unset).toArray = ls at hl ⊢
  have hl : lv_has ls 1 [(0, .ref (ad (429)))] := hl
  refine lv_aload_n hx hb dX9_rejectionReason_0 rfl (lv_at hl 0 rfl) ?_
  refine sp_get hx hb hts wi_X9_rejectionReason_X9 hown hK hP (κ := 429) (by decide) cE_sp rfl 8 (by decide) (hts _ (List.mem_of_getElem? (i := 1) rfl)) (fun _ h => h) rfl dX9_rejectionReason_1 ?_
  rcases rc with _ | ⟨x1, x2, c9⟩
  · have hrj : rj = none := hR
    subst hrj
    have hS0_x_1 := hS.1
    refine sp_callx (vx_runS (As := [.null]) (rest := []) ⟨hx, hb, hml, hown, hts⟩ (c_X9_requireRejection_n l D ad cy pm none σ xq hst _ hi ) (va_cwS 1 hts gX9_rejectionReason_X9_requireRejection rfl rfl rfl (by decide +kernel) ⟨Nat.le_of_ble_eq_true rfl, Nat.le_of_ble_eq_true rfl⟩) (sp_preSmx hK hP (hE.go hS)) rfl rfl hl.1 rfl (lv_room (Nat.le_of_ble_eq_true rfl)) dX9_rejectionReason_4 ⟨Nat.le_of_ble_eq_true rfl, Nat.le_of_ble_eq_true rfl⟩) hS (fun q h1 h2 => sp_Alt h1 h2) (sp_Ale hS.1) (fun E_x_1 r_x_1 ce_x_1 q9_x_1 H locs hthr_x_1 hB_x_1 hle hfr hS hce_x_1 hcv_x_1 hcl_x_1 => ?_) (fun hthr_x_1 H locs hP hle hfr hS => ?_)
    · skip
      obtain ⟨rj9, hPx, hN⟩ := hB_x_1
      exact vx_out (fun x hx => (ht x hx).elim) hlocks hce_x_1 hcv_x_1 hcl_x_1 (fun T9 hT9 _ => ⟨r_x_1, show (f_xRj none : XO) = some (E_x_1, r_x_1) from (by first | (simp [Option.or, eIOO, eIAE, eUOE, eNSE, eARE, eISE, hthr_x_1]; done) | ((try simp only [hthr_x_1]); simp [f_xRj, f_rjR, eIOO, eIAE, eUOE, eNSE, eARE, eISE, hthr_x_1]; done)), by rw [hT9]; exact ⟨rj9, hPx, hN.mono hS0_x_1⟩, hS.F hT9⟩) hS.2.2 (by omega) (by omega)
    · cases hthr_x_1
  · obtain ⟨a9, cz9, hrj, hge9, hat9, hc9⟩ := hR
    subst hrj
    refine sp_call (W.runS (As := [.ref (a9)]) (rest := []) ⟨hx, hb, hml, hown, hts⟩ (c_X9_requireRejection_q l D ad cy pm (some a9) σ a9) (va_cwS 1 hts gX9_rejectionReason_X9_requireRejection rfl rfl rfl (by decide +kernel) ⟨Nat.le_of_ble_eq_true rfl, Nat.le_of_ble_eq_true rfl⟩) (sp_preS hK hP) rfl rfl hl.1 rfl (lv_room (Nat.le_of_ble_eq_true rfl)) dX9_rejectionReason_4 ⟨Nat.le_of_ble_eq_true rfl, Nat.le_of_ble_eq_true rfl⟩) ?_
    refine W.eq (g2 := F0 m 7 ls [.ref (a9)]) rfl ?_
    refine va_get (C := RX5) (T := TX5) (N := 3) hx hb hts wi_X9_rejectionReason_X5 hown hK (sp_one hat9) 0 rfl rfl 0 (by decide) (hts _ (List.mem_of_getElem? (i := 2) rfl)) (fun _ h => h) rfl dX9_rejectionReason_7 ?_
    refine W.widen (k := 1) (n := 6) (by omega) (by omega) ?_
    exact vx_ret (W.iret (v := x1) hx hb hr (fun T9 hT9 _ => ⟨show (f_xRj (some (x1, x2, c9)) : XO) = none from (by first | (simp [Option.or, eIOO, eIAE, eUOE, eNSE, eARE, eISE]; done) | (simp [f_xRj, f_rjR, eIOO, eIAE, eUOE, eNSE, eARE, eISE]; done)), congrArg (fun z9 => Outcome.returned (some (Value.int z9))) (show (x1 : Int32) = f_rjR (some (x1, x2, c9)) from (by first | rfl | (simp [f_rjR, b2i]; done))), by rw [hT9]; exact hP, hS.F hT9⟩) hS.2.2 dX9_rejectionReason_10)
