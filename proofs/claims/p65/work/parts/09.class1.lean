/-! what the class's reading methods answer -/
def f_isOn (σ : Nat → Nat → Int32) (κ : Nat) (t : Int32) : Bool := σ κ 0 != 0 && σ κ 2 == t
def f_dist (σ : Nat → Nat → Int32) (κ : Nat) (r c1 : Int32) : Int32 := iabs (σ κ 4 - r) + iabs (σ κ 5 - c1)
def P_findTrack (σ : Nat → Nat → Int32) (id : Int32) (i : Nat) : Bool := σ (3 + i) 0 != 0 && σ (3 + i) 1 == id
def f_findTrack (σ : Nat → Nat → Int32) (id : Int32) : Option Nat := fstI (P_findTrack σ id) 6
theorem f_findTrack_lt {σ : Nat → Nat → Int32} {id : Int32} {j : Nat} (h : f_findTrack σ id = some j) : j < 6 := (fstI_some h).1
def P_findPrint (σ : Nat → Nat → Int32) (id : Int32) (i : Nat) : Bool := σ (9 + i) 0 != 0 && σ (9 + i) 1 == id
def f_findPrint (σ : Nat → Nat → Int32) (id : Int32) : Option Nat := fstI (P_findPrint σ id) 30
theorem f_findPrint_lt {σ : Nat → Nat → Int32} {id : Int32} {j : Nat} (h : f_findPrint σ id = some j) : j < 30 := (fstI_some h).1
def P_inCell (σ : Nat → Nat → Int32) (r c1 : Int32) (i : Nat) : Bool := σ (9 + i) 0 != 0 && σ (9 + i) 4 == r && σ (9 + i) 5 == c1
def f_inCell (σ : Nat → Nat → Int32) (r c1 : Int32) : Option Nat := fstI (P_inCell σ r c1) 30
theorem f_inCell_lt {σ : Nat → Nat → Int32} {r c1 : Int32} {j : Nat} (h : f_inCell σ r c1 = some j) : j < 30 := (fstI_some h).1
def P_atTime (σ : Nat → Nat → Int32) (t u : Int32) (i : Nat) : Bool := f_isOn σ (9 + i) t && σ (9 + i) 3 == u
def f_atTime (σ : Nat → Nat → Int32) (t u : Int32) : Option Nat := fstI (P_atTime σ t u) 30
theorem f_atTime_lt {σ : Nat → Nat → Int32} {t u : Int32} {j : Nat} (h : f_atTime σ t u = some j) : j < 30 := (fstI_some h).1
def F_countTracks (σ : Nat → Nat → Int32) (i : Nat) : Int32 := b2i (σ (3 + i) 0 != 0)
def f_countTracks (σ : Nat → Nat → Int32) : Int32 := sumI (F_countTracks σ) 6
def F_inRows (σ : Nat → Nat → Int32) (a1 b1 : Int32) (i : Nat) : Int32 := b2i (σ (9 + i) 0 != 0 && decide (a1 ≤ σ (9 + i) 4) && decide (σ (9 + i) 4 < b1))
def f_countPrintsInRows (σ : Nat → Nat → Int32) (a1 b1 : Int32) : Int32 := sumI (F_inRows σ a1 b1) 30
def F_late (σ : Nat → Nat → Int32) (i : Nat) : Int32 := b2i (σ (9 + i) 0 != 0 && σ (9 + i) 9 != 0)
def f_countLatePrints (σ : Nat → Nat → Int32) : Int32 := sumI (F_late σ) 30
def F_between (σ : Nat → Nat → Int32) (t a1 b1 : Int32) (i : Nat) : Int32 := b2i (f_isOn σ (9 + i) t && decide (a1 < σ (9 + i) 3) && decide (σ (9 + i) 3 < b1))
def f_countPrintsBetween (σ : Nat → Nat → Int32) (t a1 b1 : Int32) : Int32 := sumI (F_between σ t a1 b1) 30
theorem wi_X3_isOn_X3 : ∀ w ∈ wsX30, w ∈ wsX3_isOn := by decide +kernel
set_option maxHeartbeats 4000000 in
set_option maxRecDepth 100000 in
theorem c_X3_isOn (l : Launch) (D : va_G) (ad : Nat → Nat) (cy : Nat → ClassId) (pm : Nat → Nat) (rj : Option Nat) (σ : Nat → Nat → Int32) (κ : Nat) (hκ : κ < 429) (hκ2 : 9 ≤ κ % 39) (t : Int32) : Met l yX3_isOn wsX3_isOn ({ frames := 0, cells := 0, slots := 0, locals := 0 } : Room) (sp_Pc D (tyG cy) [.ref (ad (κ)), .int (t)] (cW ad cy pm rj σ)) (sp_S (some (.int (b2i (f_isOn σ κ t))))) 0 0 (fun _ => False) := by
  refine Met.ofW (cc := cX3_isOn) (maxL := 2) (ret := (some .boolean)) (by decide) rfl ?_
  intro p e s m args below meth c s₁ B hml hv
  obtain ⟨rfl, hP, hK⟩ := hv
  have hx := B.exec
  have hb := B.bytes
  have hr := B.returns
  have hts := atoms_spec (ws := wsX3_isOn) B.pre
  have hown : s.vm.findClass RX3 = some m.cls := findClass_of_methodNamed B.named
  have hlocks := B.notSynchronized
  have hl := lv_entry ([.ref (ad (κ)), .int (t)]) (n := 2) (Nat.le_of_ble_eq_true rfl)
  refine W.eq (lg_entry_eq _ ([.ref (ad (κ)), .int (t)]) _) ?_
  generalize (lg_sl ([.ref (ad (κ)), .int (t)]) ++ List.replicate (2 - (lg_sl ([.ref (ad (κ)), .int (t)])).length) Slot.unset).toArray = ls at hl ⊢
  have hl : lv_has ls 2 [(0, .ref (ad (κ))), (1, .int (t))] := hl
  refine lv_aload_n hx hb dX3_isOn_0 rfl (lv_at hl 0 rfl) ?_
  refine sp_get hx hb hts wi_X3_isOn_X3 hown hK hP (κ := κ) (by omega) (cE_print (by omega) (by omega)) rfl 0 (by decide) (hts _ (List.mem_of_getElem? (i := 1) rfl)) (fun _ h => h) rfl dX3_isOn_1 ?_
  refine lv_if_eq (tgt := 19) hx hb dX3_isOn_4 (by decide) (fun c_1 => ?_) (fun c_1 => ?_)
  · rw [bz_eq0] at c_1
    refine lv_iconst (v := 0) hx hb dX3_isOn_19 (by decide) ?_
    exact W.zret (v := 0) hx hb hr (by decide) (fun T9 hT9 _ => ⟨by rw [show (0 : Int32) = b2i (f_isOn σ κ t) from (by first | rfl | (simp [f_isOn, b2i, c_1]; done))], hT9⟩) (fun _ h => by cases h) dX3_isOn_20
  · rw [bz_eq0] at c_1
    refine lv_aload_n hx hb dX3_isOn_7 rfl (lv_at hl 0 rfl) ?_
    refine sp_get hx hb hts wi_X3_isOn_X3 hown hK hP (κ := κ) (by omega) (cE_print (by omega) (by omega)) rfl 2 (by decide) (hts _ (List.mem_of_getElem? (i := 2) rfl)) (fun _ h => h) rfl dX3_isOn_8 ?_
    refine lv_iload_n hx hb dX3_isOn_11 rfl (lv_at hl 1 rfl) ?_
    refine lv_icmp_ne (tgt := 19) hx hb dX3_isOn_12 (by decide) (fun c_2 => ?_) (fun c_2 => ?_)
    · skip
      refine lv_iconst (v := 0) hx hb dX3_isOn_19 (by decide) ?_
      exact W.zret (v := 0) hx hb hr (by decide) (fun T9 hT9 _ => ⟨by rw [show (0 : Int32) = b2i (f_isOn σ κ t) from (by first | rfl | (simp [f_isOn, b2i, c_1, c_2]; done))], hT9⟩) (fun _ h => by cases h) dX3_isOn_20
    · skip
      refine lv_iconst (v := 1) hx hb dX3_isOn_15 (by decide) ?_
      refine lv_goto (tgt := 20) hx hb dX3_isOn_16 (by decide) ?_
      exact W.zret (v := 1) hx hb hr (by decide) (fun T9 hT9 _ => ⟨by rw [show (1 : Int32) = b2i (f_isOn σ κ t) from (by first | rfl | (simp [f_isOn, b2i, c_1, c_2]; done))], hT9⟩) (fun _ h => by cases h) dX3_isOn_20

theorem wi_X3_distanceTo_X3 : ∀ w ∈ wsX30, w ∈ wsX3_distanceTo := by decide +kernel
set_option maxHeartbeats 4000000 in
set_option maxRecDepth 100000 in
theorem c_X3_distanceTo (l : Launch) (D : va_G) (ad : Nat → Nat) (cy : Nat → ClassId) (pm : Nat → Nat) (rj : Option Nat) (σ : Nat → Nat → Int32) (κ : Nat) (hκ : κ < 429) (hκ2 : 9 ≤ κ % 39) (r : Int32) (c1 : Int32) : Met l yX3_distanceTo wsX3_distanceTo ({ frames := 1, cells := 0, slots := 0, locals := 22 } : Room) (sp_Pc D (tyG cy) [.ref (ad (κ)), .int (r), .int (c1)] (cW ad cy pm rj σ)) (sp_S (some (.int (f_dist σ κ r c1)))) 0 0 (fun _ => False) := by
  refine Met.ofW (cc := cX3_distanceTo) (maxL := 3) (ret := (some .int)) (by decide) rfl ?_
  intro p e s m args below meth c s₁ B hml hv
  obtain ⟨rfl, hP, hK⟩ := hv
  have hx := B.exec
  have hb := B.bytes
  have hr := B.returns
  have hts := atoms_spec (ws := wsX3_distanceTo) B.pre
  have hown : s.vm.findClass RX3 = some m.cls := findClass_of_methodNamed B.named
  have hlocks := B.notSynchronized
  have hl := lv_entry ([.ref (ad (κ)), .int (r), .int (c1)]) (n := 3) (Nat.le_of_ble_eq_true rfl)
  refine W.eq (lg_entry_eq _ ([.ref (ad (κ)), .int (r), .int (c1)]) _) ?_
  generalize (lg_sl ([.ref (ad (κ)), .int (r), .int (c1)]) ++ List.replicate (3 - (lg_sl ([.ref (ad (κ)), .int (r), .int (c1)])).length) Slot.unset).toArray = ls at hl ⊢
  have hl : lv_has ls 3 [(0, .ref (ad (κ))), (1, .int (r)), (2, .int (c1))] := hl
  refine lv_aload_n hx hb dX3_distanceTo_0 rfl (lv_at hl 0 rfl) ?_
  refine sp_get hx hb hts wi_X3_distanceTo_X3 hown hK hP (κ := κ) (by omega) (cE_print (by omega) (by omega)) rfl 4 (by decide) (hts _ (List.mem_of_getElem? (i := 1) rfl)) (fun _ h => h) rfl dX3_distanceTo_1 ?_
  refine lv_iload_n hx hb dX3_distanceTo_4 rfl (lv_at hl 1 rfl) ?_
  refine lv_isub hx hb dX3_distanceTo_5 ?_
  refine va_mabs hx hb (by rw [hml]; exact hl.1.symm) hown (hts _ (List.mem_of_getElem? (i := 2) rfl)) (hts _ (List.mem_of_getElem? (i := 3) rfl)) (hts _ (List.mem_of_getElem? (i := 4) rfl)) (hts _ (List.mem_of_getElem? (i := 5) rfl)) (Nat.le_of_ble_eq_true rfl) (Nat.le_of_ble_eq_true rfl) (Nat.le_of_ble_eq_true rfl) (Nat.le_of_ble_eq_true rfl) dX3_distanceTo_6 ?_
  refine W.eq (g2 := F0 m 9 ls [.int (iabs ((σ κ 4) - r))]) rfl ?_
  refine lv_aload_n hx hb dX3_distanceTo_9 rfl (lv_at hl 0 rfl) ?_
  refine sp_get hx hb hts wi_X3_distanceTo_X3 hown hK hP (κ := κ) (by omega) (cE_print (by omega) (by omega)) rfl 5 (by decide) (hts _ (List.mem_of_getElem? (i := 6) rfl)) (fun _ h => h) rfl dX3_distanceTo_10 ?_
  refine lv_iload_n hx hb dX3_distanceTo_13 rfl (lv_at hl 2 rfl) ?_
  refine lv_isub hx hb dX3_distanceTo_14 ?_
  refine va_mabs hx hb (by rw [hml]; exact hl.1.symm) hown (hts _ (List.mem_of_getElem? (i := 2) rfl)) (hts _ (List.mem_of_getElem? (i := 3) rfl)) (hts _ (List.mem_of_getElem? (i := 4) rfl)) (hts _ (List.mem_of_getElem? (i := 5) rfl)) (Nat.le_of_ble_eq_true rfl) (Nat.le_of_ble_eq_true rfl) (Nat.le_of_ble_eq_true rfl) (Nat.le_of_ble_eq_true rfl) dX3_distanceTo_15 ?_
  refine W.eq (g2 := F0 m 18 ls [.int (iabs ((σ κ 5) - c1)), .int (iabs ((σ κ 4) - r))]) rfl ?_
  refine lv_iadd hx hb dX3_distanceTo_18 ?_
  exact W.iret (v := (iabs ((σ κ 4) - r)) + (iabs ((σ κ 5) - c1))) hx hb hr (fun T9 hT9 _ => ⟨by rw [show ((iabs ((σ κ 4) - r)) + (iabs ((σ κ 5) - c1)) : Int32) = f_dist σ κ r c1 from (by first | rfl | (simp [f_dist, b2i]; done))], hT9⟩) (fun _ h => by cases h) dX3_distanceTo_19

theorem wi_X0_findTrack_X0 : ∀ w ∈ wsX00, w ∈ wsX0_findTrack := by decide +kernel
theorem wi_X0_findTrack_X8 : ∀ w ∈ wsX80, w ∈ wsX0_findTrack := by decide +kernel
set_option maxHeartbeats 4000000 in
set_option maxRecDepth 100000 in
theorem c_X0_findTrack (l : Launch) (D : va_G) (ad : Nat → Nat) (cy : Nat → ClassId) (pm : Nat → Nat) (rj : Option Nat) (σ : Nat → Nat → Int32) (id : Int32) : Met l yX0_findTrack wsX0_findTrack ({ frames := 0, cells := 0, slots := 0, locals := 0 } : Room) (sp_Pc D (tyG cy) [.ref (ad (0)), .int (id)] (cW ad cy pm rj σ)) (sp_S (some (va_rf ((f_findTrack σ id).map (fun i => ad (3 + i)))))) 0 0 (fun _ => False) := by
  refine Met.ofW (cc := cX0_findTrack) (maxL := 6) (ret := (some (.object "SandProofreader$Track"))) (by decide) rfl ?_
  intro p e s m args below meth c s₁ B hml hv
  obtain ⟨rfl, hP, hK⟩ := hv
  have hx := B.exec
  have hb := B.bytes
  have hr := B.returns
  have hts := atoms_spec (ws := wsX0_findTrack) B.pre
  have hown : s.vm.findClass RX0 = some m.cls := findClass_of_methodNamed B.named
  have hlocks := B.notSynchronized
  have hl := lv_entry ([.ref (ad (0)), .int (id)]) (n := 6) (Nat.le_of_ble_eq_true rfl)
  refine W.eq (lg_entry_eq _ ([.ref (ad (0)), .int (id)]) _) ?_
  generalize (lg_sl ([.ref (ad (0)), .int (id)]) ++ List.replicate (6 - (lg_sl ([.ref (ad (0)), .int (id)])).length) Slot.unset).toArray = ls at hl ⊢
  have hl : lv_has ls 6 [(0, .ref (ad (0))), (1, .int (id))] := hl
  refine lv_aload_n hx hb dX0_findTrack_0 rfl (lv_at hl 0 rfl) ?_
  refine sp_get hx hb hts wi_X0_findTrack_X0 hown hK hP (κ := 0) (by omega) (cE_beach (by omega) (by omega)) rfl 0 (by decide) (hts _ (List.mem_of_getElem? (i := 1) rfl)) (fun _ h => h) rfl dX0_findTrack_1 ?_
  refine lv_astore_n (lv' := [(2, .ref (ad (1))), (0, .ref (ad (0))), (1, .int (id))]) hx hb dX0_findTrack_4 rfl hl (by decide) rfl (fun ls hl => ?_)
  refine lv_aload_n hx hb dX0_findTrack_5 rfl (lv_at hl 0 rfl) ?_
  refine sp_alen hx hb hK hP (κ := 1) (by omega) 5 (cE_tracks (by omega) (by omega)) rfl (v := 6) rfl dX0_findTrack_6 ?_
  refine lv_istore_n (lv' := [(3, .int (6)), (2, .ref (ad (1))), (0, .ref (ad (0))), (1, .int (id))]) hx hb dX0_findTrack_7 rfl hl (by decide) rfl (fun ls hl => ?_)
  refine lv_iconst (v := 0) hx hb dX0_findTrack_8 (by decide) ?_
  refine lv_istore (lv' := [(4, .int (0)), (3, .int (6)), (2, .ref (ad (1))), (0, .ref (ad (0))), (1, .int (id))]) hx hb dX0_findTrack_9 hl (by decide) rfl (fun ls hl => ?_)
  have loop_11 : ∀ (n i : Nat), (i ≤ 6) → (6 - i < n) → (fstI (P_findTrack σ id) i = none) → ∀ ls : Array Slot, lv_has ls 6 [(4, .int (nI i)), (3, .int (6)), (2, .ref (ad (1))), (0, .ref (ad (0))), (1, .int (id))] → W p l e (headSpec wsX0_findTrack ({ frames := 0, cells := 0, slots := 0, locals := 0 } : Room)).room s m ([.ref (ad (0)), .int (id)] : List Value).toArray below meth c s.heap [] 0 0 (MQ below (sp_S (some (va_rf ((f_findTrack σ id).map (fun i => ad (3 + i)))))) ([.ref (ad (0)), .int (id)] : List Value).toArray s 0 0 (fun _ => False)) (F0 m 11 ls []) := by
    intro n
    induction n with
    | zero => intro i hle hlt hi_0 ls hl; exact absurd hlt (Nat.not_lt_zero _)
    | succ n ih =>
      intro i hle hlt hi_0 ls hl
      refine lv_iload hx hb dX0_findTrack_11 (lv_at hl 0 rfl) ?_
      refine lv_iload_n hx hb dX0_findTrack_13 rfl (lv_at hl 1 rfl) ?_
      refine lv_icmp_ge (tgt := 49) hx hb dX0_findTrack_14 (by decide) (fun c_1 => ?_) (fun c_1 => ?_)
      · skip
        have c_1d := Int32.not_lt.mpr c_1
        have hx_i : i = 6 := by have := (nI_leI (a := 6) (b := i) (by omega) (by omega)).mp c_1; omega
        try rw [hx_i] at hi_0
        refine lv_null hx hb dX0_findTrack_49 ?_
        exact W.aret (v := .null) (rt := (.object "SandProofreader$Track")) hx hb hr (Or.inl ⟨_, rfl⟩) (Or.inl rfl) (fun T9 hT9 _ => ⟨by rw [show f_findTrack σ id = none from (by exact hi_0)]; rfl, hT9⟩) (fun _ h => by cases h) dX0_findTrack_50
      · skip
        have c_1d := Int32.not_le.mp c_1
        have hb_i : i < 6 := Nat.lt_of_not_le (fun z => c_1 (nI_le z (by omega)))
        refine lv_aload_n hx hb dX0_findTrack_17 rfl (lv_at hl 2 rfl) ?_
        refine lv_iload hx hb dX0_findTrack_18 (lv_at hl 0 rfl) ?_
        refine sp_aald hx hb hK hP (κ := 1) (by omega) 5 (cE_tracks (by omega) (by omega)) rfl i rfl (by omega) (by decide) (q := ad (3 + i)) rfl dX0_findTrack_20 ?_
        refine lv_astore (lv' := [(5, .ref (ad (3 + i))), (4, .int (nI i)), (3, .int (6)), (2, .ref (ad (1))), (0, .ref (ad (0))), (1, .int (id))]) hx hb dX0_findTrack_21 hl (by decide) rfl (fun ls hl => ?_)
        refine lv_aload hx hb dX0_findTrack_23 (lv_at hl 0 rfl) ?_
        refine sp_get hx hb hts wi_X0_findTrack_X8 hown hK hP (κ := 3 + i) (by omega) (cE_track (by omega) (by omega)) rfl 0 (by decide) (hts _ (List.mem_of_getElem? (i := 2) rfl)) (fun _ h => h) rfl dX0_findTrack_25 ?_
        refine lv_if_eq (tgt := 43) hx hb dX0_findTrack_28 (by decide) (fun c_2 => ?_) (fun c_2 => ?_)
        · rw [bz_eq0] at c_2
          refine lv_iinc (v := nI (i + 1)) (lv' := [(4, .int (nI (i + 1))), (5, .ref (ad (3 + i))), (3, .int (6)), (2, .ref (ad (1))), (0, .ref (ad (0))), (1, .int (id))]) hx hb dX0_findTrack_43 hl (k := 1) rfl (nI_1 _) (by decide) rfl (fun ls hl => ?_)
          refine lv_goto (tgt := 11) hx hb dX0_findTrack_46 (by decide) ?_
          exact ih (i + 1) (by omega) (by omega) (fstI_succ_no hi_0 (by simp [b2i, f_findTrack, P_findTrack, c_2])) ls (lv_sub hl [0, 2, 3, 4, 5] rfl)
        · rw [bz_eq0] at c_2
          refine lv_aload hx hb dX0_findTrack_31 (lv_at hl 0 rfl) ?_
          refine sp_get hx hb hts wi_X0_findTrack_X8 hown hK hP (κ := 3 + i) (by omega) (cE_track (by omega) (by omega)) rfl 1 (by decide) (hts _ (List.mem_of_getElem? (i := 3) rfl)) (fun _ h => h) rfl dX0_findTrack_33 ?_
          refine lv_iload_n hx hb dX0_findTrack_36 rfl (lv_at hl 5 rfl) ?_
          refine lv_icmp_ne (tgt := 43) hx hb dX0_findTrack_37 (by decide) (fun c_3 => ?_) (fun c_3 => ?_)
          · skip
            refine lv_iinc (v := nI (i + 1)) (lv' := [(4, .int (nI (i + 1))), (5, .ref (ad (3 + i))), (3, .int (6)), (2, .ref (ad (1))), (0, .ref (ad (0))), (1, .int (id))]) hx hb dX0_findTrack_43 hl (k := 1) rfl (nI_1 _) (by decide) rfl (fun ls hl => ?_)
            refine lv_goto (tgt := 11) hx hb dX0_findTrack_46 (by decide) ?_
            exact ih (i + 1) (by omega) (by omega) (fstI_succ_no hi_0 (by simp [b2i, f_findTrack, P_findTrack, c_2, c_3])) ls (lv_sub hl [0, 2, 3, 4, 5] rfl)
          · skip
            refine lv_aload hx hb dX0_findTrack_40 (lv_at hl 0 rfl) ?_
            exact W.aret (v := .ref (ad (3 + i))) (rt := (.object "SandProofreader$Track")) hx hb hr (Or.inl ⟨_, rfl⟩) (Or.inr ⟨_, rfl⟩) (fun T9 hT9 _ => ⟨by rw [show f_findTrack σ id = some (i) from (by exact fstI_hit hi_0 (by simp [b2i, f_findTrack, P_findTrack, c_2, c_3]) hb_i)]; rfl, hT9⟩) (fun _ h => by cases h) dX0_findTrack_42
  exact loop_11 (6 + 1) (0)  (by omega) (by omega) (rfl) ls (lv_sub hl [0, 1, 2, 3, 4] rfl)

theorem wi_X0_findPrint_X0 : ∀ w ∈ wsX00, w ∈ wsX0_findPrint := by decide +kernel
theorem wi_X0_findPrint_X3 : ∀ w ∈ wsX30, w ∈ wsX0_findPrint := by decide +kernel
set_option maxHeartbeats 4000000 in
set_option maxRecDepth 100000 in
theorem c_X0_findPrint (l : Launch) (D : va_G) (ad : Nat → Nat) (cy : Nat → ClassId) (pm : Nat → Nat) (rj : Option Nat) (σ : Nat → Nat → Int32) (id : Int32) : Met l yX0_findPrint wsX0_findPrint ({ frames := 0, cells := 0, slots := 0, locals := 0 } : Room) (sp_Pc D (tyG cy) [.ref (ad (0)), .int (id)] (cW ad cy pm rj σ)) (sp_S (some (va_rf ((f_findPrint σ id).map (fun i => ad (9 + i)))))) 0 0 (fun _ => False) := by
  refine Met.ofW (cc := cX0_findPrint) (maxL := 6) (ret := (some (.object "SandProofreader$Print"))) (by decide) rfl ?_
  intro p e s m args below meth c s₁ B hml hv
  obtain ⟨rfl, hP, hK⟩ := hv
  have hx := B.exec
  have hb := B.bytes
  have hr := B.returns
  have hts := atoms_spec (ws := wsX0_findPrint) B.pre
  have hown : s.vm.findClass RX0 = some m.cls := findClass_of_methodNamed B.named
  have hlocks := B.notSynchronized
  have hl := lv_entry ([.ref (ad (0)), .int (id)]) (n := 6) (Nat.le_of_ble_eq_true rfl)
  refine W.eq (lg_entry_eq _ ([.ref (ad (0)), .int (id)]) _) ?_
  generalize (lg_sl ([.ref (ad (0)), .int (id)]) ++ List.replicate (6 - (lg_sl ([.ref (ad (0)), .int (id)])).length) Slot.unset).toArray = ls at hl ⊢
  have hl : lv_has ls 6 [(0, .ref (ad (0))), (1, .int (id))] := hl
  refine lv_aload_n hx hb dX0_findPrint_0 rfl (lv_at hl 0 rfl) ?_
  refine sp_get hx hb hts wi_X0_findPrint_X0 hown hK hP (κ := 0) (by omega) (cE_beach (by omega) (by omega)) rfl 1 (by decide) (hts _ (List.mem_of_getElem? (i := 1) rfl)) (fun _ h => h) rfl dX0_findPrint_1 ?_
  refine lv_astore_n (lv' := [(2, .ref (ad (2))), (0, .ref (ad (0))), (1, .int (id))]) hx hb dX0_findPrint_4 rfl hl (by decide) rfl (fun ls hl => ?_)
  refine lv_aload_n hx hb dX0_findPrint_5 rfl (lv_at hl 0 rfl) ?_
  refine sp_alen hx hb hK hP (κ := 2) (by omega) 4 (cE_prints (by omega) (by omega)) rfl (v := 30) rfl dX0_findPrint_6 ?_
  refine lv_istore_n (lv' := [(3, .int (30)), (2, .ref (ad (2))), (0, .ref (ad (0))), (1, .int (id))]) hx hb dX0_findPrint_7 rfl hl (by decide) rfl (fun ls hl => ?_)
  refine lv_iconst (v := 0) hx hb dX0_findPrint_8 (by decide) ?_
  refine lv_istore (lv' := [(4, .int (0)), (3, .int (30)), (2, .ref (ad (2))), (0, .ref (ad (0))), (1, .int (id))]) hx hb dX0_findPrint_9 hl (by decide) rfl (fun ls hl => ?_)
  have loop_11 : ∀ (n i : Nat), (i ≤ 30) → (30 - i < n) → (fstI (P_findPrint σ id) i = none) → ∀ ls : Array Slot, lv_has ls 6 [(4, .int (nI i)), (3, .int (30)), (2, .ref (ad (2))), (0, .ref (ad (0))), (1, .int (id))] → W p l e (headSpec wsX0_findPrint ({ frames := 0, cells := 0, slots := 0, locals := 0 } : Room)).room s m ([.ref (ad (0)), .int (id)] : List Value).toArray below meth c s.heap [] 0 0 (MQ below (sp_S (some (va_rf ((f_findPrint σ id).map (fun i => ad (9 + i)))))) ([.ref (ad (0)), .int (id)] : List Value).toArray s 0 0 (fun _ => False)) (F0 m 11 ls []) := by
    intro n
    induction n with
    | zero => intro i hle hlt hi_0 ls hl; exact absurd hlt (Nat.not_lt_zero _)
    | succ n ih =>
      intro i hle hlt hi_0 ls hl
      refine lv_iload hx hb dX0_findPrint_11 (lv_at hl 0 rfl) ?_
      refine lv_iload_n hx hb dX0_findPrint_13 rfl (lv_at hl 1 rfl) ?_
      refine lv_icmp_ge (tgt := 49) hx hb dX0_findPrint_14 (by decide) (fun c_1 => ?_) (fun c_1 => ?_)
      · skip
        have c_1d := Int32.not_lt.mpr c_1
        have hx_i : i = 30 := by have := (nI_leI (a := 30) (b := i) (by omega) (by omega)).mp c_1; omega
        try rw [hx_i] at hi_0
        refine lv_null hx hb dX0_findPrint_49 ?_
        exact W.aret (v := .null) (rt := (.object "SandProofreader$Print")) hx hb hr (Or.inl ⟨_, rfl⟩) (Or.inl rfl) (fun T9 hT9 _ => ⟨by rw [show f_findPrint σ id = none from (by exact hi_0)]; rfl, hT9⟩) (fun _ h => by cases h) dX0_findPrint_50
      · skip
        have c_1d := Int32.not_le.mp c_1
        have hb_i : i < 30 := Nat.lt_of_not_le (fun z => c_1 (nI_le z (by omega)))
        refine lv_aload_n hx hb dX0_findPrint_17 rfl (lv_at hl 2 rfl) ?_
        refine lv_iload hx hb dX0_findPrint_18 (lv_at hl 0 rfl) ?_
        refine sp_aald hx hb hK hP (κ := 2) (by omega) 4 (cE_prints (by omega) (by omega)) rfl i rfl (by omega) (by decide) (q := ad (9 + i)) rfl dX0_findPrint_20 ?_
        refine lv_astore (lv' := [(5, .ref (ad (9 + i))), (4, .int (nI i)), (3, .int (30)), (2, .ref (ad (2))), (0, .ref (ad (0))), (1, .int (id))]) hx hb dX0_findPrint_21 hl (by decide) rfl (fun ls hl => ?_)
        refine lv_aload hx hb dX0_findPrint_23 (lv_at hl 0 rfl) ?_
        refine sp_get hx hb hts wi_X0_findPrint_X3 hown hK hP (κ := 9 + i) (by omega) (cE_print (by omega) (by omega)) rfl 0 (by decide) (hts _ (List.mem_of_getElem? (i := 2) rfl)) (fun _ h => h) rfl dX0_findPrint_25 ?_
        refine lv_if_eq (tgt := 43) hx hb dX0_findPrint_28 (by decide) (fun c_2 => ?_) (fun c_2 => ?_)
        · rw [bz_eq0] at c_2
          refine lv_iinc (v := nI (i + 1)) (lv' := [(4, .int (nI (i + 1))), (5, .ref (ad (9 + i))), (3, .int (30)), (2, .ref (ad (2))), (0, .ref (ad (0))), (1, .int (id))]) hx hb dX0_findPrint_43 hl (k := 1) rfl (nI_1 _) (by decide) rfl (fun ls hl => ?_)
          refine lv_goto (tgt := 11) hx hb dX0_findPrint_46 (by decide) ?_
          exact ih (i + 1) (by omega) (by omega) (fstI_succ_no hi_0 (by simp [b2i, f_findPrint, P_findPrint, c_2])) ls (lv_sub hl [0, 2, 3, 4, 5] rfl)
        · rw [bz_eq0] at c_2
          refine lv_aload hx hb dX0_findPrint_31 (lv_at hl 0 rfl) ?_
          refine sp_get hx hb hts wi_X0_findPrint_X3 hown hK hP (κ := 9 + i) (by omega) (cE_print (by omega) (by omega)) rfl 1 (by decide) (hts _ (List.mem_of_getElem? (i := 3) rfl)) (fun _ h => h) rfl dX0_findPrint_33 ?_
          refine lv_iload_n hx hb dX0_findPrint_36 rfl (lv_at hl 5 rfl) ?_
          refine lv_icmp_ne (tgt := 43) hx hb dX0_findPrint_37 (by decide) (fun c_3 => ?_) (fun c_3 => ?_)
          · skip
            refine lv_iinc (v := nI (i + 1)) (lv' := [(4, .int (nI (i + 1))), (5, .ref (ad (9 + i))), (3, .int (30)), (2, .ref (ad (2))), (0, .ref (ad (0))), (1, .int (id))]) hx hb dX0_findPrint_43 hl (k := 1) rfl (nI_1 _) (by decide) rfl (fun ls hl => ?_)
            refine lv_goto (tgt := 11) hx hb dX0_findPrint_46 (by decide) ?_
            exact ih (i + 1) (by omega) (by omega) (fstI_succ_no hi_0 (by simp [b2i, f_findPrint, P_findPrint, c_2, c_3])) ls (lv_sub hl [0, 2, 3, 4, 5] rfl)
          · skip
            refine lv_aload hx hb dX0_findPrint_40 (lv_at hl 0 rfl) ?_
            exact W.aret (v := .ref (ad (9 + i))) (rt := (.object "SandProofreader$Print")) hx hb hr (Or.inl ⟨_, rfl⟩) (Or.inr ⟨_, rfl⟩) (fun T9 hT9 _ => ⟨by rw [show f_findPrint σ id = some (i) from (by exact fstI_hit hi_0 (by simp [b2i, f_findPrint, P_findPrint, c_2, c_3]) hb_i)]; rfl, hT9⟩) (fun _ h => by cases h) dX0_findPrint_42
  exact loop_11 (30 + 1) (0)  (by omega) (by omega) (rfl) ls (lv_sub hl [0, 1, 2, 3, 4] rfl)

theorem wi_X0_inCell_X0 : ∀ w ∈ wsX00, w ∈ wsX0_inCell := by decide +kernel
theorem wi_X0_inCell_X3 : ∀ w ∈ wsX30, w ∈ wsX0_inCell := by decide +kernel
set_option maxHeartbeats 4000000 in
set_option maxRecDepth 100000 in
theorem c_X0_inCell (l : Launch) (D : va_G) (ad : Nat → Nat) (cy : Nat → ClassId) (pm : Nat → Nat) (rj : Option Nat) (σ : Nat → Nat → Int32) (r : Int32) (c1 : Int32) : Met l yX0_inCell wsX0_inCell ({ frames := 0, cells := 0, slots := 0, locals := 0 } : Room) (sp_Pc D (tyG cy) [.ref (ad (0)), .int (r), .int (c1)] (cW ad cy pm rj σ)) (sp_S (some (va_rf ((f_inCell σ r c1).map (fun i => ad (9 + i)))))) 0 0 (fun _ => False) := by
  refine Met.ofW (cc := cX0_inCell) (maxL := 7) (ret := (some (.object "SandProofreader$Print"))) (by decide) rfl ?_
  intro p e s m args below meth c s₁ B hml hv
  obtain ⟨rfl, hP, hK⟩ := hv
  have hx := B.exec
  have hb := B.bytes
  have hr := B.returns
  have hts := atoms_spec (ws := wsX0_inCell) B.pre
  have hown : s.vm.findClass RX0 = some m.cls := findClass_of_methodNamed B.named
  have hlocks := B.notSynchronized
  have hl := lv_entry ([.ref (ad (0)), .int (r), .int (c1)]) (n := 7) (Nat.le_of_ble_eq_true rfl)
  refine W.eq (lg_entry_eq _ ([.ref (ad (0)), .int (r), .int (c1)]) _) ?_
  generalize (lg_sl ([.ref (ad (0)), .int (r), .int (c1)]) ++ List.replicate (7 - (lg_sl ([.ref (ad (0)), .int (r), .int (c1)])).length) Slot.unset).toArray = ls at hl ⊢
  have hl : lv_has ls 7 [(0, .ref (ad (0))), (1, .int (r)), (2, .int (c1))] := hl
  refine lv_aload_n hx hb dX0_inCell_0 rfl (lv_at hl 0 rfl) ?_
  refine sp_get hx hb hts wi_X0_inCell_X0 hown hK hP (κ := 0) (by omega) (cE_beach (by omega) (by omega)) rfl 1 (by decide) (hts _ (List.mem_of_getElem? (i := 1) rfl)) (fun _ h => h) rfl dX0_inCell_1 ?_
  refine lv_astore_n (lv' := [(3, .ref (ad (2))), (0, .ref (ad (0))), (1, .int (r)), (2, .int (c1))]) hx hb dX0_inCell_4 rfl hl (by decide) rfl (fun ls hl => ?_)
  refine lv_aload_n hx hb dX0_inCell_5 rfl (lv_at hl 0 rfl) ?_
  refine sp_alen hx hb hK hP (κ := 2) (by omega) 4 (cE_prints (by omega) (by omega)) rfl (v := 30) rfl dX0_inCell_6 ?_
  refine lv_istore (lv' := [(4, .int (30)), (3, .ref (ad (2))), (0, .ref (ad (0))), (1, .int (r)), (2, .int (c1))]) hx hb dX0_inCell_7 hl (by decide) rfl (fun ls hl => ?_)
  refine lv_iconst (v := 0) hx hb dX0_inCell_9 (by decide) ?_
  refine lv_istore (lv' := [(5, .int (0)), (4, .int (30)), (3, .ref (ad (2))), (0, .ref (ad (0))), (1, .int (r)), (2, .int (c1))]) hx hb dX0_inCell_10 hl (by decide) rfl (fun ls hl => ?_)
  have loop_12 : ∀ (n i : Nat), (i ≤ 30) → (30 - i < n) → (fstI (P_inCell σ r c1) i = none) → ∀ ls : Array Slot, lv_has ls 7 [(5, .int (nI i)), (4, .int (30)), (3, .ref (ad (2))), (0, .ref (ad (0))), (1, .int (r)), (2, .int (c1))] → W p l e (headSpec wsX0_inCell ({ frames := 0, cells := 0, slots := 0, locals := 0 } : Room)).room s m ([.ref (ad (0)), .int (r), .int (c1)] : List Value).toArray below meth c s.heap [] 0 0 (MQ below (sp_S (some (va_rf ((f_inCell σ r c1).map (fun i => ad (9 + i)))))) ([.ref (ad (0)), .int (r), .int (c1)] : List Value).toArray s 0 0 (fun _ => False)) (F0 m 12 ls []) := by
    intro n
    induction n with
    | zero => intro i hle hlt hi_0 ls hl; exact absurd hlt (Nat.not_lt_zero _)
    | succ n ih =>
      intro i hle hlt hi_0 ls hl
      refine lv_iload hx hb dX0_inCell_12 (lv_at hl 0 rfl) ?_
      refine lv_iload hx hb dX0_inCell_14 (lv_at hl 1 rfl) ?_
      refine lv_icmp_ge (tgt := 60) hx hb dX0_inCell_16 (by decide) (fun c_1 => ?_) (fun c_1 => ?_)
      · skip
        have c_1d := Int32.not_lt.mpr c_1
        have hx_i : i = 30 := by have := (nI_leI (a := 30) (b := i) (by omega) (by omega)).mp c_1; omega
        try rw [hx_i] at hi_0
        refine lv_null hx hb dX0_inCell_60 ?_
        exact W.aret (v := .null) (rt := (.object "SandProofreader$Print")) hx hb hr (Or.inl ⟨_, rfl⟩) (Or.inl rfl) (fun T9 hT9 _ => ⟨by rw [show f_inCell σ r c1 = none from (by exact hi_0)]; rfl, hT9⟩) (fun _ h => by cases h) dX0_inCell_61
      · skip
        have c_1d := Int32.not_le.mp c_1
        have hb_i : i < 30 := Nat.lt_of_not_le (fun z => c_1 (nI_le z (by omega)))
        refine lv_aload_n hx hb dX0_inCell_19 rfl (lv_at hl 2 rfl) ?_
        refine lv_iload hx hb dX0_inCell_20 (lv_at hl 0 rfl) ?_
        refine sp_aald hx hb hK hP (κ := 2) (by omega) 4 (cE_prints (by omega) (by omega)) rfl i rfl (by omega) (by decide) (q := ad (9 + i)) rfl dX0_inCell_22 ?_
        refine lv_astore (lv' := [(6, .ref (ad (9 + i))), (5, .int (nI i)), (4, .int (30)), (3, .ref (ad (2))), (0, .ref (ad (0))), (1, .int (r)), (2, .int (c1))]) hx hb dX0_inCell_23 hl (by decide) rfl (fun ls hl => ?_)
        refine lv_aload hx hb dX0_inCell_25 (lv_at hl 0 rfl) ?_
        refine sp_get hx hb hts wi_X0_inCell_X3 hown hK hP (κ := 9 + i) (by omega) (cE_print (by omega) (by omega)) rfl 0 (by decide) (hts _ (List.mem_of_getElem? (i := 2) rfl)) (fun _ h => h) rfl dX0_inCell_27 ?_
        refine lv_if_eq (tgt := 54) hx hb dX0_inCell_30 (by decide) (fun c_2 => ?_) (fun c_2 => ?_)
        · rw [bz_eq0] at c_2
          refine lv_iinc (v := nI (i + 1)) (lv' := [(5, .int (nI (i + 1))), (6, .ref (ad (9 + i))), (4, .int (30)), (3, .ref (ad (2))), (0, .ref (ad (0))), (1, .int (r)), (2, .int (c1))]) hx hb dX0_inCell_54 hl (k := 1) rfl (nI_1 _) (by decide) rfl (fun ls hl => ?_)
          refine lv_goto (tgt := 12) hx hb dX0_inCell_57 (by decide) ?_
          exact ih (i + 1) (by omega) (by omega) (fstI_succ_no hi_0 (by simp [b2i, f_inCell, P_inCell, c_2])) ls (lv_sub hl [0, 2, 3, 4, 5, 6] rfl)
        · rw [bz_eq0] at c_2
          refine lv_aload hx hb dX0_inCell_33 (lv_at hl 0 rfl) ?_
          refine sp_get hx hb hts wi_X0_inCell_X3 hown hK hP (κ := 9 + i) (by omega) (cE_print (by omega) (by omega)) rfl 4 (by decide) (hts _ (List.mem_of_getElem? (i := 3) rfl)) (fun _ h => h) rfl dX0_inCell_35 ?_
          refine lv_iload_n hx hb dX0_inCell_38 rfl (lv_at hl 5 rfl) ?_
          refine lv_icmp_ne (tgt := 54) hx hb dX0_inCell_39 (by decide) (fun c_3 => ?_) (fun c_3 => ?_)
          · skip
            refine lv_iinc (v := nI (i + 1)) (lv' := [(5, .int (nI (i + 1))), (6, .ref (ad (9 + i))), (4, .int (30)), (3, .ref (ad (2))), (0, .ref (ad (0))), (1, .int (r)), (2, .int (c1))]) hx hb dX0_inCell_54 hl (k := 1) rfl (nI_1 _) (by decide) rfl (fun ls hl => ?_)
            refine lv_goto (tgt := 12) hx hb dX0_inCell_57 (by decide) ?_
            exact ih (i + 1) (by omega) (by omega) (fstI_succ_no hi_0 (by simp [b2i, f_inCell, P_inCell, c_2, c_3])) ls (lv_sub hl [0, 2, 3, 4, 5, 6] rfl)
          · skip
            refine lv_aload hx hb dX0_inCell_42 (lv_at hl 0 rfl) ?_
            refine sp_get hx hb hts wi_X0_inCell_X3 hown hK hP (κ := 9 + i) (by omega) (cE_print (by omega) (by omega)) rfl 5 (by decide) (hts _ (List.mem_of_getElem? (i := 4) rfl)) (fun _ h => h) rfl dX0_inCell_44 ?_
            refine lv_iload_n hx hb dX0_inCell_47 rfl (lv_at hl 6 rfl) ?_
            refine lv_icmp_ne (tgt := 54) hx hb dX0_inCell_48 (by decide) (fun c_4 => ?_) (fun c_4 => ?_)
            · skip
              refine lv_iinc (v := nI (i + 1)) (lv' := [(5, .int (nI (i + 1))), (6, .ref (ad (9 + i))), (4, .int (30)), (3, .ref (ad (2))), (0, .ref (ad (0))), (1, .int (r)), (2, .int (c1))]) hx hb dX0_inCell_54 hl (k := 1) rfl (nI_1 _) (by decide) rfl (fun ls hl => ?_)
              refine lv_goto (tgt := 12) hx hb dX0_inCell_57 (by decide) ?_
              exact ih (i + 1) (by omega) (by omega) (fstI_succ_no hi_0 (by simp [b2i, f_inCell, P_inCell, c_2, c_3, c_4])) ls (lv_sub hl [0, 2, 3, 4, 5, 6] rfl)
            · skip
              refine lv_aload hx hb dX0_inCell_51 (lv_at hl 0 rfl) ?_
              exact W.aret (v := .ref (ad (9 + i))) (rt := (.object "SandProofreader$Print")) hx hb hr (Or.inl ⟨_, rfl⟩) (Or.inr ⟨_, rfl⟩) (fun T9 hT9 _ => ⟨by rw [show f_inCell σ r c1 = some (i) from (by exact fstI_hit hi_0 (by simp [b2i, f_inCell, P_inCell, c_2, c_3, c_4]) hb_i)]; rfl, hT9⟩) (fun _ h => by cases h) dX0_inCell_53
  exact loop_12 (30 + 1) (0)  (by omega) (by omega) (rfl) ls (lv_sub hl [0, 1, 2, 3, 4, 5] rfl)

theorem wi_X0_atTime_X0 : ∀ w ∈ wsX00, w ∈ wsX0_atTime := by decide +kernel
theorem wi_X0_atTime_X3 : ∀ w ∈ wsX30, w ∈ wsX0_atTime := by decide +kernel
set_option maxHeartbeats 4000000 in
set_option maxRecDepth 100000 in
theorem c_X0_atTime (l : Launch) (D : va_G) (ad : Nat → Nat) (cy : Nat → ClassId) (pm : Nat → Nat) (rj : Option Nat) (σ : Nat → Nat → Int32) (t : Int32) (u : Int32) : Met l yX0_atTime wsX0_atTime ({ frames := 1, cells := 0, slots := 0, locals := 21 } : Room) (sp_Pc D (tyG cy) [.ref (ad (0)), .int (t), .int (u)] (cW ad cy pm rj σ)) (sp_S (some (va_rf ((f_atTime σ t u).map (fun i => ad (9 + i)))))) 0 0 (fun _ => False) := by
  refine Met.ofW (cc := cX0_atTime) (maxL := 7) (ret := (some (.object "SandProofreader$Print"))) (by decide) rfl ?_
  intro p e s m args below meth c s₁ B hml hv
  obtain ⟨rfl, hP, hK⟩ := hv
  have hx := B.exec
  have hb := B.bytes
  have hr := B.returns
  have hts := atoms_spec (ws := wsX0_atTime) B.pre
  have hown : s.vm.findClass RX0 = some m.cls := findClass_of_methodNamed B.named
  have hlocks := B.notSynchronized
  have hl := lv_entry ([.ref (ad (0)), .int (t), .int (u)]) (n := 7) (Nat.le_of_ble_eq_true rfl)
  refine W.eq (lg_entry_eq _ ([.ref (ad (0)), .int (t), .int (u)]) _) ?_
  generalize (lg_sl ([.ref (ad (0)), .int (t), .int (u)]) ++ List.replicate (7 - (lg_sl ([.ref (ad (0)), .int (t), .int (u)])).length) Slot.unset).toArray = ls at hl ⊢
  have hl : lv_has ls 7 [(0, .ref (ad (0))), (1, .int (t)), (2, .int (u))] := hl
  refine lv_aload_n hx hb dX0_atTime_0 rfl (lv_at hl 0 rfl) ?_
  refine sp_get hx hb hts wi_X0_atTime_X0 hown hK hP (κ := 0) (by omega) (cE_beach (by omega) (by omega)) rfl 1 (by decide) (hts _ (List.mem_of_getElem? (i := 1) rfl)) (fun _ h => h) rfl dX0_atTime_1 ?_
  refine lv_astore_n (lv' := [(3, .ref (ad (2))), (0, .ref (ad (0))), (1, .int (t)), (2, .int (u))]) hx hb dX0_atTime_4 rfl hl (by decide) rfl (fun ls hl => ?_)
  refine lv_aload_n hx hb dX0_atTime_5 rfl (lv_at hl 0 rfl) ?_
  refine sp_alen hx hb hK hP (κ := 2) (by omega) 4 (cE_prints (by omega) (by omega)) rfl (v := 30) rfl dX0_atTime_6 ?_
  refine lv_istore (lv' := [(4, .int (30)), (3, .ref (ad (2))), (0, .ref (ad (0))), (1, .int (t)), (2, .int (u))]) hx hb dX0_atTime_7 hl (by decide) rfl (fun ls hl => ?_)
  refine lv_iconst (v := 0) hx hb dX0_atTime_9 (by decide) ?_
  refine lv_istore (lv' := [(5, .int (0)), (4, .int (30)), (3, .ref (ad (2))), (0, .ref (ad (0))), (1, .int (t)), (2, .int (u))]) hx hb dX0_atTime_10 hl (by decide) rfl (fun ls hl => ?_)
  have loop_12 : ∀ (n i : Nat), (i ≤ 30) → (30 - i < n) → (fstI (P_atTime σ t u) i = none) → ∀ ls : Array Slot, lv_has ls 7 [(5, .int (nI i)), (4, .int (30)), (3, .ref (ad (2))), (0, .ref (ad (0))), (1, .int (t)), (2, .int (u))] → W p l e (headSpec wsX0_atTime ({ frames := 1, cells := 0, slots := 0, locals := 21 } : Room)).room s m ([.ref (ad (0)), .int (t), .int (u)] : List Value).toArray below meth c s.heap [] 0 0 (MQ below (sp_S (some (va_rf ((f_atTime σ t u).map (fun i => ad (9 + i)))))) ([.ref (ad (0)), .int (t), .int (u)] : List Value).toArray s 0 0 (fun _ => False)) (F0 m 12 ls []) := by
    intro n
    induction n with
    | zero => intro i hle hlt hi_0 ls hl; exact absurd hlt (Nat.not_lt_zero _)
    | succ n ih =>
      intro i hle hlt hi_0 ls hl
      refine lv_iload hx hb dX0_atTime_12 (lv_at hl 0 rfl) ?_
      refine lv_iload hx hb dX0_atTime_14 (lv_at hl 1 rfl) ?_
      refine lv_icmp_ge (tgt := 52) hx hb dX0_atTime_16 (by decide) (fun c_1 => ?_) (fun c_1 => ?_)
      · skip
        have c_1d := Int32.not_lt.mpr c_1
        have hx_i : i = 30 := by have := (nI_leI (a := 30) (b := i) (by omega) (by omega)).mp c_1; omega
        try rw [hx_i] at hi_0
        refine lv_null hx hb dX0_atTime_52 ?_
        exact W.aret (v := .null) (rt := (.object "SandProofreader$Print")) hx hb hr (Or.inl ⟨_, rfl⟩) (Or.inl rfl) (fun T9 hT9 _ => ⟨by rw [show f_atTime σ t u = none from (by exact hi_0)]; rfl, hT9⟩) (fun _ h => by cases h) dX0_atTime_53
      · skip
        have c_1d := Int32.not_le.mp c_1
        have hb_i : i < 30 := Nat.lt_of_not_le (fun z => c_1 (nI_le z (by omega)))
        refine lv_aload_n hx hb dX0_atTime_19 rfl (lv_at hl 2 rfl) ?_
        refine lv_iload hx hb dX0_atTime_20 (lv_at hl 0 rfl) ?_
        refine sp_aald hx hb hK hP (κ := 2) (by omega) 4 (cE_prints (by omega) (by omega)) rfl i rfl (by omega) (by decide) (q := ad (9 + i)) rfl dX0_atTime_22 ?_
        refine lv_astore (lv' := [(6, .ref (ad (9 + i))), (5, .int (nI i)), (4, .int (30)), (3, .ref (ad (2))), (0, .ref (ad (0))), (1, .int (t)), (2, .int (u))]) hx hb dX0_atTime_23 hl (by decide) rfl (fun ls hl => ?_)
        refine lv_aload hx hb dX0_atTime_25 (lv_at hl 0 rfl) ?_
        refine lv_iload_n hx hb dX0_atTime_27 rfl (lv_at hl 5 rfl) ?_
        refine sp_call (W.runV (As := [.int (t)]) (rest := []) ⟨hx, hb, hml, hown, hts⟩ (c_X3_isOn l D ad cy pm rj σ (9 + i) (by omega) (by omega) t) (cwV 1 hts gX0_atTime_X3_isOn rfl rfl rfl (by decide +kernel) ⟨Nat.le_of_ble_eq_true rfl, Nat.le_of_ble_eq_true rfl⟩) (sp_preV hK hP (κ := 9 + i) (by omega) (cE_print (by omega) (by omega)) rfl) rfl rfl hl.1 rfl (lv_room (Nat.le_of_ble_eq_true rfl)) dX0_atTime_28 ⟨Nat.le_of_ble_eq_true rfl, Nat.le_of_ble_eq_true rfl⟩) ?_
        refine W.eq (g2 := F0 m 31 ls [.int (b2i (f_isOn σ (9 + i) t))]) rfl ?_
        refine lv_if_eq (tgt := 46) hx hb dX0_atTime_31 (by decide) (fun c_2 => ?_) (fun c_2 => ?_)
        · rw [b2i_eq0] at c_2
          refine lv_iinc (v := nI (i + 1)) (lv' := [(5, .int (nI (i + 1))), (6, .ref (ad (9 + i))), (4, .int (30)), (3, .ref (ad (2))), (0, .ref (ad (0))), (1, .int (t)), (2, .int (u))]) hx hb dX0_atTime_46 hl (k := 1) rfl (nI_1 _) (by decide) rfl (fun ls hl => ?_)
          refine lv_goto (tgt := 12) hx hb dX0_atTime_49 (by decide) ?_
          exact ih (i + 1) (by omega) (by omega) (fstI_succ_no hi_0 (by simp [b2i, f_atTime, P_atTime, c_2])) ls (lv_sub hl [0, 2, 3, 4, 5, 6] rfl)
        · rw [b2i_eq0] at c_2
          refine lv_aload hx hb dX0_atTime_34 (lv_at hl 0 rfl) ?_
          refine sp_get hx hb hts wi_X0_atTime_X3 hown hK hP (κ := 9 + i) (by omega) (cE_print (by omega) (by omega)) rfl 3 (by decide) (hts _ (List.mem_of_getElem? (i := 2) rfl)) (fun _ h => h) rfl dX0_atTime_36 ?_
          refine lv_iload_n hx hb dX0_atTime_39 rfl (lv_at hl 6 rfl) ?_
          refine lv_icmp_ne (tgt := 46) hx hb dX0_atTime_40 (by decide) (fun c_3 => ?_) (fun c_3 => ?_)
          · skip
            refine lv_iinc (v := nI (i + 1)) (lv' := [(5, .int (nI (i + 1))), (6, .ref (ad (9 + i))), (4, .int (30)), (3, .ref (ad (2))), (0, .ref (ad (0))), (1, .int (t)), (2, .int (u))]) hx hb dX0_atTime_46 hl (k := 1) rfl (nI_1 _) (by decide) rfl (fun ls hl => ?_)
            refine lv_goto (tgt := 12) hx hb dX0_atTime_49 (by decide) ?_
            exact ih (i + 1) (by omega) (by omega) (fstI_succ_no hi_0 (by simp [b2i, f_atTime, P_atTime, c_2, c_3])) ls (lv_sub hl [0, 2, 3, 4, 5, 6] rfl)
          · skip
            refine lv_aload hx hb dX0_atTime_43 (lv_at hl 0 rfl) ?_
            exact W.aret (v := .ref (ad (9 + i))) (rt := (.object "SandProofreader$Print")) hx hb hr (Or.inl ⟨_, rfl⟩) (Or.inr ⟨_, rfl⟩) (fun T9 hT9 _ => ⟨by rw [show f_atTime σ t u = some (i) from (by exact fstI_hit hi_0 (by simp [b2i, f_atTime, P_atTime, c_2, c_3]) hb_i)]; rfl, hT9⟩) (fun _ h => by cases h) dX0_atTime_45
  exact loop_12 (30 + 1) (0)  (by omega) (by omega) (rfl) ls (lv_sub hl [0, 1, 2, 3, 4, 5] rfl)

theorem wi_X0_countTracks_X0 : ∀ w ∈ wsX00, w ∈ wsX0_countTracks := by decide +kernel
theorem wi_X0_countTracks_X8 : ∀ w ∈ wsX80, w ∈ wsX0_countTracks := by decide +kernel
set_option maxHeartbeats 4000000 in
set_option maxRecDepth 100000 in
theorem c_X0_countTracks (l : Launch) (D : va_G) (ad : Nat → Nat) (cy : Nat → ClassId) (pm : Nat → Nat) (rj : Option Nat) (σ : Nat → Nat → Int32) : Met l yX0_countTracks wsX0_countTracks ({ frames := 0, cells := 0, slots := 0, locals := 0 } : Room) (sp_Pc D (tyG cy) [.ref (ad (0))] (cW ad cy pm rj σ)) (sp_S (some (.int (f_countTracks σ)))) 0 0 (fun _ => False) := by
  refine Met.ofW (cc := cX0_countTracks) (maxL := 6) (ret := (some .int)) (by decide) rfl ?_
  intro p e s m args below meth c s₁ B hml hv
  obtain ⟨rfl, hP, hK⟩ := hv
  have hx := B.exec
  have hb := B.bytes
  have hr := B.returns
  have hts := atoms_spec (ws := wsX0_countTracks) B.pre
  have hown : s.vm.findClass RX0 = some m.cls := findClass_of_methodNamed B.named
  have hlocks := B.notSynchronized
  have hl := lv_entry ([.ref (ad (0))]) (n := 6) (Nat.le_of_ble_eq_true rfl)
  refine W.eq (lg_entry_eq _ ([.ref (ad (0))]) _) ?_
  generalize (lg_sl ([.ref (ad (0))]) ++ List.replicate (6 - (lg_sl ([.ref (ad (0))])).length) Slot.unset).toArray = ls at hl ⊢
  have hl : lv_has ls 6 [(0, .ref (ad (0)))] := hl
  refine lv_iconst (v := 0) hx hb dX0_countTracks_0 (by decide) ?_
  refine lv_istore_n (lv' := [(1, .int (0)), (0, .ref (ad (0)))]) hx hb dX0_countTracks_1 rfl hl (by decide) rfl (fun ls hl => ?_)
  refine lv_aload_n hx hb dX0_countTracks_2 rfl (lv_at hl 1 rfl) ?_
  refine sp_get hx hb hts wi_X0_countTracks_X0 hown hK hP (κ := 0) (by omega) (cE_beach (by omega) (by omega)) rfl 0 (by decide) (hts _ (List.mem_of_getElem? (i := 1) rfl)) (fun _ h => h) rfl dX0_countTracks_3 ?_
  refine lv_astore_n (lv' := [(2, .ref (ad (1))), (1, .int (0)), (0, .ref (ad (0)))]) hx hb dX0_countTracks_6 rfl hl (by decide) rfl (fun ls hl => ?_)
  refine lv_aload_n hx hb dX0_countTracks_7 rfl (lv_at hl 0 rfl) ?_
  refine sp_alen hx hb hK hP (κ := 1) (by omega) 5 (cE_tracks (by omega) (by omega)) rfl (v := 6) rfl dX0_countTracks_8 ?_
  refine lv_istore_n (lv' := [(3, .int (6)), (2, .ref (ad (1))), (1, .int (0)), (0, .ref (ad (0)))]) hx hb dX0_countTracks_9 rfl hl (by decide) rfl (fun ls hl => ?_)
  refine lv_iconst (v := 0) hx hb dX0_countTracks_10 (by decide) ?_
  refine lv_istore (lv' := [(4, .int (0)), (3, .int (6)), (2, .ref (ad (1))), (1, .int (0)), (0, .ref (ad (0)))]) hx hb dX0_countTracks_11 hl (by decide) rfl (fun ls hl => ?_)
  have loop_13 : ∀ (n i : Nat) (x : Int32), (i ≤ 6) → (6 - i < n) → (x = sumI (F_countTracks σ) i) → ∀ ls : Array Slot, lv_has ls 6 [(4, .int (nI i)), (3, .int (6)), (2, .ref (ad (1))), (1, .int (x)), (0, .ref (ad (0)))] → W p l e (headSpec wsX0_countTracks ({ frames := 0, cells := 0, slots := 0, locals := 0 } : Room)).room s m ([.ref (ad (0))] : List Value).toArray below meth c s.heap [] 0 0 (MQ below (sp_S (some (.int (f_countTracks σ)))) ([.ref (ad (0))] : List Value).toArray s 0 0 (fun _ => False)) (F0 m 13 ls []) := by
    intro n
    induction n with
    | zero => intro i x hle hlt hi_0 ls hl; exact absurd hlt (Nat.not_lt_zero _)
    | succ n ih =>
      intro i x hle hlt hi_0 ls hl
      refine lv_iload hx hb dX0_countTracks_13 (lv_at hl 0 rfl) ?_
      refine lv_iload_n hx hb dX0_countTracks_15 rfl (lv_at hl 1 rfl) ?_
      refine lv_icmp_ge (tgt := 47) hx hb dX0_countTracks_16 (by decide) (fun c_1 => ?_) (fun c_1 => ?_)
      · skip
        have c_1d := Int32.not_lt.mpr c_1
        have hx_i : i = 6 := by have := (nI_leI (a := 6) (b := i) (by omega) (by omega)).mp c_1; omega
        try rw [hx_i] at hi_0
        refine lv_iload_n hx hb dX0_countTracks_47 rfl (lv_at hl 3 rfl) ?_
        exact W.iret (v := x) hx hb hr (fun T9 hT9 _ => ⟨by rw [show (x : Int32) = f_countTracks σ from (by exact hi_0)], hT9⟩) (fun _ h => by cases h) dX0_countTracks_48
      · skip
        have c_1d := Int32.not_le.mp c_1
        have hb_i : i < 6 := Nat.lt_of_not_le (fun z => c_1 (nI_le z (by omega)))
        refine lv_aload_n hx hb dX0_countTracks_19 rfl (lv_at hl 2 rfl) ?_
        refine lv_iload hx hb dX0_countTracks_20 (lv_at hl 0 rfl) ?_
        refine sp_aald hx hb hK hP (κ := 1) (by omega) 5 (cE_tracks (by omega) (by omega)) rfl i rfl (by omega) (by decide) (q := ad (3 + i)) rfl dX0_countTracks_22 ?_
        refine lv_astore (lv' := [(5, .ref (ad (3 + i))), (4, .int (nI i)), (3, .int (6)), (2, .ref (ad (1))), (1, .int (x)), (0, .ref (ad (0)))]) hx hb dX0_countTracks_23 hl (by decide) rfl (fun ls hl => ?_)
        refine lv_iload_n hx hb dX0_countTracks_25 rfl (lv_at hl 4 rfl) ?_
        refine lv_aload hx hb dX0_countTracks_26 (lv_at hl 0 rfl) ?_
        refine sp_get hx hb hts wi_X0_countTracks_X8 hown hK hP (κ := 3 + i) (by omega) (cE_track (by omega) (by omega)) rfl 0 (by decide) (hts _ (List.mem_of_getElem? (i := 2) rfl)) (fun _ h => h) rfl dX0_countTracks_28 ?_
        refine lv_if_eq (tgt := 38) hx hb dX0_countTracks_31 (by decide) (fun c_2 => ?_) (fun c_2 => ?_)
        · rw [bz_eq0] at c_2
          refine lv_iconst (v := 0) hx hb dX0_countTracks_38 (by decide) ?_
          refine lv_iadd hx hb dX0_countTracks_39 ?_
          refine lv_istore_n (lv' := [(1, .int (x + 0)), (5, .ref (ad (3 + i))), (4, .int (nI i)), (3, .int (6)), (2, .ref (ad (1))), (0, .ref (ad (0)))]) hx hb dX0_countTracks_40 rfl hl (by decide) rfl (fun ls hl => ?_)
          refine lv_iinc (v := nI (i + 1)) (lv' := [(4, .int (nI (i + 1))), (1, .int (x + 0)), (5, .ref (ad (3 + i))), (3, .int (6)), (2, .ref (ad (1))), (0, .ref (ad (0)))]) hx hb dX0_countTracks_41 hl (k := 2) rfl (nI_1 _) (by decide) rfl (fun ls hl => ?_)
          refine lv_goto (tgt := 13) hx hb dX0_countTracks_44 (by decide) ?_
          exact ih (i + 1) (x + 0) (by omega) (by omega) (by rw [sumI_succ, ← hi_0]; simp [b2i, f_countTracks, F_countTracks, c_2]) ls (lv_sub hl [0, 3, 4, 1, 5] rfl)
        · rw [bz_eq0] at c_2
          refine lv_iconst (v := 1) hx hb dX0_countTracks_34 (by decide) ?_
          refine lv_goto (tgt := 39) hx hb dX0_countTracks_35 (by decide) ?_
          refine lv_iadd hx hb dX0_countTracks_39 ?_
          refine lv_istore_n (lv' := [(1, .int (x + 1)), (5, .ref (ad (3 + i))), (4, .int (nI i)), (3, .int (6)), (2, .ref (ad (1))), (0, .ref (ad (0)))]) hx hb dX0_countTracks_40 rfl hl (by decide) rfl (fun ls hl => ?_)
          refine lv_iinc (v := nI (i + 1)) (lv' := [(4, .int (nI (i + 1))), (1, .int (x + 1)), (5, .ref (ad (3 + i))), (3, .int (6)), (2, .ref (ad (1))), (0, .ref (ad (0)))]) hx hb dX0_countTracks_41 hl (k := 2) rfl (nI_1 _) (by decide) rfl (fun ls hl => ?_)
          refine lv_goto (tgt := 13) hx hb dX0_countTracks_44 (by decide) ?_
          exact ih (i + 1) (x + 1) (by omega) (by omega) (by rw [sumI_succ, ← hi_0]; simp [b2i, f_countTracks, F_countTracks, c_2]) ls (lv_sub hl [0, 3, 4, 1, 5] rfl)
  exact loop_13 (6 + 1) (0) (0)  (by omega) (by omega) (rfl) ls (lv_sub hl [0, 1, 2, 3, 4] rfl)

theorem wi_X0_countPrintsInRows_X0 : ∀ w ∈ wsX00, w ∈ wsX0_countPrintsInRows := by decide +kernel
theorem wi_X0_countPrintsInRows_X3 : ∀ w ∈ wsX30, w ∈ wsX0_countPrintsInRows := by decide +kernel
set_option maxHeartbeats 4000000 in
set_option maxRecDepth 100000 in
theorem c_X0_countPrintsInRows (l : Launch) (D : va_G) (ad : Nat → Nat) (cy : Nat → ClassId) (pm : Nat → Nat) (rj : Option Nat) (σ : Nat → Nat → Int32) (a1 : Int32) (b1 : Int32) : Met l yX0_countPrintsInRows wsX0_countPrintsInRows ({ frames := 0, cells := 0, slots := 0, locals := 0 } : Room) (sp_Pc D (tyG cy) [.ref (ad (0)), .int (a1), .int (b1)] (cW ad cy pm rj σ)) (sp_S (some (.int (f_countPrintsInRows σ a1 b1)))) 0 0 (fun _ => False) := by
  refine Met.ofW (cc := cX0_countPrintsInRows) (maxL := 8) (ret := (some .int)) (by decide) rfl ?_
  intro p e s m args below meth c s₁ B hml hv
  obtain ⟨rfl, hP, hK⟩ := hv
  have hx := B.exec
  have hb := B.bytes
  have hr := B.returns
  have hts := atoms_spec (ws := wsX0_countPrintsInRows) B.pre
  have hown : s.vm.findClass RX0 = some m.cls := findClass_of_methodNamed B.named
  have hlocks := B.notSynchronized
  have hl := lv_entry ([.ref (ad (0)), .int (a1), .int (b1)]) (n := 8) (Nat.le_of_ble_eq_true rfl)
  refine W.eq (lg_entry_eq _ ([.ref (ad (0)), .int (a1), .int (b1)]) _) ?_
  generalize (lg_sl ([.ref (ad (0)), .int (a1), .int (b1)]) ++ List.replicate (8 - (lg_sl ([.ref (ad (0)), .int (a1), .int (b1)])).length) Slot.unset).toArray = ls at hl ⊢
  have hl : lv_has ls 8 [(0, .ref (ad (0))), (1, .int (a1)), (2, .int (b1))] := hl
  refine lv_iconst (v := 0) hx hb dX0_countPrintsInRows_0 (by decide) ?_
  refine lv_istore_n (lv' := [(3, .int (0)), (0, .ref (ad (0))), (1, .int (a1)), (2, .int (b1))]) hx hb dX0_countPrintsInRows_1 rfl hl (by decide) rfl (fun ls hl => ?_)
  refine lv_aload_n hx hb dX0_countPrintsInRows_2 rfl (lv_at hl 1 rfl) ?_
  refine sp_get hx hb hts wi_X0_countPrintsInRows_X0 hown hK hP (κ := 0) (by omega) (cE_beach (by omega) (by omega)) rfl 1 (by decide) (hts _ (List.mem_of_getElem? (i := 1) rfl)) (fun _ h => h) rfl dX0_countPrintsInRows_3 ?_
  refine lv_astore (lv' := [(4, .ref (ad (2))), (3, .int (0)), (0, .ref (ad (0))), (1, .int (a1)), (2, .int (b1))]) hx hb dX0_countPrintsInRows_6 hl (by decide) rfl (fun ls hl => ?_)
  refine lv_aload hx hb dX0_countPrintsInRows_8 (lv_at hl 0 rfl) ?_
  refine sp_alen hx hb hK hP (κ := 2) (by omega) 4 (cE_prints (by omega) (by omega)) rfl (v := 30) rfl dX0_countPrintsInRows_10 ?_
  refine lv_istore (lv' := [(5, .int (30)), (4, .ref (ad (2))), (3, .int (0)), (0, .ref (ad (0))), (1, .int (a1)), (2, .int (b1))]) hx hb dX0_countPrintsInRows_11 hl (by decide) rfl (fun ls hl => ?_)
  refine lv_iconst (v := 0) hx hb dX0_countPrintsInRows_13 (by decide) ?_
  refine lv_istore (lv' := [(6, .int (0)), (5, .int (30)), (4, .ref (ad (2))), (3, .int (0)), (0, .ref (ad (0))), (1, .int (a1)), (2, .int (b1))]) hx hb dX0_countPrintsInRows_14 hl (by decide) rfl (fun ls hl => ?_)
  have loop_16 : ∀ (n i : Nat) (x : Int32), (i ≤ 30) → (30 - i < n) → (x = sumI (F_inRows σ a1 b1) i) → ∀ ls : Array Slot, lv_has ls 8 [(6, .int (nI i)), (5, .int (30)), (4, .ref (ad (2))), (3, .int (x)), (0, .ref (ad (0))), (1, .int (a1)), (2, .int (b1))] → W p l e (headSpec wsX0_countPrintsInRows ({ frames := 0, cells := 0, slots := 0, locals := 0 } : Room)).room s m ([.ref (ad (0)), .int (a1), .int (b1)] : List Value).toArray below meth c s.heap [] 0 0 (MQ below (sp_S (some (.int (f_countPrintsInRows σ a1 b1)))) ([.ref (ad (0)), .int (a1), .int (b1)] : List Value).toArray s 0 0 (fun _ => False)) (F0 m 16 ls []) := by
    intro n
    induction n with
    | zero => intro i x hle hlt hi_0 ls hl; exact absurd hlt (Nat.not_lt_zero _)
    | succ n ih =>
      intro i x hle hlt hi_0 ls hl
      refine lv_iload hx hb dX0_countPrintsInRows_16 (lv_at hl 0 rfl) ?_
      refine lv_iload hx hb dX0_countPrintsInRows_18 (lv_at hl 1 rfl) ?_
      refine lv_icmp_ge (tgt := 70) hx hb dX0_countPrintsInRows_20 (by decide) (fun c_1 => ?_) (fun c_1 => ?_)
      · skip
        have c_1d := Int32.not_lt.mpr c_1
        have hx_i : i = 30 := by have := (nI_leI (a := 30) (b := i) (by omega) (by omega)).mp c_1; omega
        try rw [hx_i] at hi_0
        refine lv_iload_n hx hb dX0_countPrintsInRows_70 rfl (lv_at hl 3 rfl) ?_
        exact W.iret (v := x) hx hb hr (fun T9 hT9 _ => ⟨by rw [show (x : Int32) = f_countPrintsInRows σ a1 b1 from (by exact hi_0)], hT9⟩) (fun _ h => by cases h) dX0_countPrintsInRows_71
      · skip
        have c_1d := Int32.not_le.mp c_1
        have hb_i : i < 30 := Nat.lt_of_not_le (fun z => c_1 (nI_le z (by omega)))
        refine lv_aload hx hb dX0_countPrintsInRows_23 (lv_at hl 2 rfl) ?_
        refine lv_iload hx hb dX0_countPrintsInRows_25 (lv_at hl 0 rfl) ?_
        refine sp_aald hx hb hK hP (κ := 2) (by omega) 4 (cE_prints (by omega) (by omega)) rfl i rfl (by omega) (by decide) (q := ad (9 + i)) rfl dX0_countPrintsInRows_27 ?_
        refine lv_astore (lv' := [(7, .ref (ad (9 + i))), (6, .int (nI i)), (5, .int (30)), (4, .ref (ad (2))), (3, .int (x)), (0, .ref (ad (0))), (1, .int (a1)), (2, .int (b1))]) hx hb dX0_countPrintsInRows_28 hl (by decide) rfl (fun ls hl => ?_)
        refine lv_iload_n hx hb dX0_countPrintsInRows_30 rfl (lv_at hl 4 rfl) ?_
        refine lv_aload hx hb dX0_countPrintsInRows_31 (lv_at hl 0 rfl) ?_
        refine sp_get hx hb hts wi_X0_countPrintsInRows_X3 hown hK hP (κ := 9 + i) (by omega) (cE_print (by omega) (by omega)) rfl 0 (by decide) (hts _ (List.mem_of_getElem? (i := 2) rfl)) (fun _ h => h) rfl dX0_countPrintsInRows_33 ?_
        refine lv_if_eq (tgt := 61) hx hb dX0_countPrintsInRows_36 (by decide) (fun c_2 => ?_) (fun c_2 => ?_)
        · rw [bz_eq0] at c_2
          refine lv_iconst (v := 0) hx hb dX0_countPrintsInRows_61 (by decide) ?_
          refine lv_iadd hx hb dX0_countPrintsInRows_62 ?_
          refine lv_istore_n (lv' := [(3, .int (x + 0)), (7, .ref (ad (9 + i))), (6, .int (nI i)), (5, .int (30)), (4, .ref (ad (2))), (0, .ref (ad (0))), (1, .int (a1)), (2, .int (b1))]) hx hb dX0_countPrintsInRows_63 rfl hl (by decide) rfl (fun ls hl => ?_)
          refine lv_iinc (v := nI (i + 1)) (lv' := [(6, .int (nI (i + 1))), (3, .int (x + 0)), (7, .ref (ad (9 + i))), (5, .int (30)), (4, .ref (ad (2))), (0, .ref (ad (0))), (1, .int (a1)), (2, .int (b1))]) hx hb dX0_countPrintsInRows_64 hl (k := 2) rfl (nI_1 _) (by decide) rfl (fun ls hl => ?_)
          refine lv_goto (tgt := 16) hx hb dX0_countPrintsInRows_67 (by decide) ?_
          exact ih (i + 1) (x + 0) (by omega) (by omega) (by rw [sumI_succ, ← hi_0]; simp [b2i, f_countPrintsInRows, F_inRows, c_2]) ls (lv_sub hl [0, 3, 4, 1, 5, 6, 7] rfl)
        · rw [bz_eq0] at c_2
          refine lv_aload hx hb dX0_countPrintsInRows_39 (lv_at hl 0 rfl) ?_
          refine sp_get hx hb hts wi_X0_countPrintsInRows_X3 hown hK hP (κ := 9 + i) (by omega) (cE_print (by omega) (by omega)) rfl 4 (by decide) (hts _ (List.mem_of_getElem? (i := 3) rfl)) (fun _ h => h) rfl dX0_countPrintsInRows_41 ?_
          refine lv_iload_n hx hb dX0_countPrintsInRows_44 rfl (lv_at hl 6 rfl) ?_
          refine lv_icmp_lt (tgt := 61) hx hb dX0_countPrintsInRows_45 (by decide) (fun c_3 => ?_) (fun c_3 => ?_)
          · skip
            have c_3d := Int32.not_le.mpr c_3
            refine lv_iconst (v := 0) hx hb dX0_countPrintsInRows_61 (by decide) ?_
            refine lv_iadd hx hb dX0_countPrintsInRows_62 ?_
            refine lv_istore_n (lv' := [(3, .int (x + 0)), (7, .ref (ad (9 + i))), (6, .int (nI i)), (5, .int (30)), (4, .ref (ad (2))), (0, .ref (ad (0))), (1, .int (a1)), (2, .int (b1))]) hx hb dX0_countPrintsInRows_63 rfl hl (by decide) rfl (fun ls hl => ?_)
            refine lv_iinc (v := nI (i + 1)) (lv' := [(6, .int (nI (i + 1))), (3, .int (x + 0)), (7, .ref (ad (9 + i))), (5, .int (30)), (4, .ref (ad (2))), (0, .ref (ad (0))), (1, .int (a1)), (2, .int (b1))]) hx hb dX0_countPrintsInRows_64 hl (k := 2) rfl (nI_1 _) (by decide) rfl (fun ls hl => ?_)
            refine lv_goto (tgt := 16) hx hb dX0_countPrintsInRows_67 (by decide) ?_
            exact ih (i + 1) (x + 0) (by omega) (by omega) (by rw [sumI_succ, ← hi_0]; simp [b2i, f_countPrintsInRows, F_inRows, c_2, c_3, c_3d]) ls (lv_sub hl [0, 3, 4, 1, 5, 6, 7] rfl)
          · skip
            have c_3d := Int32.not_lt.mp c_3
            refine lv_aload hx hb dX0_countPrintsInRows_48 (lv_at hl 0 rfl) ?_
            refine sp_get hx hb hts wi_X0_countPrintsInRows_X3 hown hK hP (κ := 9 + i) (by omega) (cE_print (by omega) (by omega)) rfl 4 (by decide) (hts _ (List.mem_of_getElem? (i := 3) rfl)) (fun _ h => h) rfl dX0_countPrintsInRows_50 ?_
            refine lv_iload_n hx hb dX0_countPrintsInRows_53 rfl (lv_at hl 7 rfl) ?_
            refine lv_icmp_ge (tgt := 61) hx hb dX0_countPrintsInRows_54 (by decide) (fun c_4 => ?_) (fun c_4 => ?_)
            · skip
              have c_4d := Int32.not_lt.mpr c_4
              refine lv_iconst (v := 0) hx hb dX0_countPrintsInRows_61 (by decide) ?_
              refine lv_iadd hx hb dX0_countPrintsInRows_62 ?_
              refine lv_istore_n (lv' := [(3, .int (x + 0)), (7, .ref (ad (9 + i))), (6, .int (nI i)), (5, .int (30)), (4, .ref (ad (2))), (0, .ref (ad (0))), (1, .int (a1)), (2, .int (b1))]) hx hb dX0_countPrintsInRows_63 rfl hl (by decide) rfl (fun ls hl => ?_)
              refine lv_iinc (v := nI (i + 1)) (lv' := [(6, .int (nI (i + 1))), (3, .int (x + 0)), (7, .ref (ad (9 + i))), (5, .int (30)), (4, .ref (ad (2))), (0, .ref (ad (0))), (1, .int (a1)), (2, .int (b1))]) hx hb dX0_countPrintsInRows_64 hl (k := 2) rfl (nI_1 _) (by decide) rfl (fun ls hl => ?_)
              refine lv_goto (tgt := 16) hx hb dX0_countPrintsInRows_67 (by decide) ?_
              exact ih (i + 1) (x + 0) (by omega) (by omega) (by rw [sumI_succ, ← hi_0]; simp [b2i, f_countPrintsInRows, F_inRows, c_2, c_3, c_3d, c_4, c_4d]) ls (lv_sub hl [0, 3, 4, 1, 5, 6, 7] rfl)
            · skip
              have c_4d := Int32.not_le.mp c_4
              refine lv_iconst (v := 1) hx hb dX0_countPrintsInRows_57 (by decide) ?_
              refine lv_goto (tgt := 62) hx hb dX0_countPrintsInRows_58 (by decide) ?_
              refine lv_iadd hx hb dX0_countPrintsInRows_62 ?_
              refine lv_istore_n (lv' := [(3, .int (x + 1)), (7, .ref (ad (9 + i))), (6, .int (nI i)), (5, .int (30)), (4, .ref (ad (2))), (0, .ref (ad (0))), (1, .int (a1)), (2, .int (b1))]) hx hb dX0_countPrintsInRows_63 rfl hl (by decide) rfl (fun ls hl => ?_)
              refine lv_iinc (v := nI (i + 1)) (lv' := [(6, .int (nI (i + 1))), (3, .int (x + 1)), (7, .ref (ad (9 + i))), (5, .int (30)), (4, .ref (ad (2))), (0, .ref (ad (0))), (1, .int (a1)), (2, .int (b1))]) hx hb dX0_countPrintsInRows_64 hl (k := 2) rfl (nI_1 _) (by decide) rfl (fun ls hl => ?_)
              refine lv_goto (tgt := 16) hx hb dX0_countPrintsInRows_67 (by decide) ?_
              exact ih (i + 1) (x + 1) (by omega) (by omega) (by rw [sumI_succ, ← hi_0]; simp [b2i, f_countPrintsInRows, F_inRows, c_2, c_3, c_3d, c_4, c_4d]) ls (lv_sub hl [0, 3, 4, 1, 5, 6, 7] rfl)
  exact loop_16 (30 + 1) (0) (0)  (by omega) (by omega) (rfl) ls (lv_sub hl [0, 1, 2, 3, 4, 5, 6] rfl)

set_option maxHeartbeats 4000000 in
set_option maxRecDepth 100000 in
theorem c_X0_countAllPrints (l : Launch) (D : va_G) (ad : Nat → Nat) (cy : Nat → ClassId) (pm : Nat → Nat) (rj : Option Nat) (σ : Nat → Nat → Int32) : Met l yX0_countAllPrints wsX0_countAllPrints ({ frames := 1, cells := 0, slots := 0, locals := 27 } : Room) (sp_Pc D (tyG cy) [.ref (ad (0))] (cW ad cy pm rj σ)) (sp_S (some (.int (f_countPrintsInRows σ 0 10)))) 0 0 (fun _ => False) := by
  refine Met.ofW (cc := cX0_countAllPrints) (maxL := 1) (ret := (some .int)) (by decide) rfl ?_
  intro p e s m args below meth c s₁ B hml hv
  obtain ⟨rfl, hP, hK⟩ := hv
  have hx := B.exec
  have hb := B.bytes
  have hr := B.returns
  have hts := atoms_spec (ws := wsX0_countAllPrints) B.pre
  have hown : s.vm.findClass RX0 = some m.cls := findClass_of_methodNamed B.named
  have hlocks := B.notSynchronized
  have hl := lv_entry ([.ref (ad (0))]) (n := 1) (Nat.le_of_ble_eq_true rfl)
  refine W.eq (lg_entry_eq _ ([.ref (ad (0))]) _) ?_
  generalize (lg_sl ([.ref (ad (0))]) ++ List.replicate (1 - (lg_sl ([.ref (ad (0))])).length) Slot.unset).toArray = ls at hl ⊢
  have hl : lv_has ls 1 [(0, .ref (ad (0)))] := hl
  refine lv_aload_n hx hb dX0_countAllPrints_0 rfl (lv_at hl 0 rfl) ?_
  refine lv_iconst (v := 0) hx hb dX0_countAllPrints_1 (by decide) ?_
  refine lv_bipush (v := 10) hx hb dX0_countAllPrints_2 (by decide) ?_
  refine sp_call (W.runV (As := [.int (0), .int (10)]) (rest := []) ⟨hx, hb, hml, hown, hts⟩ (c_X0_countPrintsInRows l D ad cy pm rj σ 0 10) (cwV 2 hts gX0_countAllPrints_X0_countPrintsInRows rfl rfl rfl (by decide +kernel) ⟨Nat.le_of_ble_eq_true rfl, Nat.le_of_ble_eq_true rfl⟩) (sp_preV hK hP (κ := 0) (by omega) (cE_beach (by omega) (by omega)) rfl) rfl rfl hl.1 rfl (lv_room (Nat.le_of_ble_eq_true rfl)) dX0_countAllPrints_4 ⟨Nat.le_of_ble_eq_true rfl, Nat.le_of_ble_eq_true rfl⟩) ?_
  refine W.eq (g2 := F0 m 7 ls [.int (f_countPrintsInRows σ 0 10)]) rfl ?_
  exact W.iret (v := f_countPrintsInRows σ 0 10) hx hb hr (fun T9 hT9 _ => ⟨by rw [show (f_countPrintsInRows σ 0 10 : Int32) = f_countPrintsInRows σ 0 10 from (by first | rfl | (simp [b2i]; done))], hT9⟩) (fun _ h => by cases h) dX0_countAllPrints_7

theorem wi_X0_countLatePrints_X0 : ∀ w ∈ wsX00, w ∈ wsX0_countLatePrints := by decide +kernel
theorem wi_X0_countLatePrints_X3 : ∀ w ∈ wsX30, w ∈ wsX0_countLatePrints := by decide +kernel
set_option maxHeartbeats 4000000 in
set_option maxRecDepth 100000 in
theorem c_X0_countLatePrints (l : Launch) (D : va_G) (ad : Nat → Nat) (cy : Nat → ClassId) (pm : Nat → Nat) (rj : Option Nat) (σ : Nat → Nat → Int32) : Met l yX0_countLatePrints wsX0_countLatePrints ({ frames := 0, cells := 0, slots := 0, locals := 0 } : Room) (sp_Pc D (tyG cy) [.ref (ad (0))] (cW ad cy pm rj σ)) (sp_S (some (.int (f_countLatePrints σ)))) 0 0 (fun _ => False) := by
  refine Met.ofW (cc := cX0_countLatePrints) (maxL := 6) (ret := (some .int)) (by decide) rfl ?_
  intro p e s m args below meth c s₁ B hml hv
  obtain ⟨rfl, hP, hK⟩ := hv
  have hx := B.exec
  have hb := B.bytes
  have hr := B.returns
  have hts := atoms_spec (ws := wsX0_countLatePrints) B.pre
  have hown : s.vm.findClass RX0 = some m.cls := findClass_of_methodNamed B.named
  have hlocks := B.notSynchronized
  have hl := lv_entry ([.ref (ad (0))]) (n := 6) (Nat.le_of_ble_eq_true rfl)
  refine W.eq (lg_entry_eq _ ([.ref (ad (0))]) _) ?_
  generalize (lg_sl ([.ref (ad (0))]) ++ List.replicate (6 - (lg_sl ([.ref (ad (0))])).length) Slot.unset).toArray = ls at hl ⊢
  have hl : lv_has ls 6 [(0, .ref (ad (0)))] := hl
  refine lv_iconst (v := 0) hx hb dX0_countLatePrints_0 (by decide) ?_
  refine lv_istore_n (lv' := [(1, .int (0)), (0, .ref (ad (0)))]) hx hb dX0_countLatePrints_1 rfl hl (by decide) rfl (fun ls hl => ?_)
  refine lv_aload_n hx hb dX0_countLatePrints_2 rfl (lv_at hl 1 rfl) ?_
  refine sp_get hx hb hts wi_X0_countLatePrints_X0 hown hK hP (κ := 0) (by omega) (cE_beach (by omega) (by omega)) rfl 1 (by decide) (hts _ (List.mem_of_getElem? (i := 1) rfl)) (fun _ h => h) rfl dX0_countLatePrints_3 ?_
  refine lv_astore_n (lv' := [(2, .ref (ad (2))), (1, .int (0)), (0, .ref (ad (0)))]) hx hb dX0_countLatePrints_6 rfl hl (by decide) rfl (fun ls hl => ?_)
  refine lv_aload_n hx hb dX0_countLatePrints_7 rfl (lv_at hl 0 rfl) ?_
  refine sp_alen hx hb hK hP (κ := 2) (by omega) 4 (cE_prints (by omega) (by omega)) rfl (v := 30) rfl dX0_countLatePrints_8 ?_
  refine lv_istore_n (lv' := [(3, .int (30)), (2, .ref (ad (2))), (1, .int (0)), (0, .ref (ad (0)))]) hx hb dX0_countLatePrints_9 rfl hl (by decide) rfl (fun ls hl => ?_)
  refine lv_iconst (v := 0) hx hb dX0_countLatePrints_10 (by decide) ?_
  refine lv_istore (lv' := [(4, .int (0)), (3, .int (30)), (2, .ref (ad (2))), (1, .int (0)), (0, .ref (ad (0)))]) hx hb dX0_countLatePrints_11 hl (by decide) rfl (fun ls hl => ?_)
  have loop_13 : ∀ (n i : Nat) (x : Int32), (i ≤ 30) → (30 - i < n) → (x = sumI (F_late σ) i) → ∀ ls : Array Slot, lv_has ls 6 [(4, .int (nI i)), (3, .int (30)), (2, .ref (ad (2))), (1, .int (x)), (0, .ref (ad (0)))] → W p l e (headSpec wsX0_countLatePrints ({ frames := 0, cells := 0, slots := 0, locals := 0 } : Room)).room s m ([.ref (ad (0))] : List Value).toArray below meth c s.heap [] 0 0 (MQ below (sp_S (some (.int (f_countLatePrints σ)))) ([.ref (ad (0))] : List Value).toArray s 0 0 (fun _ => False)) (F0 m 13 ls []) := by
    intro n
    induction n with
    | zero => intro i x hle hlt hi_0 ls hl; exact absurd hlt (Nat.not_lt_zero _)
    | succ n ih =>
      intro i x hle hlt hi_0 ls hl
      refine lv_iload hx hb dX0_countLatePrints_13 (lv_at hl 0 rfl) ?_
      refine lv_iload_n hx hb dX0_countLatePrints_15 rfl (lv_at hl 1 rfl) ?_
      refine lv_icmp_ge (tgt := 55) hx hb dX0_countLatePrints_16 (by decide) (fun c_1 => ?_) (fun c_1 => ?_)
      · skip
        have c_1d := Int32.not_lt.mpr c_1
        have hx_i : i = 30 := by have := (nI_leI (a := 30) (b := i) (by omega) (by omega)).mp c_1; omega
        try rw [hx_i] at hi_0
        refine lv_iload_n hx hb dX0_countLatePrints_55 rfl (lv_at hl 3 rfl) ?_
        exact W.iret (v := x) hx hb hr (fun T9 hT9 _ => ⟨by rw [show (x : Int32) = f_countLatePrints σ from (by exact hi_0)], hT9⟩) (fun _ h => by cases h) dX0_countLatePrints_56
      · skip
        have c_1d := Int32.not_le.mp c_1
        have hb_i : i < 30 := Nat.lt_of_not_le (fun z => c_1 (nI_le z (by omega)))
        refine lv_aload_n hx hb dX0_countLatePrints_19 rfl (lv_at hl 2 rfl) ?_
        refine lv_iload hx hb dX0_countLatePrints_20 (lv_at hl 0 rfl) ?_
        refine sp_aald hx hb hK hP (κ := 2) (by omega) 4 (cE_prints (by omega) (by omega)) rfl i rfl (by omega) (by decide) (q := ad (9 + i)) rfl dX0_countLatePrints_22 ?_
        refine lv_astore (lv' := [(5, .ref (ad (9 + i))), (4, .int (nI i)), (3, .int (30)), (2, .ref (ad (2))), (1, .int (x)), (0, .ref (ad (0)))]) hx hb dX0_countLatePrints_23 hl (by decide) rfl (fun ls hl => ?_)
        refine lv_iload_n hx hb dX0_countLatePrints_25 rfl (lv_at hl 4 rfl) ?_
        refine lv_aload hx hb dX0_countLatePrints_26 (lv_at hl 0 rfl) ?_
        refine sp_get hx hb hts wi_X0_countLatePrints_X3 hown hK hP (κ := 9 + i) (by omega) (cE_print (by omega) (by omega)) rfl 0 (by decide) (hts _ (List.mem_of_getElem? (i := 2) rfl)) (fun _ h => h) rfl dX0_countLatePrints_28 ?_
        refine lv_if_eq (tgt := 46) hx hb dX0_countLatePrints_31 (by decide) (fun c_2 => ?_) (fun c_2 => ?_)
        · rw [bz_eq0] at c_2
          refine lv_iconst (v := 0) hx hb dX0_countLatePrints_46 (by decide) ?_
          refine lv_iadd hx hb dX0_countLatePrints_47 ?_
          refine lv_istore_n (lv' := [(1, .int (x + 0)), (5, .ref (ad (9 + i))), (4, .int (nI i)), (3, .int (30)), (2, .ref (ad (2))), (0, .ref (ad (0)))]) hx hb dX0_countLatePrints_48 rfl hl (by decide) rfl (fun ls hl => ?_)
          refine lv_iinc (v := nI (i + 1)) (lv' := [(4, .int (nI (i + 1))), (1, .int (x + 0)), (5, .ref (ad (9 + i))), (3, .int (30)), (2, .ref (ad (2))), (0, .ref (ad (0)))]) hx hb dX0_countLatePrints_49 hl (k := 2) rfl (nI_1 _) (by decide) rfl (fun ls hl => ?_)
          refine lv_goto (tgt := 13) hx hb dX0_countLatePrints_52 (by decide) ?_
          exact ih (i + 1) (x + 0) (by omega) (by omega) (by rw [sumI_succ, ← hi_0]; simp [b2i, f_countLatePrints, F_late, c_2]) ls (lv_sub hl [0, 3, 4, 1, 5] rfl)
        · rw [bz_eq0] at c_2
          refine lv_aload hx hb dX0_countLatePrints_34 (lv_at hl 0 rfl) ?_
          refine sp_get hx hb hts wi_X0_countLatePrints_X3 hown hK hP (κ := 9 + i) (by omega) (cE_print (by omega) (by omega)) rfl 9 (by decide) (hts _ (List.mem_of_getElem? (i := 3) rfl)) (fun _ h => h) rfl dX0_countLatePrints_36 ?_
          refine lv_if_eq (tgt := 46) hx hb dX0_countLatePrints_39 (by decide) (fun c_3 => ?_) (fun c_3 => ?_)
          · rw [bz_eq0] at c_3
            refine lv_iconst (v := 0) hx hb dX0_countLatePrints_46 (by decide) ?_
            refine lv_iadd hx hb dX0_countLatePrints_47 ?_
            refine lv_istore_n (lv' := [(1, .int (x + 0)), (5, .ref (ad (9 + i))), (4, .int (nI i)), (3, .int (30)), (2, .ref (ad (2))), (0, .ref (ad (0)))]) hx hb dX0_countLatePrints_48 rfl hl (by decide) rfl (fun ls hl => ?_)
            refine lv_iinc (v := nI (i + 1)) (lv' := [(4, .int (nI (i + 1))), (1, .int (x + 0)), (5, .ref (ad (9 + i))), (3, .int (30)), (2, .ref (ad (2))), (0, .ref (ad (0)))]) hx hb dX0_countLatePrints_49 hl (k := 2) rfl (nI_1 _) (by decide) rfl (fun ls hl => ?_)
            refine lv_goto (tgt := 13) hx hb dX0_countLatePrints_52 (by decide) ?_
            exact ih (i + 1) (x + 0) (by omega) (by omega) (by rw [sumI_succ, ← hi_0]; simp [b2i, f_countLatePrints, F_late, c_2, c_3]) ls (lv_sub hl [0, 3, 4, 1, 5] rfl)
          · rw [bz_eq0] at c_3
            refine lv_iconst (v := 1) hx hb dX0_countLatePrints_42 (by decide) ?_
            refine lv_goto (tgt := 47) hx hb dX0_countLatePrints_43 (by decide) ?_
            refine lv_iadd hx hb dX0_countLatePrints_47 ?_
            refine lv_istore_n (lv' := [(1, .int (x + 1)), (5, .ref (ad (9 + i))), (4, .int (nI i)), (3, .int (30)), (2, .ref (ad (2))), (0, .ref (ad (0)))]) hx hb dX0_countLatePrints_48 rfl hl (by decide) rfl (fun ls hl => ?_)
            refine lv_iinc (v := nI (i + 1)) (lv' := [(4, .int (nI (i + 1))), (1, .int (x + 1)), (5, .ref (ad (9 + i))), (3, .int (30)), (2, .ref (ad (2))), (0, .ref (ad (0)))]) hx hb dX0_countLatePrints_49 hl (k := 2) rfl (nI_1 _) (by decide) rfl (fun ls hl => ?_)
            refine lv_goto (tgt := 13) hx hb dX0_countLatePrints_52 (by decide) ?_
            exact ih (i + 1) (x + 1) (by omega) (by omega) (by rw [sumI_succ, ← hi_0]; simp [b2i, f_countLatePrints, F_late, c_2, c_3]) ls (lv_sub hl [0, 3, 4, 1, 5] rfl)
  exact loop_13 (30 + 1) (0) (0)  (by omega) (by omega) (rfl) ls (lv_sub hl [0, 1, 2, 3, 4] rfl)

theorem wi_X0_countPrintsBetween_X0 : ∀ w ∈ wsX00, w ∈ wsX0_countPrintsBetween := by decide +kernel
theorem wi_X0_countPrintsBetween_X3 : ∀ w ∈ wsX30, w ∈ wsX0_countPrintsBetween := by decide +kernel
set_option maxHeartbeats 4000000 in
set_option maxRecDepth 100000 in
theorem c_X0_countPrintsBetween (l : Launch) (D : va_G) (ad : Nat → Nat) (cy : Nat → ClassId) (pm : Nat → Nat) (rj : Option Nat) (σ : Nat → Nat → Int32) (t : Int32) (a1 : Int32) (b1 : Int32) : Met l yX0_countPrintsBetween wsX0_countPrintsBetween ({ frames := 1, cells := 0, slots := 0, locals := 21 } : Room) (sp_Pc D (tyG cy) [.ref (ad (0)), .int (t), .int (a1), .int (b1)] (cW ad cy pm rj σ)) (sp_S (some (.int (f_countPrintsBetween σ t a1 b1)))) 0 0 (fun _ => False) := by
  refine Met.ofW (cc := cX0_countPrintsBetween) (maxL := 9) (ret := (some .int)) (by decide) rfl ?_
  intro p e s m args below meth c s₁ B hml hv
  obtain ⟨rfl, hP, hK⟩ := hv
  have hx := B.exec
  have hb := B.bytes
  have hr := B.returns
  have hts := atoms_spec (ws := wsX0_countPrintsBetween) B.pre
  have hown : s.vm.findClass RX0 = some m.cls := findClass_of_methodNamed B.named
  have hlocks := B.notSynchronized
  have hl := lv_entry ([.ref (ad (0)), .int (t), .int (a1), .int (b1)]) (n := 9) (Nat.le_of_ble_eq_true rfl)
  refine W.eq (lg_entry_eq _ ([.ref (ad (0)), .int (t), .int (a1), .int (b1)]) _) ?_
  generalize (lg_sl ([.ref (ad (0)), .int (t), .int (a1), .int (b1)]) ++ List.replicate (9 - (lg_sl ([.ref (ad (0)), .int (t), .int (a1), .int (b1)])).length) Slot.unset).toArray = ls at hl ⊢
  have hl : lv_has ls 9 [(0, .ref (ad (0))), (1, .int (t)), (2, .int (a1)), (3, .int (b1))] := hl
  refine lv_iconst (v := 0) hx hb dX0_countPrintsBetween_0 (by decide) ?_
  refine lv_istore (lv' := [(4, .int (0)), (0, .ref (ad (0))), (1, .int (t)), (2, .int (a1)), (3, .int (b1))]) hx hb dX0_countPrintsBetween_1 hl (by decide) rfl (fun ls hl => ?_)
  refine lv_aload_n hx hb dX0_countPrintsBetween_3 rfl (lv_at hl 1 rfl) ?_
  refine sp_get hx hb hts wi_X0_countPrintsBetween_X0 hown hK hP (κ := 0) (by omega) (cE_beach (by omega) (by omega)) rfl 1 (by decide) (hts _ (List.mem_of_getElem? (i := 1) rfl)) (fun _ h => h) rfl dX0_countPrintsBetween_4 ?_
  refine lv_astore (lv' := [(5, .ref (ad (2))), (4, .int (0)), (0, .ref (ad (0))), (1, .int (t)), (2, .int (a1)), (3, .int (b1))]) hx hb dX0_countPrintsBetween_7 hl (by decide) rfl (fun ls hl => ?_)
  refine lv_aload hx hb dX0_countPrintsBetween_9 (lv_at hl 0 rfl) ?_
  refine sp_alen hx hb hK hP (κ := 2) (by omega) 4 (cE_prints (by omega) (by omega)) rfl (v := 30) rfl dX0_countPrintsBetween_11 ?_
  refine lv_istore (lv' := [(6, .int (30)), (5, .ref (ad (2))), (4, .int (0)), (0, .ref (ad (0))), (1, .int (t)), (2, .int (a1)), (3, .int (b1))]) hx hb dX0_countPrintsBetween_12 hl (by decide) rfl (fun ls hl => ?_)
  refine lv_iconst (v := 0) hx hb dX0_countPrintsBetween_14 (by decide) ?_
  refine lv_istore (lv' := [(7, .int (0)), (6, .int (30)), (5, .ref (ad (2))), (4, .int (0)), (0, .ref (ad (0))), (1, .int (t)), (2, .int (a1)), (3, .int (b1))]) hx hb dX0_countPrintsBetween_15 hl (by decide) rfl (fun ls hl => ?_)
  have loop_17 : ∀ (n i : Nat) (x : Int32), (i ≤ 30) → (30 - i < n) → (x = sumI (F_between σ t a1 b1) i) → ∀ ls : Array Slot, lv_has ls 9 [(7, .int (nI i)), (6, .int (30)), (5, .ref (ad (2))), (4, .int (x)), (0, .ref (ad (0))), (1, .int (t)), (2, .int (a1)), (3, .int (b1))] → W p l e (headSpec wsX0_countPrintsBetween ({ frames := 1, cells := 0, slots := 0, locals := 21 } : Room)).room s m ([.ref (ad (0)), .int (t), .int (a1), .int (b1)] : List Value).toArray below meth c s.heap [] 0 0 (MQ below (sp_S (some (.int (f_countPrintsBetween σ t a1 b1)))) ([.ref (ad (0)), .int (t), .int (a1), .int (b1)] : List Value).toArray s 0 0 (fun _ => False)) (F0 m 17 ls []) := by
    intro n
    induction n with
    | zero => intro i x hle hlt hi_0 ls hl; exact absurd hlt (Nat.not_lt_zero _)
    | succ n ih =>
      intro i x hle hlt hi_0 ls hl
      refine lv_iload hx hb dX0_countPrintsBetween_17 (lv_at hl 0 rfl) ?_
      refine lv_iload hx hb dX0_countPrintsBetween_19 (lv_at hl 1 rfl) ?_
      refine lv_icmp_ge (tgt := 74) hx hb dX0_countPrintsBetween_21 (by decide) (fun c_1 => ?_) (fun c_1 => ?_)
      · skip
        have c_1d := Int32.not_lt.mpr c_1
        have hx_i : i = 30 := by have := (nI_leI (a := 30) (b := i) (by omega) (by omega)).mp c_1; omega
        try rw [hx_i] at hi_0
        refine lv_iload hx hb dX0_countPrintsBetween_74 (lv_at hl 3 rfl) ?_
        exact W.iret (v := x) hx hb hr (fun T9 hT9 _ => ⟨by rw [show (x : Int32) = f_countPrintsBetween σ t a1 b1 from (by exact hi_0)], hT9⟩) (fun _ h => by cases h) dX0_countPrintsBetween_76
      · skip
        have c_1d := Int32.not_le.mp c_1
        have hb_i : i < 30 := Nat.lt_of_not_le (fun z => c_1 (nI_le z (by omega)))
        refine lv_aload hx hb dX0_countPrintsBetween_24 (lv_at hl 2 rfl) ?_
        refine lv_iload hx hb dX0_countPrintsBetween_26 (lv_at hl 0 rfl) ?_
        refine sp_aald hx hb hK hP (κ := 2) (by omega) 4 (cE_prints (by omega) (by omega)) rfl i rfl (by omega) (by decide) (q := ad (9 + i)) rfl dX0_countPrintsBetween_28 ?_
        refine lv_astore (lv' := [(8, .ref (ad (9 + i))), (7, .int (nI i)), (6, .int (30)), (5, .ref (ad (2))), (4, .int (x)), (0, .ref (ad (0))), (1, .int (t)), (2, .int (a1)), (3, .int (b1))]) hx hb dX0_countPrintsBetween_29 hl (by decide) rfl (fun ls hl => ?_)
        refine lv_iload hx hb dX0_countPrintsBetween_31 (lv_at hl 4 rfl) ?_
        refine lv_aload hx hb dX0_countPrintsBetween_33 (lv_at hl 0 rfl) ?_
        refine lv_iload_n hx hb dX0_countPrintsBetween_35 rfl (lv_at hl 6 rfl) ?_
        refine sp_call (W.runV (As := [.int (t)]) (rest := [.int (x)]) ⟨hx, hb, hml, hown, hts⟩ (c_X3_isOn l D ad cy pm rj σ (9 + i) (by omega) (by omega) t) (cwV 1 hts gX0_countPrintsBetween_X3_isOn rfl rfl rfl (by decide +kernel) ⟨Nat.le_of_ble_eq_true rfl, Nat.le_of_ble_eq_true rfl⟩) (sp_preV hK hP (κ := 9 + i) (by omega) (cE_print (by omega) (by omega)) rfl) rfl rfl hl.1 rfl (lv_room (Nat.le_of_ble_eq_true rfl)) dX0_countPrintsBetween_36 ⟨Nat.le_of_ble_eq_true rfl, Nat.le_of_ble_eq_true rfl⟩) ?_
        refine W.eq (g2 := F0 m 39 ls [.int (b2i (f_isOn σ (9 + i) t)), .int (x)]) rfl ?_
        refine lv_if_eq (tgt := 64) hx hb dX0_countPrintsBetween_39 (by decide) (fun c_2 => ?_) (fun c_2 => ?_)
        · rw [b2i_eq0] at c_2
          refine lv_iconst (v := 0) hx hb dX0_countPrintsBetween_64 (by decide) ?_
          refine lv_iadd hx hb dX0_countPrintsBetween_65 ?_
          refine lv_istore (lv' := [(4, .int (x + 0)), (8, .ref (ad (9 + i))), (7, .int (nI i)), (6, .int (30)), (5, .ref (ad (2))), (0, .ref (ad (0))), (1, .int (t)), (2, .int (a1)), (3, .int (b1))]) hx hb dX0_countPrintsBetween_66 hl (by decide) rfl (fun ls hl => ?_)
          refine lv_iinc (v := nI (i + 1)) (lv' := [(7, .int (nI (i + 1))), (4, .int (x + 0)), (8, .ref (ad (9 + i))), (6, .int (30)), (5, .ref (ad (2))), (0, .ref (ad (0))), (1, .int (t)), (2, .int (a1)), (3, .int (b1))]) hx hb dX0_countPrintsBetween_68 hl (k := 2) rfl (nI_1 _) (by decide) rfl (fun ls hl => ?_)
          refine lv_goto (tgt := 17) hx hb dX0_countPrintsBetween_71 (by decide) ?_
          exact ih (i + 1) (x + 0) (by omega) (by omega) (by rw [sumI_succ, ← hi_0]; simp [b2i, f_countPrintsBetween, F_between, c_2]) ls (lv_sub hl [0, 3, 4, 1, 5, 6, 7, 8] rfl)
        · rw [b2i_eq0] at c_2
          refine lv_aload hx hb dX0_countPrintsBetween_42 (lv_at hl 0 rfl) ?_
          refine sp_get hx hb hts wi_X0_countPrintsBetween_X3 hown hK hP (κ := 9 + i) (by omega) (cE_print (by omega) (by omega)) rfl 3 (by decide) (hts _ (List.mem_of_getElem? (i := 2) rfl)) (fun _ h => h) rfl dX0_countPrintsBetween_44 ?_
          refine lv_iload_n hx hb dX0_countPrintsBetween_47 rfl (lv_at hl 7 rfl) ?_
          refine lv_icmp_le (tgt := 64) hx hb dX0_countPrintsBetween_48 (by decide) (fun c_3 => ?_) (fun c_3 => ?_)
          · skip
            have c_3d := Int32.not_lt.mpr c_3
            refine lv_iconst (v := 0) hx hb dX0_countPrintsBetween_64 (by decide) ?_
            refine lv_iadd hx hb dX0_countPrintsBetween_65 ?_
            refine lv_istore (lv' := [(4, .int (x + 0)), (8, .ref (ad (9 + i))), (7, .int (nI i)), (6, .int (30)), (5, .ref (ad (2))), (0, .ref (ad (0))), (1, .int (t)), (2, .int (a1)), (3, .int (b1))]) hx hb dX0_countPrintsBetween_66 hl (by decide) rfl (fun ls hl => ?_)
            refine lv_iinc (v := nI (i + 1)) (lv' := [(7, .int (nI (i + 1))), (4, .int (x + 0)), (8, .ref (ad (9 + i))), (6, .int (30)), (5, .ref (ad (2))), (0, .ref (ad (0))), (1, .int (t)), (2, .int (a1)), (3, .int (b1))]) hx hb dX0_countPrintsBetween_68 hl (k := 2) rfl (nI_1 _) (by decide) rfl (fun ls hl => ?_)
            refine lv_goto (tgt := 17) hx hb dX0_countPrintsBetween_71 (by decide) ?_
            exact ih (i + 1) (x + 0) (by omega) (by omega) (by rw [sumI_succ, ← hi_0]; simp [b2i, f_countPrintsBetween, F_between, c_2, c_3, c_3d]) ls (lv_sub hl [0, 3, 4, 1, 5, 6, 7, 8] rfl)
          · skip
            have c_3d := Int32.not_le.mp c_3
            refine lv_aload hx hb dX0_countPrintsBetween_51 (lv_at hl 0 rfl) ?_
            refine sp_get hx hb hts wi_X0_countPrintsBetween_X3 hown hK hP (κ := 9 + i) (by omega) (cE_print (by omega) (by omega)) rfl 3 (by decide) (hts _ (List.mem_of_getElem? (i := 2) rfl)) (fun _ h => h) rfl dX0_countPrintsBetween_53 ?_
            refine lv_iload_n hx hb dX0_countPrintsBetween_56 rfl (lv_at hl 8 rfl) ?_
            refine lv_icmp_ge (tgt := 64) hx hb dX0_countPrintsBetween_57 (by decide) (fun c_4 => ?_) (fun c_4 => ?_)
            · skip
              have c_4d := Int32.not_lt.mpr c_4
              refine lv_iconst (v := 0) hx hb dX0_countPrintsBetween_64 (by decide) ?_
              refine lv_iadd hx hb dX0_countPrintsBetween_65 ?_
              refine lv_istore (lv' := [(4, .int (x + 0)), (8, .ref (ad (9 + i))), (7, .int (nI i)), (6, .int (30)), (5, .ref (ad (2))), (0, .ref (ad (0))), (1, .int (t)), (2, .int (a1)), (3, .int (b1))]) hx hb dX0_countPrintsBetween_66 hl (by decide) rfl (fun ls hl => ?_)
              refine lv_iinc (v := nI (i + 1)) (lv' := [(7, .int (nI (i + 1))), (4, .int (x + 0)), (8, .ref (ad (9 + i))), (6, .int (30)), (5, .ref (ad (2))), (0, .ref (ad (0))), (1, .int (t)), (2, .int (a1)), (3, .int (b1))]) hx hb dX0_countPrintsBetween_68 hl (k := 2) rfl (nI_1 _) (by decide) rfl (fun ls hl => ?_)
              refine lv_goto (tgt := 17) hx hb dX0_countPrintsBetween_71 (by decide) ?_
              exact ih (i + 1) (x + 0) (by omega) (by omega) (by rw [sumI_succ, ← hi_0]; simp [b2i, f_countPrintsBetween, F_between, c_2, c_3, c_3d, c_4, c_4d]) ls (lv_sub hl [0, 3, 4, 1, 5, 6, 7, 8] rfl)
            · skip
              have c_4d := Int32.not_le.mp c_4
              refine lv_iconst (v := 1) hx hb dX0_countPrintsBetween_60 (by decide) ?_
              refine lv_goto (tgt := 65) hx hb dX0_countPrintsBetween_61 (by decide) ?_
              refine lv_iadd hx hb dX0_countPrintsBetween_65 ?_
              refine lv_istore (lv' := [(4, .int (x + 1)), (8, .ref (ad (9 + i))), (7, .int (nI i)), (6, .int (30)), (5, .ref (ad (2))), (0, .ref (ad (0))), (1, .int (t)), (2, .int (a1)), (3, .int (b1))]) hx hb dX0_countPrintsBetween_66 hl (by decide) rfl (fun ls hl => ?_)
              refine lv_iinc (v := nI (i + 1)) (lv' := [(7, .int (nI (i + 1))), (4, .int (x + 1)), (8, .ref (ad (9 + i))), (6, .int (30)), (5, .ref (ad (2))), (0, .ref (ad (0))), (1, .int (t)), (2, .int (a1)), (3, .int (b1))]) hx hb dX0_countPrintsBetween_68 hl (k := 2) rfl (nI_1 _) (by decide) rfl (fun ls hl => ?_)
              refine lv_goto (tgt := 17) hx hb dX0_countPrintsBetween_71 (by decide) ?_
              exact ih (i + 1) (x + 1) (by omega) (by omega) (by rw [sumI_succ, ← hi_0]; simp [b2i, f_countPrintsBetween, F_between, c_2, c_3, c_3d, c_4, c_4d]) ls (lv_sub hl [0, 3, 4, 1, 5, 6, 7, 8] rfl)
  exact loop_17 (30 + 1) (0) (0)  (by omega) (by omega) (rfl) ls (lv_sub hl [0, 1, 2, 3, 4, 5, 6, 7] rfl)
