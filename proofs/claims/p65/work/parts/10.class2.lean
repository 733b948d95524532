theorem foldI_lt {f : Option Nat → Nat → Option Nat} (hf : ∀ x i, f x i = x ∨ f x i = some i) : ∀ {n j : Nat}, foldI f none n = some j → j < n
  | 0, j, h => by cases h
  | n + 1, j, h => by
    rw [foldI_succ] at h
    rcases hf (foldI f none n) n with q | q
    · rw [q] at h; exact Nat.lt_succ_of_lt (foldI_lt hf h)
    · rw [q] at h; cases h; exact Nat.lt_succ_self n
def f_countPrints (σ : Nat → Nat → Int32) (k : Nat) : Int32 := f_countPrintsBetween σ (σ (3 + k) 1) (-1) 1000
def P_inPlace (σ : Nat → Nat → Int32) (k : Nat) (q : Int32) (i : Nat) : Bool := f_isOn σ (9 + i) (σ (3 + k) 1) && f_countPrintsBetween σ (σ (3 + k) 1) (-1) (σ (9 + i) 3) == q
def f_inPlace (σ : Nat → Nat → Int32) (k : Nat) (q : Int32) : Option Nat := fstI (P_inPlace σ k q) 30
theorem f_inPlace_lt {σ : Nat → Nat → Int32} {k : Nat} {q : Int32} {j : Nat} (h : f_inPlace σ k q = some j) : j < 30 := (fstI_some h).1
def S_before (σ : Nat → Nat → Int32) (k : Nat) (x : Option Nat) (i : Nat) : Option Nat := if f_isOn σ (9 + i) (σ (9 + k) 2) && decide (σ (9 + i) 3 < σ (9 + k) 3) && (match x with | none => true | some j => decide (σ (9 + j) 3 < σ (9 + i) 3)) then some i else x
theorem S_before_or (σ : Nat → Nat → Int32) (k : Nat) : ∀ x i, S_before σ k x i = x ∨ S_before σ k x i = some i := fun x i => by
  unfold S_before; exact (Decidable.em _).elim (fun h => Or.inr (if_pos h)) (fun h => Or.inl (if_neg h))
def f_before (σ : Nat → Nat → Int32) (k : Nat) : Option Nat := foldI (S_before σ k) none 30
theorem f_before_lt {σ : Nat → Nat → Int32} {k j : Nat} (h : f_before σ k = some j) : j < 30 := foldI_lt (S_before_or σ k) h
def S_after (σ : Nat → Nat → Int32) (k : Nat) (x : Option Nat) (i : Nat) : Option Nat := if f_isOn σ (9 + i) (σ (9 + k) 2) && decide (σ (9 + k) 3 < σ (9 + i) 3) && (match x with | none => true | some j => decide (σ (9 + i) 3 < σ (9 + j) 3)) then some i else x
theorem S_after_or (σ : Nat → Nat → Int32) (k : Nat) : ∀ x i, S_after σ k x i = x ∨ S_after σ k x i = some i := fun x i => by
  unfold S_after; exact (Decidable.em _).elim (fun h => Or.inr (if_pos h)) (fun h => Or.inl (if_neg h))
def f_after (σ : Nat → Nat → Int32) (k : Nat) : Option Nat := foldI (S_after σ k) none 30
theorem f_after_lt {σ : Nat → Nat → Int32} {k j : Nat} (h : f_after σ k = some j) : j < 30 := foldI_lt (S_after_or σ k) h
def fdP (σ : Nat → Nat → Int32) (k i : Nat) : Int32 := if σ (9 + i) 8 = σ (9 + k) 8 then (if σ (9 + i) 3 = σ (9 + k) 3 then σ (9 + k) 1 - σ (9 + i) 1 else σ (9 + k) 3 - σ (9 + i) 3) else σ (9 + i) 8 - σ (9 + k) 8
def F_aheadP (σ : Nat → Nat → Int32) (k i : Nat) : Int32 := b2i (σ (9 + i) 0 != 0 && decide (0 < fdP σ k i))
def f_aheadP (σ : Nat → Nat → Int32) (k : Nat) : Int32 := sumI (F_aheadP σ k) 30
def f_under (σ : Nat → Nat → Int32) (r : Int32) : Bool := decide (r < σ 0 2)
def f_tooLong (σ : Nat → Nat → Int32) (x : Option Nat) (k : Nat) : Bool := match x with
  | none => false
  | some j => match f_findTrack σ (σ (9 + k) 2) with
    | none => false
    | some t => decide (σ (3 + t) 2 < f_dist σ (9 + k) (σ (9 + j) 4) (σ (9 + j) 5))
def f_sameFoot (σ : Nat → Nat → Int32) (x : Option Nat) (k : Nat) : Bool := match x with
  | none => false
  | some j => bz (σ (9 + j) 6) == bz (σ (9 + k) 6)
def f_uneven (σ : Nat → Nat → Int32) (x : Option Nat) (k : Nat) : Bool := match x with
  | none => false
  | some j => decide (3 < iabs (σ (9 + j) 7 - σ (9 + k) 7))
def f_hasError (σ : Nat → Nat → Int32) (k : Nat) : Bool := f_tooLong σ (f_before σ k) k || f_sameFoot σ (f_before σ k) k || f_uneven σ (f_before σ k) k
def F_err (σ : Nat → Nat → Int32) (t x : Int32) (i : Nat) : Int32 := if f_isOn σ (9 + i) t then x + b2i (f_tooLong σ (f_before σ i) i) + b2i (f_sameFoot σ (f_before σ i) i) + b2i (f_uneven σ (f_before σ i) i) else x + b2i (f_tooLong σ none i) + b2i (f_sameFoot σ none i) + b2i (f_uneven σ none i)
def f_errs (σ : Nat → Nat → Int32) (t : Int32) : Int32 := foldI (F_err σ t) 0 30
def F_k1 (σ : Nat → Nat → Int32) (t x : Int32) (i : Nat) : Int32 := x + b2i (f_isOn σ (9 + i) t && f_tooLong σ (f_before σ i) i)
def F_k2 (σ : Nat → Nat → Int32) (t x : Int32) (i : Nat) : Int32 := x + b2i (f_isOn σ (9 + i) t && f_sameFoot σ (f_before σ i) i)
def F_k3 (σ : Nat → Nat → Int32) (t x : Int32) (i : Nat) : Int32 := x + b2i (f_isOn σ (9 + i) t && f_uneven σ (f_before σ i) i)
def f_errsK (σ : Nat → Nat → Int32) (t : Int32) : Int32 := foldI (F_k1 σ t) 0 30 + foldI (F_k2 σ t) 0 30 + foldI (F_k3 σ t) 0 30
def F_len (σ : Nat → Nat → Int32) (k : Nat) (x : Int32) (i : Nat) : Int32 := if f_isOn σ (9 + i) (σ (3 + k) 1) then (match f_before σ i with | none => x + 0 | some j => x + f_dist σ (9 + i) (σ (9 + j) 4) (σ (9 + j) 5)) else x + 0
def f_len (σ : Nat → Nat → Int32) (k : Nat) : Int32 := foldI (F_len σ k) 0 30
def F_dr (σ : Nat → Nat → Int32) (k : Nat) (x : Int32) (i : Nat) : Int32 := if f_isOn σ (9 + i) (σ (3 + k) 1) then (match f_before σ i with | none => x | some j => x + iabs (σ (9 + i) 4 - σ (9 + j) 4)) else x
def F_dc (σ : Nat → Nat → Int32) (k : Nat) (x : Int32) (i : Nat) : Int32 := if f_isOn σ (9 + i) (σ (3 + k) 1) then (match f_before σ i with | none => x | some j => x + iabs (σ (9 + i) 5 - σ (9 + j) 5)) else x
def f_lenD (σ : Nat → Nat → Int32) (k : Nat) : Int32 := foldI (F_dr σ k) 0 30 + foldI (F_dc σ k) 0 30
theorem wi_X0_countPrints_X8 : ∀ w ∈ wsX80, w ∈ wsX0_countPrints := by decide +kernel
set_option maxHeartbeats 4000000 in
set_option maxRecDepth 100000 in
theorem c_X0_countPrints (l : Launch) (D : va_G) (ad : Nat → Nat) (cy : Nat → ClassId) (pm : Nat → Nat) (rj : Option Nat) (σ : Nat → Nat → Int32) (k : Nat) (hk : k < 6) : Met l yX0_countPrints wsX0_countPrints ({ frames := 2, cells := 0, slots := 0, locals := 49 } : Room) (sp_Pc D (tyG cy) [.ref (ad (0)), .ref (ad (3 + k))] (cW ad cy pm rj σ)) (sp_S (some (.int (f_countPrints σ k)))) 0 0 (fun _ => False) := by
  refine Met.ofW (cc := cX0_countPrints) (maxL := 2) (ret := (some .int)) (by decide) rfl ?_
  intro p e s m args below meth c s₁ B hml hv
  obtain ⟨rfl, hP, hK⟩ := hv
  have hx := B.exec
  have hb := B.bytes
  have hr := B.returns
  have hts := atoms_spec (ws := wsX0_countPrints) B.pre
  have hown : s.vm.findClass RX0 = some m.cls := findClass_of_methodNamed B.named
  have hlocks := B.notSynchronized
  have hl := lv_entry ([.ref (ad (0)), .ref (ad (3 + k))]) (n := 2) (Nat.le_of_ble_eq_true rfl)
  refine W.eq (lg_entry_eq _ ([.ref (ad (0)), .ref (ad (3 + k))]) _) ?_
  generalize (lg_sl ([.ref (ad (0)), .ref (ad (3 + k))]) ++ List.replicate (2 - (lg_sl ([.ref (ad (0)), .ref (ad (3 + k))])).length) Slot.unset).toArray = ls at hl ⊢
  have hl : lv_has ls 2 [(0, .ref (ad (0))), (1, .ref (ad (3 + k)))] := hl
  refine lv_aload_n hx hb dX0_countPrints_0 rfl (lv_at hl 0 rfl) ?_
  refine lv_aload_n hx hb dX0_countPrints_1 rfl (lv_at hl 1 rfl) ?_
  refine sp_get hx hb hts wi_X0_countPrints_X8 hown hK hP (κ := 3 + k) (by omega) (cE_track (by omega) (by omega)) rfl 1 (by decide) (hts _ (List.mem_of_getElem? (i := 1) rfl)) (fun _ h => h) rfl dX0_countPrints_2 ?_
  refine lv_iconst (v := (-1)) hx hb dX0_countPrints_5 (by decide) ?_
  refine lv_sipush (v := 1000) hx hb dX0_countPrints_6 (by decide) ?_
  refine sp_call (W.runV (As := [.int (σ (3 + k) 1), .int ((-1)), .int (1000)]) (rest := []) ⟨hx, hb, hml, hown, hts⟩ (c_X0_countPrintsBetween l D ad cy pm rj σ (σ (3 + k) 1) (-1) 1000) (cwV 3 hts gX0_countPrints_X0_countPrintsBetween rfl rfl rfl (by decide +kernel) ⟨Nat.le_of_ble_eq_true rfl, Nat.le_of_ble_eq_true rfl⟩) (sp_preV hK hP (κ := 0) (by omega) (cE_beach (by omega) (by omega)) rfl) rfl rfl hl.1 rfl (lv_room (Nat.le_of_ble_eq_true rfl)) dX0_countPrints_9 ⟨Nat.le_of_ble_eq_true rfl, Nat.le_of_ble_eq_true rfl⟩) ?_
  refine W.eq (g2 := F0 m 12 ls [.int (f_countPrintsBetween σ (σ (3 + k) 1) (-1) 1000)]) rfl ?_
  exact W.iret (v := f_countPrintsBetween σ (σ (3 + k) 1) (-1) 1000) hx hb hr (fun T9 hT9 _ => ⟨by rw [show (f_countPrintsBetween σ (σ (3 + k) 1) (-1) 1000 : Int32) = f_countPrints σ k from (by first | rfl | (simp [f_countPrints, b2i]; done))], hT9⟩) (fun _ h => by cases h) dX0_countPrints_12

theorem wi_X0_inPlace_X0 : ∀ w ∈ wsX00, w ∈ wsX0_inPlace := by decide +kernel
theorem wi_X0_inPlace_X8 : ∀ w ∈ wsX80, w ∈ wsX0_inPlace := by decide +kernel
theorem wi_X0_inPlace_X3 : ∀ w ∈ wsX30, w ∈ wsX0_inPlace := by decide +kernel
set_option maxHeartbeats 4000000 in
set_option maxRecDepth 100000 in
theorem c_X0_inPlace (l : Launch) (D : va_G) (ad : Nat → Nat) (cy : Nat → ClassId) (pm : Nat → Nat) (rj : Option Nat) (σ : Nat → Nat → Int32) (k : Nat) (hk : k < 6) (q : Int32) : Met l yX0_inPlace wsX0_inPlace ({ frames := 2, cells := 0, slots := 0, locals := 49 } : Room) (sp_Pc D (tyG cy) [.ref (ad (0)), .ref (ad (3 + k)), .int (q)] (cW ad cy pm rj σ)) (sp_S (some (va_rf ((f_inPlace σ k q).map (fun i => ad (9 + i)))))) 0 0 (fun _ => False) := by
  refine Met.ofW (cc := cX0_inPlace) (maxL := 7) (ret := (some (.object "SandProofreader$Print"))) (by decide) rfl ?_
  intro p e s m args below meth c s₁ B hml hv
  obtain ⟨rfl, hP, hK⟩ := hv
  have hx := B.exec
  have hb := B.bytes
  have hr := B.returns
  have hts := atoms_spec (ws := wsX0_inPlace) B.pre
  have hown : s.vm.findClass RX0 = some m.cls := findClass_of_methodNamed B.named
  have hlocks := B.notSynchronized
  have hl := lv_entry ([.ref (ad (0)), .ref (ad (3 + k)), .int (q)]) (n := 7) (Nat.le_of_ble_eq_true rfl)
  refine W.eq (lg_entry_eq _ ([.ref (ad (0)), .ref (ad (3 + k)), .int (q)]) _) ?_
  generalize (lg_sl ([.ref (ad (0)), .ref (ad (3 + k)), .int (q)]) ++ List.replicate (7 - (lg_sl ([.ref (ad (0)), .ref (ad (3 + k)), .int (q)])).length) Slot.unset).toArray = ls at hl ⊢
  have hl : lv_has ls 7 [(0, .ref (ad (0))), (1, .ref (ad (3 + k))), (2, .int (q))] := hl
  refine lv_aload_n hx hb dX0_inPlace_0 rfl (lv_at hl 0 rfl) ?_
  refine sp_get hx hb hts wi_X0_inPlace_X0 hown hK hP (κ := 0) (by omega) (cE_beach (by omega) (by omega)) rfl 1 (by decide) (hts _ (List.mem_of_getElem? (i := 1) rfl)) (fun _ h => h) rfl dX0_inPlace_1 ?_
  refine lv_astore_n (lv' := [(3, .ref (ad (2))), (0, .ref (ad (0))), (1, .ref (ad (3 + k))), (2, .int (q))]) hx hb dX0_inPlace_4 rfl hl (by decide) rfl (fun ls hl => ?_)
  refine lv_aload_n hx hb dX0_inPlace_5 rfl (lv_at hl 0 rfl) ?_
  refine sp_alen hx hb hK hP (κ := 2) (by omega) 4 (cE_prints (by omega) (by omega)) rfl (v := 30) rfl dX0_inPlace_6 ?_
  refine lv_istore (lv' := [(4, .int (30)), (3, .ref (ad (2))), (0, .ref (ad (0))), (1, .ref (ad (3 + k))), (2, .int (q))]) hx hb dX0_inPlace_7 hl (by decide) rfl (fun ls hl => ?_)
  refine lv_iconst (v := 0) hx hb dX0_inPlace_9 (by decide) ?_
  refine lv_istore (lv' := [(5, .int (0)), (4, .int (30)), (3, .ref (ad (2))), (0, .ref (ad (0))), (1, .ref (ad (3 + k))), (2, .int (q))]) hx hb dX0_inPlace_10 hl (by decide) rfl (fun ls hl => ?_)
  have loop_12 : ∀ (n i : Nat), (i ≤ 30) → (30 - i < n) → (fstI (P_inPlace σ k q) i = none) → ∀ ls : Array Slot, lv_has ls 7 [(5, .int (nI i)), (4, .int (30)), (3, .ref (ad (2))), (0, .ref (ad (0))), (1, .ref (ad (3 + k))), (2, .int (q))] → W p l e (headSpec wsX0_inPlace ({ frames := 2, cells := 0, slots := 0, locals := 49 } : Room)).room s m ([.ref (ad (0)), .ref (ad (3 + k)), .int (q)] : List Value).toArray below meth c s.heap [] 0 0 (MQ below (sp_S (some (va_rf ((f_inPlace σ k q).map (fun i => ad (9 + i)))))) ([.ref (ad (0)), .ref (ad (3 + k)), .int (q)] : List Value).toArray s 0 0 (fun _ => False)) (F0 m 12 ls []) := by
    intro n
    induction n with
    | zero => intro i hle hlt hi_0 ls hl; exact absurd hlt (Nat.not_lt_zero _)
    | succ n ih =>
      intro i hle hlt hi_0 ls hl
      refine lv_iload hx hb dX0_inPlace_12 (lv_at hl 0 rfl) ?_
      refine lv_iload hx hb dX0_inPlace_14 (lv_at hl 1 rfl) ?_
      refine lv_icmp_ge (tgt := 64) hx hb dX0_inPlace_16 (by decide) (fun c_1 => ?_) (fun c_1 => ?_)
      · skip
        have c_1d := Int32.not_lt.mpr c_1
        have hx_i : i = 30 := by have := (nI_leI (a := 30) (b := i) (by omega) (by omega)).mp c_1; omega
        try rw [hx_i] at hi_0
        refine lv_null hx hb dX0_inPlace_64 ?_
        exact W.aret (v := .null) (rt := (.object "SandProofreader$Print")) hx hb hr (Or.inl ⟨_, rfl⟩) (Or.inl rfl) (fun T9 hT9 _ => ⟨by rw [show f_inPlace σ k q = none from (by exact hi_0)]; rfl, hT9⟩) (fun _ h => by cases h) dX0_inPlace_65
      · skip
        have c_1d := Int32.not_le.mp c_1
        have hb_i : i < 30 := Nat.lt_of_not_le (fun z => c_1 (nI_le z (by omega)))
        refine lv_aload_n hx hb dX0_inPlace_19 rfl (lv_at hl 2 rfl) ?_
        refine lv_iload hx hb dX0_inPlace_20 (lv_at hl 0 rfl) ?_
        refine sp_aald hx hb hK hP (κ := 2) (by omega) 4 (cE_prints (by omega) (by omega)) rfl i rfl (by omega) (by decide) (q := ad (9 + i)) rfl dX0_inPlace_22 ?_
        refine lv_astore (lv' := [(6, .ref (ad (9 + i))), (5, .int (nI i)), (4, .int (30)), (3, .ref (ad (2))), (0, .ref (ad (0))), (1, .ref (ad (3 + k))), (2, .int (q))]) hx hb dX0_inPlace_23 hl (by decide) rfl (fun ls hl => ?_)
        refine lv_aload hx hb dX0_inPlace_25 (lv_at hl 0 rfl) ?_
        refine lv_aload_n hx hb dX0_inPlace_27 rfl (lv_at hl 5 rfl) ?_
        refine sp_get hx hb hts wi_X0_inPlace_X8 hown hK hP (κ := 3 + k) (by omega) (cE_track (by omega) (by omega)) rfl 1 (by decide) (hts _ (List.mem_of_getElem? (i := 2) rfl)) (fun _ h => h) rfl dX0_inPlace_28 ?_
        refine sp_call (W.runV (As := [.int (σ (3 + k) 1)]) (rest := []) ⟨hx, hb, hml, hown, hts⟩ (c_X3_isOn l D ad cy pm rj σ (9 + i) (by omega) (by omega) (σ (3 + k) 1)) (cwV 1 hts gX0_inPlace_X3_isOn rfl rfl rfl (by decide +kernel) ⟨Nat.le_of_ble_eq_true rfl, Nat.le_of_ble_eq_true rfl⟩) (sp_preV hK hP (κ := 9 + i) (by omega) (cE_print (by omega) (by omega)) rfl) rfl rfl hl.1 rfl (lv_room (Nat.le_of_ble_eq_true rfl)) dX0_inPlace_31 ⟨Nat.le_of_ble_eq_true rfl, Nat.le_of_ble_eq_true rfl⟩) ?_
        refine W.eq (g2 := F0 m 34 ls [.int (b2i (f_isOn σ (9 + i) (σ (3 + k) 1)))]) rfl ?_
        refine lv_if_eq (tgt := 58) hx hb dX0_inPlace_34 (by decide) (fun c_2 => ?_) (fun c_2 => ?_)
        · rw [b2i_eq0] at c_2
          refine lv_iinc (v := nI (i + 1)) (lv' := [(5, .int (nI (i + 1))), (6, .ref (ad (9 + i))), (4, .int (30)), (3, .ref (ad (2))), (0, .ref (ad (0))), (1, .ref (ad (3 + k))), (2, .int (q))]) hx hb dX0_inPlace_58 hl (k := 1) rfl (nI_1 _) (by decide) rfl (fun ls hl => ?_)
          refine lv_goto (tgt := 12) hx hb dX0_inPlace_61 (by decide) ?_
          exact ih (i + 1) (by omega) (by omega) (fstI_succ_no hi_0 (by simp [b2i, f_inPlace, P_inPlace, c_2])) ls (lv_sub hl [0, 2, 3, 4, 5, 6] rfl)
        · rw [b2i_eq0] at c_2
          refine lv_aload_n hx hb dX0_inPlace_37 rfl (lv_at hl 4 rfl) ?_
          refine lv_aload_n hx hb dX0_inPlace_38 rfl (lv_at hl 5 rfl) ?_
          refine sp_get hx hb hts wi_X0_inPlace_X8 hown hK hP (κ := 3 + k) (by omega) (cE_track (by omega) (by omega)) rfl 1 (by decide) (hts _ (List.mem_of_getElem? (i := 2) rfl)) (fun _ h => h) rfl dX0_inPlace_39 ?_
          refine lv_iconst (v := (-1)) hx hb dX0_inPlace_42 (by decide) ?_
          refine lv_aload hx hb dX0_inPlace_43 (lv_at hl 0 rfl) ?_
          refine sp_get hx hb hts wi_X0_inPlace_X3 hown hK hP (κ := 9 + i) (by omega) (cE_print (by omega) (by omega)) rfl 3 (by decide) (hts _ (List.mem_of_getElem? (i := 3) rfl)) (fun _ h => h) rfl dX0_inPlace_45 ?_
          refine sp_call (W.runV (As := [.int (σ (3 + k) 1), .int ((-1)), .int (σ (9 + i) 3)]) (rest := []) ⟨hx, hb, hml, hown, hts⟩ (c_X0_countPrintsBetween l D ad cy pm rj σ (σ (3 + k) 1) (-1) (σ (9 + i) 3)) (cwV 3 hts gX0_inPlace_X0_countPrintsBetween rfl rfl rfl (by decide +kernel) ⟨Nat.le_of_ble_eq_true rfl, Nat.le_of_ble_eq_true rfl⟩) (sp_preV hK hP (κ := 0) (by omega) (cE_beach (by omega) (by omega)) rfl) rfl rfl hl.1 rfl (lv_room (Nat.le_of_ble_eq_true rfl)) dX0_inPlace_48 ⟨Nat.le_of_ble_eq_true rfl, Nat.le_of_ble_eq_true rfl⟩) ?_
          refine W.eq (g2 := F0 m 51 ls [.int (f_countPrintsBetween σ (σ (3 + k) 1) (-1) (σ (9 + i) 3))]) rfl ?_
          refine lv_iload_n hx hb dX0_inPlace_51 rfl (lv_at hl 6 rfl) ?_
          refine lv_icmp_ne (tgt := 58) hx hb dX0_inPlace_52 (by decide) (fun c_3 => ?_) (fun c_3 => ?_)
          · skip
            refine lv_iinc (v := nI (i + 1)) (lv' := [(5, .int (nI (i + 1))), (6, .ref (ad (9 + i))), (4, .int (30)), (3, .ref (ad (2))), (0, .ref (ad (0))), (1, .ref (ad (3 + k))), (2, .int (q))]) hx hb dX0_inPlace_58 hl (k := 1) rfl (nI_1 _) (by decide) rfl (fun ls hl => ?_)
            refine lv_goto (tgt := 12) hx hb dX0_inPlace_61 (by decide) ?_
            exact ih (i + 1) (by omega) (by omega) (fstI_succ_no hi_0 (by simp [b2i, f_inPlace, P_inPlace, c_2, c_3])) ls (lv_sub hl [0, 2, 3, 4, 5, 6] rfl)
          · skip
            refine lv_aload hx hb dX0_inPlace_55 (lv_at hl 0 rfl) ?_
            exact W.aret (v := .ref (ad (9 + i))) (rt := (.object "SandProofreader$Print")) hx hb hr (Or.inl ⟨_, rfl⟩) (Or.inr ⟨_, rfl⟩) (fun T9 hT9 _ => ⟨by rw [show f_inPlace σ k q = some (i) from (by exact fstI_hit hi_0 (by simp [b2i, f_inPlace, P_inPlace, c_2, c_3]) hb_i)]; rfl, hT9⟩) (fun _ h => by cases h) dX0_inPlace_57
  exact loop_12 (30 + 1) (0)  (by omega) (by omega) (rfl) ls (lv_sub hl [0, 1, 2, 3, 4, 5] rfl)

theorem wi_X0_before_X0 : ∀ w ∈ wsX00, w ∈ wsX0_before := by decide +kernel
theorem wi_X0_before_X3 : ∀ w ∈ wsX30, w ∈ wsX0_before := by decide +kernel
set_option maxHeartbeats 4000000 in
set_option maxRecDepth 100000 in
theorem c_X0_before (l : Launch) (D : va_G) (ad : Nat → Nat) (cy : Nat → ClassId) (pm : Nat → Nat) (rj : Option Nat) (σ : Nat → Nat → Int32) (k : Nat) (hk : k < 30) : Met l yX0_before wsX0_before ({ frames := 1, cells := 0, slots := 0, locals := 21 } : Room) (sp_Pc D (tyG cy) [.ref (ad (0)), .ref (ad (9 + k))] (cW ad cy pm rj σ)) (sp_S (some (va_rf ((f_before σ k).map (fun i => ad (9 + i)))))) 0 0 (fun _ => False) := by
  refine Met.ofW (cc := cX0_before) (maxL := 7) (ret := (some (.object "SandProofreader$Print"))) (by decide) rfl ?_
  intro p e s m args below meth c s₁ B hml hv
  obtain ⟨rfl, hP, hK⟩ := hv
  have hx := B.exec
  have hb := B.bytes
  have hr := B.returns
  have hts := atoms_spec (ws := wsX0_before) B.pre
  have hown : s.vm.findClass RX0 = some m.cls := findClass_of_methodNamed B.named
  have hlocks := B.notSynchronized
  have hl := lv_entry ([.ref (ad (0)), .ref (ad (9 + k))]) (n := 7) (Nat.le_of_ble_eq_true rfl)
  refine W.eq (lg_entry_eq _ ([.ref (ad (0)), .ref (ad (9 + k))]) _) ?_
  generalize (lg_sl ([.ref (ad (0)), .ref (ad (9 + k))]) ++ List.replicate (7 - (lg_sl ([.ref (ad (0)), .ref (ad (9 + k))])).length) Slot.unset).toArray = ls at hl ⊢
  have hl : lv_has ls 7 [(0, .ref (ad (0))), (1, .ref (ad (9 + k)))] := hl
  refine lv_null hx hb dX0_before_0 ?_
  refine lv_astore_nN (lv' := [(2, .null), (0, .ref (ad (0))), (1, .ref (ad (9 + k)))]) hx hb dX0_before_1 rfl hl (by decide) rfl (fun ls hl => ?_)
  refine lv_aload_n hx hb dX0_before_2 rfl (lv_at hl 1 rfl) ?_
  refine sp_get hx hb hts wi_X0_before_X0 hown hK hP (κ := 0) (by omega) (cE_beach (by omega) (by omega)) rfl 1 (by decide) (hts _ (List.mem_of_getElem? (i := 1) rfl)) (fun _ h => h) rfl dX0_before_3 ?_
  refine lv_astore_n (lv' := [(3, .ref (ad (2))), (2, .null), (0, .ref (ad (0))), (1, .ref (ad (9 + k)))]) hx hb dX0_before_6 rfl hl (by decide) rfl (fun ls hl => ?_)
  refine lv_aload_n hx hb dX0_before_7 rfl (lv_at hl 0 rfl) ?_
  refine sp_alen hx hb hK hP (κ := 2) (by omega) 4 (cE_prints (by omega) (by omega)) rfl (v := 30) rfl dX0_before_8 ?_
  refine lv_istore (lv' := [(4, .int (30)), (3, .ref (ad (2))), (2, .null), (0, .ref (ad (0))), (1, .ref (ad (9 + k)))]) hx hb dX0_before_9 hl (by decide) rfl (fun ls hl => ?_)
  refine lv_iconst (v := 0) hx hb dX0_before_11 (by decide) ?_
  refine lv_istore (lv' := [(5, .int (0)), (4, .int (30)), (3, .ref (ad (2))), (2, .null), (0, .ref (ad (0))), (1, .ref (ad (9 + k)))]) hx hb dX0_before_12 hl (by decide) rfl (fun ls hl => ?_)
  have loop_14 : ∀ (n i : Nat) (x : Option Nat), (i ≤ 30) → (30 - i < n) → (x = foldI (S_before σ k) none i) → ∀ ls : Array Slot, lv_has ls 7 [(5, .int (nI i)), (4, .int (30)), (3, .ref (ad (2))), (2, va_rf (x.map (fun i => ad (9 + i)))), (0, .ref (ad (0))), (1, .ref (ad (9 + k)))] → W p l e (headSpec wsX0_before ({ frames := 1, cells := 0, slots := 0, locals := 21 } : Room)).room s m ([.ref (ad (0)), .ref (ad (9 + k))] : List Value).toArray below meth c s.heap [] 0 0 (MQ below (sp_S (some (va_rf ((f_before σ k).map (fun i => ad (9 + i)))))) ([.ref (ad (0)), .ref (ad (9 + k))] : List Value).toArray s 0 0 (fun _ => False)) (F0 m 14 ls []) := by
    intro n
    induction n with
    | zero => intro i x hle hlt hi_0 ls hl; exact absurd hlt (Nat.not_lt_zero _)
    | succ n ih =>
      intro i x hle hlt hi_0 ls hl
      rcases x with _ | j_1
      · have hl : lv_has ls 7 [(5, .int (nI i)), (4, .int (30)), (3, .ref (ad (2))), (2, .null), (0, .ref (ad (0))), (1, .ref (ad (9 + k)))] := hl
        refine lv_iload hx hb dX0_before_14 (lv_at hl 0 rfl) ?_
        refine lv_iload hx hb dX0_before_16 (lv_at hl 1 rfl) ?_
        refine lv_icmp_ge (tgt := 76) hx hb dX0_before_18 (by decide) (fun c_2 => ?_) (fun c_2 => ?_)
        · skip
          have c_2d := Int32.not_lt.mpr c_2
          have hx_i : i = 30 := by have := (nI_leI (a := 30) (b := i) (by omega) (by omega)).mp c_2; omega
          try rw [hx_i] at hi_0
          refine lv_aload_nN hx hb dX0_before_76 rfl (lv_at hl 3 rfl) ?_
          exact W.aret (v := .null) (rt := (.object "SandProofreader$Print")) hx hb hr (Or.inl ⟨_, rfl⟩) (Or.inl rfl) (fun T9 hT9 _ => ⟨by rw [show f_before σ k = none from (by exact hi_0.symm)]; rfl, hT9⟩) (fun _ h => by cases h) dX0_before_77
        · skip
          have c_2d := Int32.not_le.mp c_2
          have hb_i : i < 30 := Nat.lt_of_not_le (fun z => c_2 (nI_le z (by omega)))
          refine lv_aload_n hx hb dX0_before_21 rfl (lv_at hl 2 rfl) ?_
          refine lv_iload hx hb dX0_before_22 (lv_at hl 0 rfl) ?_
          refine sp_aald hx hb hK hP (κ := 2) (by omega) 4 (cE_prints (by omega) (by omega)) rfl i rfl (by omega) (by decide) (q := ad (9 + i)) rfl dX0_before_24 ?_
          refine lv_astore (lv' := [(6, .ref (ad (9 + i))), (5, .int (nI i)), (4, .int (30)), (3, .ref (ad (2))), (2, .null), (0, .ref (ad (0))), (1, .ref (ad (9 + k)))]) hx hb dX0_before_25 hl (by decide) rfl (fun ls hl => ?_)
          refine lv_aload hx hb dX0_before_27 (lv_at hl 0 rfl) ?_
          refine lv_aload_n hx hb dX0_before_29 rfl (lv_at hl 6 rfl) ?_
          refine sp_get hx hb hts wi_X0_before_X3 hown hK hP (κ := 9 + k) (by omega) (cE_print (by omega) (by omega)) rfl 2 (by decide) (hts _ (List.mem_of_getElem? (i := 2) rfl)) (fun _ h => h) rfl dX0_before_30 ?_
          refine sp_call (W.runV (As := [.int (σ (9 + k) 2)]) (rest := []) ⟨hx, hb, hml, hown, hts⟩ (c_X3_isOn l D ad cy pm rj σ (9 + i) (by omega) (by omega) (σ (9 + k) 2)) (cwV 1 hts gX0_before_X3_isOn rfl rfl rfl (by decide +kernel) ⟨Nat.le_of_ble_eq_true rfl, Nat.le_of_ble_eq_true rfl⟩) (sp_preV hK hP (κ := 9 + i) (by omega) (cE_print (by omega) (by omega)) rfl) rfl rfl hl.1 rfl (lv_room (Nat.le_of_ble_eq_true rfl)) dX0_before_33 ⟨Nat.le_of_ble_eq_true rfl, Nat.le_of_ble_eq_true rfl⟩) ?_
          refine W.eq (g2 := F0 m 36 ls [.int (b2i (f_isOn σ (9 + i) (σ (9 + k) 2)))]) rfl ?_
          refine lv_if_eq (tgt := 70) hx hb dX0_before_36 (by decide) (fun c_3 => ?_) (fun c_3 => ?_)
          · rw [b2i_eq0] at c_3
            refine lv_iinc (v := nI (i + 1)) (lv' := [(5, .int (nI (i + 1))), (6, .ref (ad (9 + i))), (4, .int (30)), (3, .ref (ad (2))), (2, .null), (0, .ref (ad (0))), (1, .ref (ad (9 + k)))]) hx hb dX0_before_70 hl (k := 1) rfl (nI_1 _) (by decide) rfl (fun ls hl => ?_)
            refine lv_goto (tgt := 14) hx hb dX0_before_73 (by decide) ?_
            exact ih (i + 1) none (by omega) (by omega) (by rw [foldI_succ, ← hi_0]; simp [S_before, b2i, f_before, S_before, c_3]) ls (lv_sub hl [0, 2, 3, 4, 5, 6] rfl)
          · rw [b2i_eq0] at c_3
            refine lv_aload hx hb dX0_before_39 (lv_at hl 0 rfl) ?_
            refine sp_get hx hb hts wi_X0_before_X3 hown hK hP (κ := 9 + i) (by omega) (cE_print (by omega) (by omega)) rfl 3 (by decide) (hts _ (List.mem_of_getElem? (i := 3) rfl)) (fun _ h => h) rfl dX0_before_41 ?_
            refine lv_aload_n hx hb dX0_before_44 rfl (lv_at hl 6 rfl) ?_
            refine sp_get hx hb hts wi_X0_before_X3 hown hK hP (κ := 9 + k) (by omega) (cE_print (by omega) (by omega)) rfl 3 (by decide) (hts _ (List.mem_of_getElem? (i := 3) rfl)) (fun _ h => h) rfl dX0_before_45 ?_
            refine lv_icmp_ge (tgt := 70) hx hb dX0_before_48 (by decide) (fun c_4 => ?_) (fun c_4 => ?_)
            · skip
              have c_4d := Int32.not_lt.mpr c_4
              refine lv_iinc (v := nI (i + 1)) (lv' := [(5, .int (nI (i + 1))), (6, .ref (ad (9 + i))), (4, .int (30)), (3, .ref (ad (2))), (2, .null), (0, .ref (ad (0))), (1, .ref (ad (9 + k)))]) hx hb dX0_before_70 hl (k := 1) rfl (nI_1 _) (by decide) rfl (fun ls hl => ?_)
              refine lv_goto (tgt := 14) hx hb dX0_before_73 (by decide) ?_
              exact ih (i + 1) none (by omega) (by omega) (by rw [foldI_succ, ← hi_0]; simp [S_before, b2i, f_before, S_before, c_3, c_4, c_4d]) ls (lv_sub hl [0, 2, 3, 4, 5, 6] rfl)
            · skip
              have c_4d := Int32.not_le.mp c_4
              refine lv_aload_nN hx hb dX0_before_51 rfl (lv_at hl 4 rfl) ?_
              refine lv_ifnullN (tgt := 67) hx hb dX0_before_52 (by decide) ?_
              refine lv_aload hx hb dX0_before_67 (lv_at hl 0 rfl) ?_
              refine lv_astore_n (lv' := [(2, .ref (ad (9 + i))), (6, .ref (ad (9 + i))), (5, .int (nI i)), (4, .int (30)), (3, .ref (ad (2))), (0, .ref (ad (0))), (1, .ref (ad (9 + k)))]) hx hb dX0_before_69 rfl hl (by decide) rfl (fun ls hl => ?_)
              refine lv_iinc (v := nI (i + 1)) (lv' := [(5, .int (nI (i + 1))), (2, .ref (ad (9 + i))), (6, .ref (ad (9 + i))), (4, .int (30)), (3, .ref (ad (2))), (0, .ref (ad (0))), (1, .ref (ad (9 + k)))]) hx hb dX0_before_70 hl (k := 2) rfl (nI_1 _) (by decide) rfl (fun ls hl => ?_)
              refine lv_goto (tgt := 14) hx hb dX0_before_73 (by decide) ?_
              exact ih (i + 1) (some (i)) (by omega) (by omega) (by rw [foldI_succ, ← hi_0]; simp [S_before, b2i, f_before, S_before, c_3, c_4, c_4d]) ls (lv_sub hl [0, 3, 4, 1, 5, 6] rfl)
      · have hl : lv_has ls 7 [(5, .int (nI i)), (4, .int (30)), (3, .ref (ad (2))), (2, .ref (ad (9 + j_1))), (0, .ref (ad (0))), (1, .ref (ad (9 + k)))] := hl
        have hj_1 : j_1 < 30 := Nat.lt_of_lt_of_le (foldI_lt (S_before_or _ _) hi_0.symm) hle
        refine lv_iload hx hb dX0_before_14 (lv_at hl 0 rfl) ?_
        refine lv_iload hx hb dX0_before_16 (lv_at hl 1 rfl) ?_
        refine lv_icmp_ge (tgt := 76) hx hb dX0_before_18 (by decide) (fun c_5 => ?_) (fun c_5 => ?_)
        · skip
          have c_5d := Int32.not_lt.mpr c_5
          have hx_i : i = 30 := by have := (nI_leI (a := 30) (b := i) (by omega) (by omega)).mp c_5; omega
          try rw [hx_i] at hi_0
          refine lv_aload_n hx hb dX0_before_76 rfl (lv_at hl 3 rfl) ?_
          exact W.aret (v := .ref (ad (9 + j_1))) (rt := (.object "SandProofreader$Print")) hx hb hr (Or.inl ⟨_, rfl⟩) (Or.inr ⟨_, rfl⟩) (fun T9 hT9 _ => ⟨by rw [show f_before σ k = some (j_1) from (by exact hi_0.symm)]; rfl, hT9⟩) (fun _ h => by cases h) dX0_before_77
        · skip
          have c_5d := Int32.not_le.mp c_5
          have hb_i : i < 30 := Nat.lt_of_not_le (fun z => c_5 (nI_le z (by omega)))
          refine lv_aload_n hx hb dX0_before_21 rfl (lv_at hl 2 rfl) ?_
          refine lv_iload hx hb dX0_before_22 (lv_at hl 0 rfl) ?_
          refine sp_aald hx hb hK hP (κ := 2) (by omega) 4 (cE_prints (by omega) (by omega)) rfl i rfl (by omega) (by decide) (q := ad (9 + i)) rfl dX0_before_24 ?_
          refine lv_astore (lv' := [(6, .ref (ad (9 + i))), (5, .int (nI i)), (4, .int (30)), (3, .ref (ad (2))), (2, .ref (ad (9 + j_1))), (0, .ref (ad (0))), (1, .ref (ad (9 + k)))]) hx hb dX0_before_25 hl (by decide) rfl (fun ls hl => ?_)
          refine lv_aload hx hb dX0_before_27 (lv_at hl 0 rfl) ?_
          refine lv_aload_n hx hb dX0_before_29 rfl (lv_at hl 6 rfl) ?_
          refine sp_get hx hb hts wi_X0_before_X3 hown hK hP (κ := 9 + k) (by omega) (cE_print (by omega) (by omega)) rfl 2 (by decide) (hts _ (List.mem_of_getElem? (i := 2) rfl)) (fun _ h => h) rfl dX0_before_30 ?_
          refine sp_call (W.runV (As := [.int (σ (9 + k) 2)]) (rest := []) ⟨hx, hb, hml, hown, hts⟩ (c_X3_isOn l D ad cy pm rj σ (9 + i) (by omega) (by omega) (σ (9 + k) 2)) (cwV 1 hts gX0_before_X3_isOn rfl rfl rfl (by decide +kernel) ⟨Nat.le_of_ble_eq_true rfl, Nat.le_of_ble_eq_true rfl⟩) (sp_preV hK hP (κ := 9 + i) (by omega) (cE_print (by omega) (by omega)) rfl) rfl rfl hl.1 rfl (lv_room (Nat.le_of_ble_eq_true rfl)) dX0_before_33 ⟨Nat.le_of_ble_eq_true rfl, Nat.le_of_ble_eq_true rfl⟩) ?_
          refine W.eq (g2 := F0 m 36 ls [.int (b2i (f_isOn σ (9 + i) (σ (9 + k) 2)))]) rfl ?_
          refine lv_if_eq (tgt := 70) hx hb dX0_before_36 (by decide) (fun c_6 => ?_) (fun c_6 => ?_)
          · rw [b2i_eq0] at c_6
            refine lv_iinc (v := nI (i + 1)) (lv' := [(5, .int (nI (i + 1))), (6, .ref (ad (9 + i))), (4, .int (30)), (3, .ref (ad (2))), (2, .ref (ad (9 + j_1))), (0, .ref (ad (0))), (1, .ref (ad (9 + k)))]) hx hb dX0_before_70 hl (k := 1) rfl (nI_1 _) (by decide) rfl (fun ls hl => ?_)
            refine lv_goto (tgt := 14) hx hb dX0_before_73 (by decide) ?_
            exact ih (i + 1) (some (j_1)) (by omega) (by omega) (by rw [foldI_succ, ← hi_0]; simp [S_before, b2i, f_before, S_before, c_6]) ls (lv_sub hl [0, 2, 3, 4, 5, 6] rfl)
          · rw [b2i_eq0] at c_6
            refine lv_aload hx hb dX0_before_39 (lv_at hl 0 rfl) ?_
            refine sp_get hx hb hts wi_X0_before_X3 hown hK hP (κ := 9 + i) (by omega) (cE_print (by omega) (by omega)) rfl 3 (by decide) (hts _ (List.mem_of_getElem? (i := 3) rfl)) (fun _ h => h) rfl dX0_before_41 ?_
            refine lv_aload_n hx hb dX0_before_44 rfl (lv_at hl 6 rfl) ?_
            refine sp_get hx hb hts wi_X0_before_X3 hown hK hP (κ := 9 + k) (by omega) (cE_print (by omega) (by omega)) rfl 3 (by decide) (hts _ (List.mem_of_getElem? (i := 3) rfl)) (fun _ h => h) rfl dX0_before_45 ?_
            refine lv_icmp_ge (tgt := 70) hx hb dX0_before_48 (by decide) (fun c_7 => ?_) (fun c_7 => ?_)
            · skip
              have c_7d := Int32.not_lt.mpr c_7
              refine lv_iinc (v := nI (i + 1)) (lv' := [(5, .int (nI (i + 1))), (6, .ref (ad (9 + i))), (4, .int (30)), (3, .ref (ad (2))), (2, .ref (ad (9 + j_1))), (0, .ref (ad (0))), (1, .ref (ad (9 + k)))]) hx hb dX0_before_70 hl (k := 1) rfl (nI_1 _) (by decide) rfl (fun ls hl => ?_)
              refine lv_goto (tgt := 14) hx hb dX0_before_73 (by decide) ?_
              exact ih (i + 1) (some (j_1)) (by omega) (by omega) (by rw [foldI_succ, ← hi_0]; simp [S_before, b2i, f_before, S_before, c_6, c_7, c_7d]) ls (lv_sub hl [0, 2, 3, 4, 5, 6] rfl)
            · skip
              have c_7d := Int32.not_le.mp c_7
              refine lv_aload_n hx hb dX0_before_51 rfl (lv_at hl 4 rfl) ?_
              refine lv_ifnull hx hb dX0_before_52 ?_
              refine lv_aload hx hb dX0_before_55 (lv_at hl 0 rfl) ?_
              refine sp_get hx hb hts wi_X0_before_X3 hown hK hP (κ := 9 + i) (by omega) (cE_print (by omega) (by omega)) rfl 3 (by decide) (hts _ (List.mem_of_getElem? (i := 3) rfl)) (fun _ h => h) rfl dX0_before_57 ?_
              refine lv_aload_n hx hb dX0_before_60 rfl (lv_at hl 4 rfl) ?_
              refine sp_get hx hb hts wi_X0_before_X3 hown hK hP (κ := 9 + j_1) (by omega) (cE_print (by omega) (by omega)) rfl 3 (by decide) (hts _ (List.mem_of_getElem? (i := 3) rfl)) (fun _ h => h) rfl dX0_before_61 ?_
              refine lv_icmp_le (tgt := 70) hx hb dX0_before_64 (by decide) (fun c_8 => ?_) (fun c_8 => ?_)
              · skip
                have c_8d := Int32.not_lt.mpr c_8
                refine lv_iinc (v := nI (i + 1)) (lv' := [(5, .int (nI (i + 1))), (6, .ref (ad (9 + i))), (4, .int (30)), (3, .ref (ad (2))), (2, .ref (ad (9 + j_1))), (0, .ref (ad (0))), (1, .ref (ad (9 + k)))]) hx hb dX0_before_70 hl (k := 1) rfl (nI_1 _) (by decide) rfl (fun ls hl => ?_)
                refine lv_goto (tgt := 14) hx hb dX0_before_73 (by decide) ?_
                exact ih (i + 1) (some (j_1)) (by omega) (by omega) (by rw [foldI_succ, ← hi_0]; simp [S_before, b2i, f_before, S_before, c_6, c_7, c_7d, c_8, c_8d]) ls (lv_sub hl [0, 2, 3, 4, 5, 6] rfl)
              · skip
                have c_8d := Int32.not_le.mp c_8
                refine lv_aload hx hb dX0_before_67 (lv_at hl 0 rfl) ?_
                refine lv_astore_n (lv' := [(2, .ref (ad (9 + i))), (6, .ref (ad (9 + i))), (5, .int (nI i)), (4, .int (30)), (3, .ref (ad (2))), (0, .ref (ad (0))), (1, .ref (ad (9 + k)))]) hx hb dX0_before_69 rfl hl (by decide) rfl (fun ls hl => ?_)
                refine lv_iinc (v := nI (i + 1)) (lv' := [(5, .int (nI (i + 1))), (2, .ref (ad (9 + i))), (6, .ref (ad (9 + i))), (4, .int (30)), (3, .ref (ad (2))), (0, .ref (ad (0))), (1, .ref (ad (9 + k)))]) hx hb dX0_before_70 hl (k := 2) rfl (nI_1 _) (by decide) rfl (fun ls hl => ?_)
                refine lv_goto (tgt := 14) hx hb dX0_before_73 (by decide) ?_
                exact ih (i + 1) (some (i)) (by omega) (by omega) (by rw [foldI_succ, ← hi_0]; simp [S_before, b2i, f_before, S_before, c_6, c_7, c_7d, c_8, c_8d]) ls (lv_sub hl [0, 3, 4, 1, 5, 6] rfl)
  exact loop_14 (30 + 1) (0) (none)  (by omega) (by omega) (rfl) ls (lv_sub hl [0, 1, 2, 3, 4, 5] rfl)

theorem wi_X0_after_X0 : ∀ w ∈ wsX00, w ∈ wsX0_after := by decide +kernel
theorem wi_X0_after_X3 : ∀ w ∈ wsX30, w ∈ wsX0_after := by decide +kernel
set_option maxHeartbeats 4000000 in
set_option maxRecDepth 100000 in
theorem c_X0_after (l : Launch) (D : va_G) (ad : Nat → Nat) (cy : Nat → ClassId) (pm : Nat → Nat) (rj : Option Nat) (σ : Nat → Nat → Int32) (k : Nat) (hk : k < 30) : Met l yX0_after wsX0_after ({ frames := 1, cells := 0, slots := 0, locals := 21 } : Room) (sp_Pc D (tyG cy) [.ref (ad (0)), .ref (ad (9 + k))] (cW ad cy pm rj σ)) (sp_S (some (va_rf ((f_after σ k).map (fun i => ad (9 + i)))))) 0 0 (fun _ => False) := by
  refine Met.ofW (cc := cX0_after) (maxL := 7) (ret := (some (.object "SandProofreader$Print"))) (by decide) rfl ?_
  intro p e s m args below meth c s₁ B hml hv
  obtain ⟨rfl, hP, hK⟩ := hv
  have hx := B.exec
  have hb := B.bytes
  have hr := B.returns
  have hts := atoms_spec (ws := wsX0_after) B.pre
  have hown : s.vm.findClass RX0 = some m.cls := findClass_of_methodNamed B.named
  have hlocks := B.notSynchronized
  have hl := lv_entry ([.ref (ad (0)), .ref (ad (9 + k))]) (n := 7) (Nat.le_of_ble_eq_true rfl)
  refine W.eq (lg_entry_eq _ ([.ref (ad (0)), .ref (ad (9 + k))]) _) ?_
  generalize (lg_sl ([.ref (ad (0)), .ref (ad (9 + k))]) ++ List.replicate (7 - (lg_sl ([.ref (ad (0)), .ref (ad (9 + k))])).length) Slot.unset).toArray = ls at hl ⊢
  have hl : lv_has ls 7 [(0, .ref (ad (0))), (1, .ref (ad (9 + k)))] := hl
  refine lv_null hx hb dX0_after_0 ?_
  refine lv_astore_nN (lv' := [(2, .null), (0, .ref (ad (0))), (1, .ref (ad (9 + k)))]) hx hb dX0_after_1 rfl hl (by decide) rfl (fun ls hl => ?_)
  refine lv_aload_n hx hb dX0_after_2 rfl (lv_at hl 1 rfl) ?_
  refine sp_get hx hb hts wi_X0_after_X0 hown hK hP (κ := 0) (by omega) (cE_beach (by omega) (by omega)) rfl 1 (by decide) (hts _ (List.mem_of_getElem? (i := 1) rfl)) (fun _ h => h) rfl dX0_after_3 ?_
  refine lv_astore_n (lv' := [(3, .ref (ad (2))), (2, .null), (0, .ref (ad (0))), (1, .ref (ad (9 + k)))]) hx hb dX0_after_6 rfl hl (by decide) rfl (fun ls hl => ?_)
  refine lv_aload_n hx hb dX0_after_7 rfl (lv_at hl 0 rfl) ?_
  refine sp_alen hx hb hK hP (κ := 2) (by omega) 4 (cE_prints (by omega) (by omega)) rfl (v := 30) rfl dX0_after_8 ?_
  refine lv_istore (lv' := [(4, .int (30)), (3, .ref (ad (2))), (2, .null), (0, .ref (ad (0))), (1, .ref (ad (9 + k)))]) hx hb dX0_after_9 hl (by decide) rfl (fun ls hl => ?_)
  refine lv_iconst (v := 0) hx hb dX0_after_11 (by decide) ?_
  refine lv_istore (lv' := [(5, .int (0)), (4, .int (30)), (3, .ref (ad (2))), (2, .null), (0, .ref (ad (0))), (1, .ref (ad (9 + k)))]) hx hb dX0_after_12 hl (by decide) rfl (fun ls hl => ?_)
  have loop_14 : ∀ (n i : Nat) (x : Option Nat), (i ≤ 30) → (30 - i < n) → (x = foldI (S_after σ k) none i) → ∀ ls : Array Slot, lv_has ls 7 [(5, .int (nI i)), (4, .int (30)), (3, .ref (ad (2))), (2, va_rf (x.map (fun i => ad (9 + i)))), (0, .ref (ad (0))), (1, .ref (ad (9 + k)))] → W p l e (headSpec wsX0_after ({ frames := 1, cells := 0, slots := 0, locals := 21 } : Room)).room s m ([.ref (ad (0)), .ref (ad (9 + k))] : List Value).toArray below meth c s.heap [] 0 0 (MQ below (sp_S (some (va_rf ((f_after σ k).map (fun i => ad (9 + i)))))) ([.ref (ad (0)), .ref (ad (9 + k))] : List Value).toArray s 0 0 (fun _ => False)) (F0 m 14 ls []) := by
    intro n
    induction n with
    | zero => intro i x hle hlt hi_0 ls hl; exact absurd hlt (Nat.not_lt_zero _)
    | succ n ih =>
      intro i x hle hlt hi_0 ls hl
      rcases x with _ | j_1
      · have hl : lv_has ls 7 [(5, .int (nI i)), (4, .int (30)), (3, .ref (ad (2))), (2, .null), (0, .ref (ad (0))), (1, .ref (ad (9 + k)))] := hl
        refine lv_iload hx hb dX0_after_14 (lv_at hl 0 rfl) ?_
        refine lv_iload hx hb dX0_after_16 (lv_at hl 1 rfl) ?_
        refine lv_icmp_ge (tgt := 76) hx hb dX0_after_18 (by decide) (fun c_2 => ?_) (fun c_2 => ?_)
        · skip
          have c_2d := Int32.not_lt.mpr c_2
          have hx_i : i = 30 := by have := (nI_leI (a := 30) (b := i) (by omega) (by omega)).mp c_2; omega
          try rw [hx_i] at hi_0
          refine lv_aload_nN hx hb dX0_after_76 rfl (lv_at hl 3 rfl) ?_
          exact W.aret (v := .null) (rt := (.object "SandProofreader$Print")) hx hb hr (Or.inl ⟨_, rfl⟩) (Or.inl rfl) (fun T9 hT9 _ => ⟨by rw [show f_after σ k = none from (by exact hi_0.symm)]; rfl, hT9⟩) (fun _ h => by cases h) dX0_after_77
        · skip
          have c_2d := Int32.not_le.mp c_2
          have hb_i : i < 30 := Nat.lt_of_not_le (fun z => c_2 (nI_le z (by omega)))
          refine lv_aload_n hx hb dX0_after_21 rfl (lv_at hl 2 rfl) ?_
          refine lv_iload hx hb dX0_after_22 (lv_at hl 0 rfl) ?_
          refine sp_aald hx hb hK hP (κ := 2) (by omega) 4 (cE_prints (by omega) (by omega)) rfl i rfl (by omega) (by decide) (q := ad (9 + i)) rfl dX0_after_24 ?_
          refine lv_astore (lv' := [(6, .ref (ad (9 + i))), (5, .int (nI i)), (4, .int (30)), (3, .ref (ad (2))), (2, .null), (0, .ref (ad (0))), (1, .ref (ad (9 + k)))]) hx hb dX0_after_25 hl (by decide) rfl (fun ls hl => ?_)
          refine lv_aload hx hb dX0_after_27 (lv_at hl 0 rfl) ?_
          refine lv_aload_n hx hb dX0_after_29 rfl (lv_at hl 6 rfl) ?_
          refine sp_get hx hb hts wi_X0_after_X3 hown hK hP (κ := 9 + k) (by omega) (cE_print (by omega) (by omega)) rfl 2 (by decide) (hts _ (List.mem_of_getElem? (i := 2) rfl)) (fun _ h => h) rfl dX0_after_30 ?_
          refine sp_call (W.runV (As := [.int (σ (9 + k) 2)]) (rest := []) ⟨hx, hb, hml, hown, hts⟩ (c_X3_isOn l D ad cy pm rj σ (9 + i) (by omega) (by omega) (σ (9 + k) 2)) (cwV 1 hts gX0_after_X3_isOn rfl rfl rfl (by decide +kernel) ⟨Nat.le_of_ble_eq_true rfl, Nat.le_of_ble_eq_true rfl⟩) (sp_preV hK hP (κ := 9 + i) (by omega) (cE_print (by omega) (by omega)) rfl) rfl rfl hl.1 rfl (lv_room (Nat.le_of_ble_eq_true rfl)) dX0_after_33 ⟨Nat.le_of_ble_eq_true rfl, Nat.le_of_ble_eq_true rfl⟩) ?_
          refine W.eq (g2 := F0 m 36 ls [.int (b2i (f_isOn σ (9 + i) (σ (9 + k) 2)))]) rfl ?_
          refine lv_if_eq (tgt := 70) hx hb dX0_after_36 (by decide) (fun c_3 => ?_) (fun c_3 => ?_)
          · rw [b2i_eq0] at c_3
            refine lv_iinc (v := nI (i + 1)) (lv' := [(5, .int (nI (i + 1))), (6, .ref (ad (9 + i))), (4, .int (30)), (3, .ref (ad (2))), (2, .null), (0, .ref (ad (0))), (1, .ref (ad (9 + k)))]) hx hb dX0_after_70 hl (k := 1) rfl (nI_1 _) (by decide) rfl (fun ls hl => ?_)
            refine lv_goto (tgt := 14) hx hb dX0_after_73 (by decide) ?_
            exact ih (i + 1) none (by omega) (by omega) (by rw [foldI_succ, ← hi_0]; simp [S_after, b2i, f_after, S_after, c_3]) ls (lv_sub hl [0, 2, 3, 4, 5, 6] rfl)
          · rw [b2i_eq0] at c_3
            refine lv_aload hx hb dX0_after_39 (lv_at hl 0 rfl) ?_
            refine sp_get hx hb hts wi_X0_after_X3 hown hK hP (κ := 9 + i) (by omega) (cE_print (by omega) (by omega)) rfl 3 (by decide) (hts _ (List.mem_of_getElem? (i := 3) rfl)) (fun _ h => h) rfl dX0_after_41 ?_
            refine lv_aload_n hx hb dX0_after_44 rfl (lv_at hl 6 rfl) ?_
            refine sp_get hx hb hts wi_X0_after_X3 hown hK hP (κ := 9 + k) (by omega) (cE_print (by omega) (by omega)) rfl 3 (by decide) (hts _ (List.mem_of_getElem? (i := 3) rfl)) (fun _ h => h) rfl dX0_after_45 ?_
            refine lv_icmp_le (tgt := 70) hx hb dX0_after_48 (by decide) (fun c_4 => ?_) (fun c_4 => ?_)
            · skip
              have c_4d := Int32.not_lt.mpr c_4
              refine lv_iinc (v := nI (i + 1)) (lv' := [(5, .int (nI (i + 1))), (6, .ref (ad (9 + i))), (4, .int (30)), (3, .ref (ad (2))), (2, .null), (0, .ref (ad (0))), (1, .ref (ad (9 + k)))]) hx hb dX0_after_70 hl (k := 1) rfl (nI_1 _) (by decide) rfl (fun ls hl => ?_)
              refine lv_goto (tgt := 14) hx hb dX0_after_73 (by decide) ?_
              exact ih (i + 1) none (by omega) (by omega) (by rw [foldI_succ, ← hi_0]; simp [S_after, b2i, f_after, S_after, c_3, c_4, c_4d]) ls (lv_sub hl [0, 2, 3, 4, 5, 6] rfl)
            · skip
              have c_4d := Int32.not_le.mp c_4
              refine lv_aload_nN hx hb dX0_after_51 rfl (lv_at hl 4 rfl) ?_
              refine lv_ifnullN (tgt := 67) hx hb dX0_after_52 (by decide) ?_
              refine lv_aload hx hb dX0_after_67 (lv_at hl 0 rfl) ?_
              refine lv_astore_n (lv' := [(2, .ref (ad (9 + i))), (6, .ref (ad (9 + i))), (5, .int (nI i)), (4, .int (30)), (3, .ref (ad (2))), (0, .ref (ad (0))), (1, .ref (ad (9 + k)))]) hx hb dX0_after_69 rfl hl (by decide) rfl (fun ls hl => ?_)
              refine lv_iinc (v := nI (i + 1)) (lv' := [(5, .int (nI (i + 1))), (2, .ref (ad (9 + i))), (6, .ref (ad (9 + i))), (4, .int (30)), (3, .ref (ad (2))), (0, .ref (ad (0))), (1, .ref (ad (9 + k)))]) hx hb dX0_after_70 hl (k := 2) rfl (nI_1 _) (by decide) rfl (fun ls hl => ?_)
              refine lv_goto (tgt := 14) hx hb dX0_after_73 (by decide) ?_
              exact ih (i + 1) (some (i)) (by omega) (by omega) (by rw [foldI_succ, ← hi_0]; simp [S_after, b2i, f_after, S_after, c_3, c_4, c_4d]) ls (lv_sub hl [0, 3, 4, 1, 5, 6] rfl)
      · have hl : lv_has ls 7 [(5, .int (nI i)), (4, .int (30)), (3, .ref (ad (2))), (2, .ref (ad (9 + j_1))), (0, .ref (ad (0))), (1, .ref (ad (9 + k)))] := hl
        have hj_1 : j_1 < 30 := Nat.lt_of_lt_of_le (foldI_lt (S_after_or _ _) hi_0.symm) hle
        refine lv_iload hx hb dX0_after_14 (lv_at hl 0 rfl) ?_
        refine lv_iload hx hb dX0_after_16 (lv_at hl 1 rfl) ?_
        refine lv_icmp_ge (tgt := 76) hx hb dX0_after_18 (by decide) (fun c_5 => ?_) (fun c_5 => ?_)
        · skip
          have c_5d := Int32.not_lt.mpr c_5
          have hx_i : i = 30 := by have := (nI_leI (a := 30) (b := i) (by omega) (by omega)).mp c_5; omega
          try rw [hx_i] at hi_0
          refine lv_aload_n hx hb dX0_after_76 rfl (lv_at hl 3 rfl) ?_
          exact W.aret (v := .ref (ad (9 + j_1))) (rt := (.object "SandProofreader$Print")) hx hb hr (Or.inl ⟨_, rfl⟩) (Or.inr ⟨_, rfl⟩) (fun T9 hT9 _ => ⟨by rw [show f_after σ k = some (j_1) from (by exact hi_0.symm)]; rfl, hT9⟩) (fun _ h => by cases h) dX0_after_77
        · skip
          have c_5d := Int32.not_le.mp c_5
          have hb_i : i < 30 := Nat.lt_of_not_le (fun z => c_5 (nI_le z (by omega)))
          refine lv_aload_n hx hb dX0_after_21 rfl (lv_at hl 2 rfl) ?_
          refine lv_iload hx hb dX0_after_22 (lv_at hl 0 rfl) ?_
          refine sp_aald hx hb hK hP (κ := 2) (by omega) 4 (cE_prints (by omega) (by omega)) rfl i rfl (by omega) (by decide) (q := ad (9 + i)) rfl dX0_after_24 ?_
          refine lv_astore (lv' := [(6, .ref (ad (9 + i))), (5, .int (nI i)), (4, .int (30)), (3, .ref (ad (2))), (2, .ref (ad (9 + j_1))), (0, .ref (ad (0))), (1, .ref (ad (9 + k)))]) hx hb dX0_after_25 hl (by decide) rfl (fun ls hl => ?_)
          refine lv_aload hx hb dX0_after_27 (lv_at hl 0 rfl) ?_
          refine lv_aload_n hx hb dX0_after_29 rfl (lv_at hl 6 rfl) ?_
          refine sp_get hx hb hts wi_X0_after_X3 hown hK hP (κ := 9 + k) (by omega) (cE_print (by omega) (by omega)) rfl 2 (by decide) (hts _ (List.mem_of_getElem? (i := 2) rfl)) (fun _ h => h) rfl dX0_after_30 ?_
          refine sp_call (W.runV (As := [.int (σ (9 + k) 2)]) (rest := []) ⟨hx, hb, hml, hown, hts⟩ (c_X3_isOn l D ad cy pm rj σ (9 + i) (by omega) (by omega) (σ (9 + k) 2)) (cwV 1 hts gX0_after_X3_isOn rfl rfl rfl (by decide +kernel) ⟨Nat.le_of_ble_eq_true rfl, Nat.le_of_ble_eq_true rfl⟩) (sp_preV hK hP (κ := 9 + i) (by omega) (cE_print (by omega) (by omega)) rfl) rfl rfl hl.1 rfl (lv_room (Nat.le_of_ble_eq_true rfl)) dX0_after_33 ⟨Nat.le_of_ble_eq_true rfl, Nat.le_of_ble_eq_true rfl⟩) ?_
          refine W.eq (g2 := F0 m 36 ls [.int (b2i (f_isOn σ (9 + i) (σ (9 + k) 2)))]) rfl ?_
          refine lv_if_eq (tgt := 70) hx hb dX0_after_36 (by decide) (fun c_6 => ?_) (fun c_6 => ?_)
          · rw [b2i_eq0] at c_6
            refine lv_iinc (v := nI (i + 1)) (lv' := [(5, .int (nI (i + 1))), (6, .ref (ad (9 + i))), (4, .int (30)), (3, .ref (ad (2))), (2, .ref (ad (9 + j_1))), (0, .ref (ad (0))), (1, .ref (ad (9 + k)))]) hx hb dX0_after_70 hl (k := 1) rfl (nI_1 _) (by decide) rfl (fun ls hl => ?_)
            refine lv_goto (tgt := 14) hx hb dX0_after_73 (by decide) ?_
            exact ih (i + 1) (some (j_1)) (by omega) (by omega) (by rw [foldI_succ, ← hi_0]; simp [S_after, b2i, f_after, S_after, c_6]) ls (lv_sub hl [0, 2, 3, 4, 5, 6] rfl)
          · rw [b2i_eq0] at c_6
            refine lv_aload hx hb dX0_after_39 (lv_at hl 0 rfl) ?_
            refine sp_get hx hb hts wi_X0_after_X3 hown hK hP (κ := 9 + i) (by omega) (cE_print (by omega) (by omega)) rfl 3 (by decide) (hts _ (List.mem_of_getElem? (i := 3) rfl)) (fun _ h => h) rfl dX0_after_41 ?_
            refine lv_aload_n hx hb dX0_after_44 rfl (lv_at hl 6 rfl) ?_
            refine sp_get hx hb hts wi_X0_after_X3 hown hK hP (κ := 9 + k) (by omega) (cE_print (by omega) (by omega)) rfl 3 (by decide) (hts _ (List.mem_of_getElem? (i := 3) rfl)) (fun _ h => h) rfl dX0_after_45 ?_
            refine lv_icmp_le (tgt := 70) hx hb dX0_after_48 (by decide) (fun c_7 => ?_) (fun c_7 => ?_)
            · skip
              have c_7d := Int32.not_lt.mpr c_7
              refine lv_iinc (v := nI (i + 1)) (lv' := [(5, .int (nI (i + 1))), (6, .ref (ad (9 + i))), (4, .int (30)), (3, .ref (ad (2))), (2, .ref (ad (9 + j_1))), (0, .ref (ad (0))), (1, .ref (ad (9 + k)))]) hx hb dX0_after_70 hl (k := 1) rfl (nI_1 _) (by decide) rfl (fun ls hl => ?_)
              refine lv_goto (tgt := 14) hx hb dX0_after_73 (by decide) ?_
              exact ih (i + 1) (some (j_1)) (by omega) (by omega) (by rw [foldI_succ, ← hi_0]; simp [S_after, b2i, f_after, S_after, c_6, c_7, c_7d]) ls (lv_sub hl [0, 2, 3, 4, 5, 6] rfl)
            · skip
              have c_7d := Int32.not_le.mp c_7
              refine lv_aload_n hx hb dX0_after_51 rfl (lv_at hl 4 rfl) ?_
              refine lv_ifnull hx hb dX0_after_52 ?_
              refine lv_aload hx hb dX0_after_55 (lv_at hl 0 rfl) ?_
              refine sp_get hx hb hts wi_X0_after_X3 hown hK hP (κ := 9 + i) (by omega) (cE_print (by omega) (by omega)) rfl 3 (by decide) (hts _ (List.mem_of_getElem? (i := 3) rfl)) (fun _ h => h) rfl dX0_after_57 ?_
              refine lv_aload_n hx hb dX0_after_60 rfl (lv_at hl 4 rfl) ?_
              refine sp_get hx hb hts wi_X0_after_X3 hown hK hP (κ := 9 + j_1) (by omega) (cE_print (by omega) (by omega)) rfl 3 (by decide) (hts _ (List.mem_of_getElem? (i := 3) rfl)) (fun _ h => h) rfl dX0_after_61 ?_
              refine lv_icmp_ge (tgt := 70) hx hb dX0_after_64 (by decide) (fun c_8 => ?_) (fun c_8 => ?_)
              · skip
                have c_8d := Int32.not_lt.mpr c_8
                refine lv_iinc (v := nI (i + 1)) (lv' := [(5, .int (nI (i + 1))), (6, .ref (ad (9 + i))), (4, .int (30)), (3, .ref (ad (2))), (2, .ref (ad (9 + j_1))), (0, .ref (ad (0))), (1, .ref (ad (9 + k)))]) hx hb dX0_after_70 hl (k := 1) rfl (nI_1 _) (by decide) rfl (fun ls hl => ?_)
                refine lv_goto (tgt := 14) hx hb dX0_after_73 (by decide) ?_
                exact ih (i + 1) (some (j_1)) (by omega) (by omega) (by rw [foldI_succ, ← hi_0]; simp [S_after, b2i, f_after, S_after, c_6, c_7, c_7d, c_8, c_8d]) ls (lv_sub hl [0, 2, 3, 4, 5, 6] rfl)
              · skip
                have c_8d := Int32.not_le.mp c_8
                refine lv_aload hx hb dX0_after_67 (lv_at hl 0 rfl) ?_
                refine lv_astore_n (lv' := [(2, .ref (ad (9 + i))), (6, .ref (ad (9 + i))), (5, .int (nI i)), (4, .int (30)), (3, .ref (ad (2))), (0, .ref (ad (0))), (1, .ref (ad (9 + k)))]) hx hb dX0_after_69 rfl hl (by decide) rfl (fun ls hl => ?_)
                refine lv_iinc (v := nI (i + 1)) (lv' := [(5, .int (nI (i + 1))), (2, .ref (ad (9 + i))), (6, .ref (ad (9 + i))), (4, .int (30)), (3, .ref (ad (2))), (0, .ref (ad (0))), (1, .ref (ad (9 + k)))]) hx hb dX0_after_70 hl (k := 2) rfl (nI_1 _) (by decide) rfl (fun ls hl => ?_)
                refine lv_goto (tgt := 14) hx hb dX0_after_73 (by decide) ?_
                exact ih (i + 1) (some (i)) (by omega) (by omega) (by rw [foldI_succ, ← hi_0]; simp [S_after, b2i, f_after, S_after, c_6, c_7, c_7d, c_8, c_8d]) ls (lv_sub hl [0, 3, 4, 1, 5, 6] rfl)
  exact loop_14 (30 + 1) (0) (none)  (by omega) (by omega) (rfl) ls (lv_sub hl [0, 1, 2, 3, 4, 5] rfl)

theorem wi_X0_countAheadOf_X0 : ∀ w ∈ wsX00, w ∈ wsX0_countAheadOf := by decide +kernel
theorem wi_X0_countAheadOf_X3 : ∀ w ∈ wsX30, w ∈ wsX0_countAheadOf := by decide +kernel
set_option maxHeartbeats 4000000 in
set_option maxRecDepth 100000 in
theorem c_X0_countAheadOf (l : Launch) (D : va_G) (ad : Nat → Nat) (cy : Nat → ClassId) (pm : Nat → Nat) (rj : Option Nat) (σ : Nat → Nat → Int32) (k : Nat) (hk : k < 30) : Met l yX0_countAheadOf wsX0_countAheadOf ({ frames := 0, cells := 0, slots := 0, locals := 0 } : Room) (sp_Pc D (tyG cy) [.ref (ad (0)), .ref (ad (9 + k))] (cW ad cy pm rj σ)) (sp_S (some (.int (f_aheadP σ k)))) 0 0 (fun _ => False) := by
  refine Met.ofW (cc := cX0_countAheadOf) (maxL := 8) (ret := (some .int)) (by decide) rfl ?_
  intro p e s m args below meth c s₁ B hml hv
  obtain ⟨rfl, hP, hK⟩ := hv
  have hx := B.exec
  have hb := B.bytes
  have hr := B.returns
  have hts := atoms_spec (ws := wsX0_countAheadOf) B.pre
  have hown : s.vm.findClass RX0 = some m.cls := findClass_of_methodNamed B.named
  have hlocks := B.notSynchronized
  have hl := lv_entry ([.ref (ad (0)), .ref (ad (9 + k))]) (n := 8) (Nat.le_of_ble_eq_true rfl)
  refine W.eq (lg_entry_eq _ ([.ref (ad (0)), .ref (ad (9 + k))]) _) ?_
  generalize (lg_sl ([.ref (ad (0)), .ref (ad (9 + k))]) ++ List.replicate (8 - (lg_sl ([.ref (ad (0)), .ref (ad (9 + k))])).length) Slot.unset).toArray = ls at hl ⊢
  have hl : lv_has ls 8 [(0, .ref (ad (0))), (1, .ref (ad (9 + k)))] := hl
  refine lv_iconst (v := 0) hx hb dX0_countAheadOf_0 (by decide) ?_
  refine lv_istore_n (lv' := [(2, .int (0)), (0, .ref (ad (0))), (1, .ref (ad (9 + k)))]) hx hb dX0_countAheadOf_1 rfl hl (by decide) rfl (fun ls hl => ?_)
  refine lv_aload_n hx hb dX0_countAheadOf_2 rfl (lv_at hl 1 rfl) ?_
  refine sp_get hx hb hts wi_X0_countAheadOf_X0 hown hK hP (κ := 0) (by omega) (cE_beach (by omega) (by omega)) rfl 1 (by decide) (hts _ (List.mem_of_getElem? (i := 1) rfl)) (fun _ h => h) rfl dX0_countAheadOf_3 ?_
  refine lv_astore_n (lv' := [(3, .ref (ad (2))), (2, .int (0)), (0, .ref (ad (0))), (1, .ref (ad (9 + k)))]) hx hb dX0_countAheadOf_6 rfl hl (by decide) rfl (fun ls hl => ?_)
  refine lv_aload_n hx hb dX0_countAheadOf_7 rfl (lv_at hl 0 rfl) ?_
  refine sp_alen hx hb hK hP (κ := 2) (by omega) 4 (cE_prints (by omega) (by omega)) rfl (v := 30) rfl dX0_countAheadOf_8 ?_
  refine lv_istore (lv' := [(4, .int (30)), (3, .ref (ad (2))), (2, .int (0)), (0, .ref (ad (0))), (1, .ref (ad (9 + k)))]) hx hb dX0_countAheadOf_9 hl (by decide) rfl (fun ls hl => ?_)
  refine lv_iconst (v := 0) hx hb dX0_countAheadOf_11 (by decide) ?_
  refine lv_istore (lv' := [(5, .int (0)), (4, .int (30)), (3, .ref (ad (2))), (2, .int (0)), (0, .ref (ad (0))), (1, .ref (ad (9 + k)))]) hx hb dX0_countAheadOf_12 hl (by decide) rfl (fun ls hl => ?_)
  have loop_14 : ∀ (n i : Nat) (x : Int32), (i ≤ 30) → (30 - i < n) → (x = sumI (F_aheadP σ k) i) → ∀ ls : Array Slot, lv_has ls 8 [(5, .int (nI i)), (4, .int (30)), (3, .ref (ad (2))), (2, .int (x)), (0, .ref (ad (0))), (1, .ref (ad (9 + k)))] → W p l e (headSpec wsX0_countAheadOf ({ frames := 0, cells := 0, slots := 0, locals := 0 } : Room)).room s m ([.ref (ad (0)), .ref (ad (9 + k))] : List Value).toArray below meth c s.heap [] 0 0 (MQ below (sp_S (some (.int (f_aheadP σ k)))) ([.ref (ad (0)), .ref (ad (9 + k))] : List Value).toArray s 0 0 (fun _ => False)) (F0 m 14 ls []) := by
    intro n
    induction n with
    | zero => intro i x hle hlt hi_0 ls hl; exact absurd hlt (Nat.not_lt_zero _)
    | succ n ih =>
      intro i x hle hlt hi_0 ls hl
      refine lv_iload hx hb dX0_countAheadOf_14 (lv_at hl 0 rfl) ?_
      refine lv_iload hx hb dX0_countAheadOf_16 (lv_at hl 1 rfl) ?_
      refine lv_icmp_ge (tgt := 116) hx hb dX0_countAheadOf_18 (by decide) (fun c_1 => ?_) (fun c_1 => ?_)
      · skip
        have c_1d := Int32.not_lt.mpr c_1
        have hx_i : i = 30 := by have := (nI_leI (a := 30) (b := i) (by omega) (by omega)).mp c_1; omega
        try rw [hx_i] at hi_0
        refine lv_iload_n hx hb dX0_countAheadOf_116 rfl (lv_at hl 3 rfl) ?_
        exact W.iret (v := x) hx hb hr (fun T9 hT9 _ => ⟨by rw [show (x : Int32) = f_aheadP σ k from (by exact hi_0)], hT9⟩) (fun _ h => by cases h) dX0_countAheadOf_117
      · skip
        have c_1d := Int32.not_le.mp c_1
        have hb_i : i < 30 := Nat.lt_of_not_le (fun z => c_1 (nI_le z (by omega)))
        refine lv_aload_n hx hb dX0_countAheadOf_21 rfl (lv_at hl 2 rfl) ?_
        refine lv_iload hx hb dX0_countAheadOf_22 (lv_at hl 0 rfl) ?_
        refine sp_aald hx hb hK hP (κ := 2) (by omega) 4 (cE_prints (by omega) (by omega)) rfl i rfl (by omega) (by decide) (q := ad (9 + i)) rfl dX0_countAheadOf_24 ?_
        refine lv_astore (lv' := [(6, .ref (ad (9 + i))), (5, .int (nI i)), (4, .int (30)), (3, .ref (ad (2))), (2, .int (x)), (0, .ref (ad (0))), (1, .ref (ad (9 + k)))]) hx hb dX0_countAheadOf_25 hl (by decide) rfl (fun ls hl => ?_)
        refine lv_aload hx hb dX0_countAheadOf_27 (lv_at hl 0 rfl) ?_
        refine sp_get hx hb hts wi_X0_countAheadOf_X3 hown hK hP (κ := 9 + i) (by omega) (cE_print (by omega) (by omega)) rfl 8 (by decide) (hts _ (List.mem_of_getElem? (i := 2) rfl)) (fun _ h => h) rfl dX0_countAheadOf_29 ?_
        refine lv_aload_n hx hb dX0_countAheadOf_32 rfl (lv_at hl 6 rfl) ?_
        refine sp_get hx hb hts wi_X0_countAheadOf_X3 hown hK hP (κ := 9 + k) (by omega) (cE_print (by omega) (by omega)) rfl 8 (by decide) (hts _ (List.mem_of_getElem? (i := 2) rfl)) (fun _ h => h) rfl dX0_countAheadOf_33 ?_
        refine lv_icmp_eq (tgt := 52) hx hb dX0_countAheadOf_36 (by decide) (fun c_2 => ?_) (fun c_2 => ?_)
        · skip
          refine lv_aload hx hb dX0_countAheadOf_52 (lv_at hl 0 rfl) ?_
          refine sp_get hx hb hts wi_X0_countAheadOf_X3 hown hK hP (κ := 9 + i) (by omega) (cE_print (by omega) (by omega)) rfl 3 (by decide) (hts _ (List.mem_of_getElem? (i := 3) rfl)) (fun _ h => h) rfl dX0_countAheadOf_54 ?_
          refine lv_aload_n hx hb dX0_countAheadOf_57 rfl (lv_at hl 6 rfl) ?_
          refine sp_get hx hb hts wi_X0_countAheadOf_X3 hown hK hP (κ := 9 + k) (by omega) (cE_print (by omega) (by omega)) rfl 3 (by decide) (hts _ (List.mem_of_getElem? (i := 3) rfl)) (fun _ h => h) rfl dX0_countAheadOf_58 ?_
          refine lv_icmp_eq (tgt := 77) hx hb dX0_countAheadOf_61 (by decide) (fun c_3 => ?_) (fun c_3 => ?_)
          · skip
            refine lv_aload_n hx hb dX0_countAheadOf_77 rfl (lv_at hl 6 rfl) ?_
            refine sp_get hx hb hts wi_X0_countAheadOf_X3 hown hK hP (κ := 9 + k) (by omega) (cE_print (by omega) (by omega)) rfl 1 (by decide) (hts _ (List.mem_of_getElem? (i := 4) rfl)) (fun _ h => h) rfl dX0_countAheadOf_78 ?_
            refine lv_aload hx hb dX0_countAheadOf_81 (lv_at hl 0 rfl) ?_
            refine sp_get hx hb hts wi_X0_countAheadOf_X3 hown hK hP (κ := 9 + i) (by omega) (cE_print (by omega) (by omega)) rfl 1 (by decide) (hts _ (List.mem_of_getElem? (i := 4) rfl)) (fun _ h => h) rfl dX0_countAheadOf_83 ?_
            refine lv_isub hx hb dX0_countAheadOf_86 ?_
            refine lv_istore (lv' := [(7, .int ((σ (9 + k) 1) - (σ (9 + i) 1))), (6, .ref (ad (9 + i))), (5, .int (nI i)), (4, .int (30)), (3, .ref (ad (2))), (2, .int (x)), (0, .ref (ad (0))), (1, .ref (ad (9 + k)))]) hx hb dX0_countAheadOf_87 hl (by decide) rfl (fun ls hl => ?_)
            refine lv_iload_n hx hb dX0_countAheadOf_89 rfl (lv_at hl 5 rfl) ?_
            refine lv_aload hx hb dX0_countAheadOf_90 (lv_at hl 1 rfl) ?_
            refine sp_get hx hb hts wi_X0_countAheadOf_X3 hown hK hP (κ := 9 + i) (by omega) (cE_print (by omega) (by omega)) rfl 0 (by decide) (hts _ (List.mem_of_getElem? (i := 5) rfl)) (fun _ h => h) rfl dX0_countAheadOf_92 ?_
            refine lv_if_eq (tgt := 107) hx hb dX0_countAheadOf_95 (by decide) (fun c_4 => ?_) (fun c_4 => ?_)
            · rw [bz_eq0] at c_4
              refine lv_iconst (v := 0) hx hb dX0_countAheadOf_107 (by decide) ?_
              refine lv_iadd hx hb dX0_countAheadOf_108 ?_
              refine lv_istore_n (lv' := [(2, .int (x + 0)), (7, .int ((σ (9 + k) 1) - (σ (9 + i) 1))), (6, .ref (ad (9 + i))), (5, .int (nI i)), (4, .int (30)), (3, .ref (ad (2))), (0, .ref (ad (0))), (1, .ref (ad (9 + k)))]) hx hb dX0_countAheadOf_109 rfl hl (by decide) rfl (fun ls hl => ?_)
              refine lv_iinc (v := nI (i + 1)) (lv' := [(5, .int (nI (i + 1))), (2, .int (x + 0)), (7, .int ((σ (9 + k) 1) - (σ (9 + i) 1))), (6, .ref (ad (9 + i))), (4, .int (30)), (3, .ref (ad (2))), (0, .ref (ad (0))), (1, .ref (ad (9 + k)))]) hx hb dX0_countAheadOf_110 hl (k := 3) rfl (nI_1 _) (by decide) rfl (fun ls hl => ?_)
              refine lv_goto (tgt := 14) hx hb dX0_countAheadOf_113 (by decide) ?_
              exact ih (i + 1) (x + 0) (by omega) (by omega) (by rw [sumI_succ, ← hi_0]; simp [b2i, F_aheadP, fdP, c_2, c_3, c_4]) ls (lv_sub hl [0, 4, 5, 1, 6, 7] rfl)
            · rw [bz_eq0] at c_4
              refine lv_iload hx hb dX0_countAheadOf_98 (lv_at hl 0 rfl) ?_
              refine lv_if_le (tgt := 107) hx hb dX0_countAheadOf_100 (by decide) (fun c_5 => ?_) (fun c_5 => ?_)
              · skip
                have c_5d := Int32.not_lt.mpr c_5
                refine lv_iconst (v := 0) hx hb dX0_countAheadOf_107 (by decide) ?_
                refine lv_iadd hx hb dX0_countAheadOf_108 ?_
                refine lv_istore_n (lv' := [(2, .int (x + 0)), (7, .int ((σ (9 + k) 1) - (σ (9 + i) 1))), (6, .ref (ad (9 + i))), (5, .int (nI i)), (4, .int (30)), (3, .ref (ad (2))), (0, .ref (ad (0))), (1, .ref (ad (9 + k)))]) hx hb dX0_countAheadOf_109 rfl hl (by decide) rfl (fun ls hl => ?_)
                refine lv_iinc (v := nI (i + 1)) (lv' := [(5, .int (nI (i + 1))), (2, .int (x + 0)), (7, .int ((σ (9 + k) 1) - (σ (9 + i) 1))), (6, .ref (ad (9 + i))), (4, .int (30)), (3, .ref (ad (2))), (0, .ref (ad (0))), (1, .ref (ad (9 + k)))]) hx hb dX0_countAheadOf_110 hl (k := 3) rfl (nI_1 _) (by decide) rfl (fun ls hl => ?_)
                refine lv_goto (tgt := 14) hx hb dX0_countAheadOf_113 (by decide) ?_
                exact ih (i + 1) (x + 0) (by omega) (by omega) (by rw [sumI_succ, ← hi_0]; simp [b2i, F_aheadP, fdP, c_2, c_3, c_4, c_5, c_5d]) ls (lv_sub hl [0, 4, 5, 1, 6, 7] rfl)
              · skip
                have c_5d := Int32.not_le.mp c_5
                refine lv_iconst (v := 1) hx hb dX0_countAheadOf_103 (by decide) ?_
                refine lv_goto (tgt := 108) hx hb dX0_countAheadOf_104 (by decide) ?_
                refine lv_iadd hx hb dX0_countAheadOf_108 ?_
                refine lv_istore_n (lv' := [(2, .int (x + 1)), (7, .int ((σ (9 + k) 1) - (σ (9 + i) 1))), (6, .ref (ad (9 + i))), (5, .int (nI i)), (4, .int (30)), (3, .ref (ad (2))), (0, .ref (ad (0))), (1, .ref (ad (9 + k)))]) hx hb dX0_countAheadOf_109 rfl hl (by decide) rfl (fun ls hl => ?_)
                refine lv_iinc (v := nI (i + 1)) (lv' := [(5, .int (nI (i + 1))), (2, .int (x + 1)), (7, .int ((σ (9 + k) 1) - (σ (9 + i) 1))), (6, .ref (ad (9 + i))), (4, .int (30)), (3, .ref (ad (2))), (0, .ref (ad (0))), (1, .ref (ad (9 + k)))]) hx hb dX0_countAheadOf_110 hl (k := 3) rfl (nI_1 _) (by decide) rfl (fun ls hl => ?_)
                refine lv_goto (tgt := 14) hx hb dX0_countAheadOf_113 (by decide) ?_
                exact ih (i + 1) (x + 1) (by omega) (by omega) (by rw [sumI_succ, ← hi_0]; simp [b2i, F_aheadP, fdP, c_2, c_3, c_4, c_5, c_5d]) ls (lv_sub hl [0, 4, 5, 1, 6, 7] rfl)
          · skip
            refine lv_aload_n hx hb dX0_countAheadOf_64 rfl (lv_at hl 6 rfl) ?_
            refine sp_get hx hb hts wi_X0_countAheadOf_X3 hown hK hP (κ := 9 + k) (by omega) (cE_print (by omega) (by omega)) rfl 3 (by decide) (hts _ (List.mem_of_getElem? (i := 3) rfl)) (fun _ h => h) rfl dX0_countAheadOf_65 ?_
            refine lv_aload hx hb dX0_countAheadOf_68 (lv_at hl 0 rfl) ?_
            refine sp_get hx hb hts wi_X0_countAheadOf_X3 hown hK hP (κ := 9 + i) (by omega) (cE_print (by omega) (by omega)) rfl 3 (by decide) (hts _ (List.mem_of_getElem? (i := 3) rfl)) (fun _ h => h) rfl dX0_countAheadOf_70 ?_
            refine lv_isub hx hb dX0_countAheadOf_73 ?_
            refine lv_goto (tgt := 87) hx hb dX0_countAheadOf_74 (by decide) ?_
            refine lv_istore (lv' := [(7, .int ((σ (9 + k) 3) - (σ (9 + i) 3))), (6, .ref (ad (9 + i))), (5, .int (nI i)), (4, .int (30)), (3, .ref (ad (2))), (2, .int (x)), (0, .ref (ad (0))), (1, .ref (ad (9 + k)))]) hx hb dX0_countAheadOf_87 hl (by decide) rfl (fun ls hl => ?_)
            refine lv_iload_n hx hb dX0_countAheadOf_89 rfl (lv_at hl 5 rfl) ?_
            refine lv_aload hx hb dX0_countAheadOf_90 (lv_at hl 1 rfl) ?_
            refine sp_get hx hb hts wi_X0_countAheadOf_X3 hown hK hP (κ := 9 + i) (by omega) (cE_print (by omega) (by omega)) rfl 0 (by decide) (hts _ (List.mem_of_getElem? (i := 5) rfl)) (fun _ h => h) rfl dX0_countAheadOf_92 ?_
            refine lv_if_eq (tgt := 107) hx hb dX0_countAheadOf_95 (by decide) (fun c_6 => ?_) (fun c_6 => ?_)
            · rw [bz_eq0] at c_6
              refine lv_iconst (v := 0) hx hb dX0_countAheadOf_107 (by decide) ?_
              refine lv_iadd hx hb dX0_countAheadOf_108 ?_
              refine lv_istore_n (lv' := [(2, .int (x + 0)), (7, .int ((σ (9 + k) 3) - (σ (9 + i) 3))), (6, .ref (ad (9 + i))), (5, .int (nI i)), (4, .int (30)), (3, .ref (ad (2))), (0, .ref (ad (0))), (1, .ref (ad (9 + k)))]) hx hb dX0_countAheadOf_109 rfl hl (by decide) rfl (fun ls hl => ?_)
              refine lv_iinc (v := nI (i + 1)) (lv' := [(5, .int (nI (i + 1))), (2, .int (x + 0)), (7, .int ((σ (9 + k) 3) - (σ (9 + i) 3))), (6, .ref (ad (9 + i))), (4, .int (30)), (3, .ref (ad (2))), (0, .ref (ad (0))), (1, .ref (ad (9 + k)))]) hx hb dX0_countAheadOf_110 hl (k := 3) rfl (nI_1 _) (by decide) rfl (fun ls hl => ?_)
              refine lv_goto (tgt := 14) hx hb dX0_countAheadOf_113 (by decide) ?_
              exact ih (i + 1) (x + 0) (by omega) (by omega) (by rw [sumI_succ, ← hi_0]; simp [b2i, F_aheadP, fdP, c_2, c_3, c_6]) ls (lv_sub hl [0, 4, 5, 1, 6, 7] rfl)
            · rw [bz_eq0] at c_6
              refine lv_iload hx hb dX0_countAheadOf_98 (lv_at hl 0 rfl) ?_
              refine lv_if_le (tgt := 107) hx hb dX0_countAheadOf_100 (by decide) (fun c_7 => ?_) (fun c_7 => ?_)
              · skip
                have c_7d := Int32.not_lt.mpr c_7
                refine lv_iconst (v := 0) hx hb dX0_countAheadOf_107 (by decide) ?_
                refine lv_iadd hx hb dX0_countAheadOf_108 ?_
                refine lv_istore_n (lv' := [(2, .int (x + 0)), (7, .int ((σ (9 + k) 3) - (σ (9 + i) 3))), (6, .ref (ad (9 + i))), (5, .int (nI i)), (4, .int (30)), (3, .ref (ad (2))), (0, .ref (ad (0))), (1, .ref (ad (9 + k)))]) hx hb dX0_countAheadOf_109 rfl hl (by decide) rfl (fun ls hl => ?_)
                refine lv_iinc (v := nI (i + 1)) (lv' := [(5, .int (nI (i + 1))), (2, .int (x + 0)), (7, .int ((σ (9 + k) 3) - (σ (9 + i) 3))), (6, .ref (ad (9 + i))), (4, .int (30)), (3, .ref (ad (2))), (0, .ref (ad (0))), (1, .ref (ad (9 + k)))]) hx hb dX0_countAheadOf_110 hl (k := 3) rfl (nI_1 _) (by decide) rfl (fun ls hl => ?_)
                refine lv_goto (tgt := 14) hx hb dX0_countAheadOf_113 (by decide) ?_
                exact ih (i + 1) (x + 0) (by omega) (by omega) (by rw [sumI_succ, ← hi_0]; simp [b2i, F_aheadP, fdP, c_2, c_3, c_6, c_7, c_7d]) ls (lv_sub hl [0, 4, 5, 1, 6, 7] rfl)
              · skip
                have c_7d := Int32.not_le.mp c_7
                refine lv_iconst (v := 1) hx hb dX0_countAheadOf_103 (by decide) ?_
                refine lv_goto (tgt := 108) hx hb dX0_countAheadOf_104 (by decide) ?_
                refine lv_iadd hx hb dX0_countAheadOf_108 ?_
                refine lv_istore_n (lv' := [(2, .int (x + 1)), (7, .int ((σ (9 + k) 3) - (σ (9 + i) 3))), (6, .ref (ad (9 + i))), (5, .int (nI i)), (4, .int (30)), (3, .ref (ad (2))), (0, .ref (ad (0))), (1, .ref (ad (9 + k)))]) hx hb dX0_countAheadOf_109 rfl hl (by decide) rfl (fun ls hl => ?_)
                refine lv_iinc (v := nI (i + 1)) (lv' := [(5, .int (nI (i + 1))), (2, .int (x + 1)), (7, .int ((σ (9 + k) 3) - (σ (9 + i) 3))), (6, .ref (ad (9 + i))), (4, .int (30)), (3, .ref (ad (2))), (0, .ref (ad (0))), (1, .ref (ad (9 + k)))]) hx hb dX0_countAheadOf_110 hl (k := 3) rfl (nI_1 _) (by decide) rfl (fun ls hl => ?_)
                refine lv_goto (tgt := 14) hx hb dX0_countAheadOf_113 (by decide) ?_
                exact ih (i + 1) (x + 1) (by omega) (by omega) (by rw [sumI_succ, ← hi_0]; simp [b2i, F_aheadP, fdP, c_2, c_3, c_6, c_7, c_7d]) ls (lv_sub hl [0, 4, 5, 1, 6, 7] rfl)
        · skip
          refine lv_aload hx hb dX0_countAheadOf_39 (lv_at hl 0 rfl) ?_
          refine sp_get hx hb hts wi_X0_countAheadOf_X3 hown hK hP (κ := 9 + i) (by omega) (cE_print (by omega) (by omega)) rfl 8 (by decide) (hts _ (List.mem_of_getElem? (i := 2) rfl)) (fun _ h => h) rfl dX0_countAheadOf_41 ?_
          refine lv_aload_n hx hb dX0_countAheadOf_44 rfl (lv_at hl 6 rfl) ?_
          refine sp_get hx hb hts wi_X0_countAheadOf_X3 hown hK hP (κ := 9 + k) (by omega) (cE_print (by omega) (by omega)) rfl 8 (by decide) (hts _ (List.mem_of_getElem? (i := 2) rfl)) (fun _ h => h) rfl dX0_countAheadOf_45 ?_
          refine lv_isub hx hb dX0_countAheadOf_48 ?_
          refine lv_goto (tgt := 87) hx hb dX0_countAheadOf_49 (by decide) ?_
          refine lv_istore (lv' := [(7, .int ((σ (9 + i) 8) - (σ (9 + k) 8))), (6, .ref (ad (9 + i))), (5, .int (nI i)), (4, .int (30)), (3, .ref (ad (2))), (2, .int (x)), (0, .ref (ad (0))), (1, .ref (ad (9 + k)))]) hx hb dX0_countAheadOf_87 hl (by decide) rfl (fun ls hl => ?_)
          refine lv_iload_n hx hb dX0_countAheadOf_89 rfl (lv_at hl 5 rfl) ?_
          refine lv_aload hx hb dX0_countAheadOf_90 (lv_at hl 1 rfl) ?_
          refine sp_get hx hb hts wi_X0_countAheadOf_X3 hown hK hP (κ := 9 + i) (by omega) (cE_print (by omega) (by omega)) rfl 0 (by decide) (hts _ (List.mem_of_getElem? (i := 5) rfl)) (fun _ h => h) rfl dX0_countAheadOf_92 ?_
          refine lv_if_eq (tgt := 107) hx hb dX0_countAheadOf_95 (by decide) (fun c_8 => ?_) (fun c_8 => ?_)
          · rw [bz_eq0] at c_8
            refine lv_iconst (v := 0) hx hb dX0_countAheadOf_107 (by decide) ?_
            refine lv_iadd hx hb dX0_countAheadOf_108 ?_
            refine lv_istore_n (lv' := [(2, .int (x + 0)), (7, .int ((σ (9 + i) 8) - (σ (9 + k) 8))), (6, .ref (ad (9 + i))), (5, .int (nI i)), (4, .int (30)), (3, .ref (ad (2))), (0, .ref (ad (0))), (1, .ref (ad (9 + k)))]) hx hb dX0_countAheadOf_109 rfl hl (by decide) rfl (fun ls hl => ?_)
            refine lv_iinc (v := nI (i + 1)) (lv' := [(5, .int (nI (i + 1))), (2, .int (x + 0)), (7, .int ((σ (9 + i) 8) - (σ (9 + k) 8))), (6, .ref (ad (9 + i))), (4, .int (30)), (3, .ref (ad (2))), (0, .ref (ad (0))), (1, .ref (ad (9 + k)))]) hx hb dX0_countAheadOf_110 hl (k := 3) rfl (nI_1 _) (by decide) rfl (fun ls hl => ?_)
            refine lv_goto (tgt := 14) hx hb dX0_countAheadOf_113 (by decide) ?_
            exact ih (i + 1) (x + 0) (by omega) (by omega) (by rw [sumI_succ, ← hi_0]; simp [b2i, F_aheadP, fdP, c_2, c_8]) ls (lv_sub hl [0, 4, 5, 1, 6, 7] rfl)
          · rw [bz_eq0] at c_8
            refine lv_iload hx hb dX0_countAheadOf_98 (lv_at hl 0 rfl) ?_
            refine lv_if_le (tgt := 107) hx hb dX0_countAheadOf_100 (by decide) (fun c_9 => ?_) (fun c_9 => ?_)
            · skip
              have c_9d := Int32.not_lt.mpr c_9
              refine lv_iconst (v := 0) hx hb dX0_countAheadOf_107 (by decide) ?_
              refine lv_iadd hx hb dX0_countAheadOf_108 ?_
              refine lv_istore_n (lv' := [(2, .int (x + 0)), (7, .int ((σ (9 + i) 8) - (σ (9 + k) 8))), (6, .ref (ad (9 + i))), (5, .int (nI i)), (4, .int (30)), (3, .ref (ad (2))), (0, .ref (ad (0))), (1, .ref (ad (9 + k)))]) hx hb dX0_countAheadOf_109 rfl hl (by decide) rfl (fun ls hl => ?_)
              refine lv_iinc (v := nI (i + 1)) (lv' := [(5, .int (nI (i + 1))), (2, .int (x + 0)), (7, .int ((σ (9 + i) 8) - (σ (9 + k) 8))), (6, .ref (ad (9 + i))), (4, .int (30)), (3, .ref (ad (2))), (0, .ref (ad (0))), (1, .ref (ad (9 + k)))]) hx hb dX0_countAheadOf_110 hl (k := 3) rfl (nI_1 _) (by decide) rfl (fun ls hl => ?_)
              refine lv_goto (tgt := 14) hx hb dX0_countAheadOf_113 (by decide) ?_
              exact ih (i + 1) (x + 0) (by omega) (by omega) (by rw [sumI_succ, ← hi_0]; simp [b2i, F_aheadP, fdP, c_2, c_8, c_9, c_9d]) ls (lv_sub hl [0, 4, 5, 1, 6, 7] rfl)
            · skip
              have c_9d := Int32.not_le.mp c_9
              refine lv_iconst (v := 1) hx hb dX0_countAheadOf_103 (by decide) ?_
              refine lv_goto (tgt := 108) hx hb dX0_countAheadOf_104 (by decide) ?_
              refine lv_iadd hx hb dX0_countAheadOf_108 ?_
              refine lv_istore_n (lv' := [(2, .int (x + 1)), (7, .int ((σ (9 + i) 8) - (σ (9 + k) 8))), (6, .ref (ad (9 + i))), (5, .int (nI i)), (4, .int (30)), (3, .ref (ad (2))), (0, .ref (ad (0))), (1, .ref (ad (9 + k)))]) hx hb dX0_countAheadOf_109 rfl hl (by decide) rfl (fun ls hl => ?_)
              refine lv_iinc (v := nI (i + 1)) (lv' := [(5, .int (nI (i + 1))), (2, .int (x + 1)), (7, .int ((σ (9 + i) 8) - (σ (9 + k) 8))), (6, .ref (ad (9 + i))), (4, .int (30)), (3, .ref (ad (2))), (0, .ref (ad (0))), (1, .ref (ad (9 + k)))]) hx hb dX0_countAheadOf_110 hl (k := 3) rfl (nI_1 _) (by decide) rfl (fun ls hl => ?_)
              refine lv_goto (tgt := 14) hx hb dX0_countAheadOf_113 (by decide) ?_
              exact ih (i + 1) (x + 1) (by omega) (by omega) (by rw [sumI_succ, ← hi_0]; simp [b2i, F_aheadP, fdP, c_2, c_8, c_9, c_9d]) ls (lv_sub hl [0, 4, 5, 1, 6, 7] rfl)
  exact loop_14 (30 + 1) (0) (0)  (by omega) (by omega) (rfl) ls (lv_sub hl [0, 1, 2, 3, 4, 5] rfl)

theorem wi_X0_isUnderWater_X0 : ∀ w ∈ wsX00, w ∈ wsX0_isUnderWater := by decide +kernel
set_option maxHeartbeats 4000000 in
set_option maxRecDepth 100000 in
theorem c_X0_isUnderWater (l : Launch) (D : va_G) (ad : Nat → Nat) (cy : Nat → ClassId) (pm : Nat → Nat) (rj : Option Nat) (σ : Nat → Nat → Int32) (r : Int32) : Met l yX0_isUnderWater wsX0_isUnderWater ({ frames := 0, cells := 0, slots := 0, locals := 0 } : Room) (sp_Pc D (tyG cy) [.ref (ad (0)), .int (r)] (cW ad cy pm rj σ)) (sp_S (some (.int (b2i (f_under σ r))))) 0 0 (fun _ => False) := by
  refine Met.ofW (cc := cX0_isUnderWater) (maxL := 2) (ret := (some .boolean)) (by decide) rfl ?_
  intro p e s m args below meth c s₁ B hml hv
  obtain ⟨rfl, hP, hK⟩ := hv
  have hx := B.exec
  have hb := B.bytes
  have hr := B.returns
  have hts := atoms_spec (ws := wsX0_isUnderWater) B.pre
  have hown : s.vm.findClass RX0 = some m.cls := findClass_of_methodNamed B.named
  have hlocks := B.notSynchronized
  have hl := lv_entry ([.ref (ad (0)), .int (r)]) (n := 2) (Nat.le_of_ble_eq_true rfl)
  refine W.eq (lg_entry_eq _ ([.ref (ad (0)), .int (r)]) _) ?_
  generalize (lg_sl ([.ref (ad (0)), .int (r)]) ++ List.replicate (2 - (lg_sl ([.ref (ad (0)), .int (r)])).length) Slot.unset).toArray = ls at hl ⊢
  have hl : lv_has ls 2 [(0, .ref (ad (0))), (1, .int (r))] := hl
  refine lv_iload_n hx hb dX0_isUnderWater_0 rfl (lv_at hl 1 rfl) ?_
  refine lv_aload_n hx hb dX0_isUnderWater_1 rfl (lv_at hl 0 rfl) ?_
  refine sp_get hx hb hts wi_X0_isUnderWater_X0 hown hK hP (κ := 0) (by omega) (cE_beach (by omega) (by omega)) rfl 2 (by decide) (hts _ (List.mem_of_getElem? (i := 1) rfl)) (fun _ h => h) rfl dX0_isUnderWater_2 ?_
  refine lv_icmp_ge (tgt := 12) hx hb dX0_isUnderWater_5 (by decide) (fun c_1 => ?_) (fun c_1 => ?_)
  · skip
    have c_1d := Int32.not_lt.mpr c_1
    refine lv_iconst (v := 0) hx hb dX0_isUnderWater_12 (by decide) ?_
    exact W.zret (v := 0) hx hb hr (by decide) (fun T9 hT9 _ => ⟨by rw [show (0 : Int32) = b2i (f_under σ r) from (by first | rfl | (simp [f_under, b2i, c_1, c_1d]; done))], hT9⟩) (fun _ h => by cases h) dX0_isUnderWater_13
  · skip
    have c_1d := Int32.not_le.mp c_1
    refine lv_iconst (v := 1) hx hb dX0_isUnderWater_8 (by decide) ?_
    refine lv_goto (tgt := 13) hx hb dX0_isUnderWater_9 (by decide) ?_
    exact W.zret (v := 1) hx hb hr (by decide) (fun T9 hT9 _ => ⟨by rw [show (1 : Int32) = b2i (f_under σ r) from (by first | rfl | (simp [f_under, b2i, c_1, c_1d]; done))], hT9⟩) (fun _ h => by cases h) dX0_isUnderWater_13

theorem wi_X4_isTooLong_X4 : ∀ w ∈ wsX40, w ∈ wsX4_isTooLong := by decide +kernel
theorem wi_X4_isTooLong_X3 : ∀ w ∈ wsX30, w ∈ wsX4_isTooLong := by decide +kernel
theorem wi_X4_isTooLong_X8 : ∀ w ∈ wsX80, w ∈ wsX4_isTooLong := by decide +kernel
set_option maxHeartbeats 4000000 in
set_option maxRecDepth 100000 in
theorem c_X4_isTooLong (l : Launch) (D : va_G) (ad : Nat → Nat) (cy : Nat → ClassId) (pm : Nat → Nat) (rj : Option Nat) (σ : Nat → Nat → Int32) (x : Option Nat) (hx0 : ∀ j, x = some j → j < 30) (k : Nat) (hk : k < 30) : Met l yX4_isTooLong wsX4_isTooLong ({ frames := 2, cells := 0, slots := 0, locals := 44 } : Room) (sp_Pc D (tyG cy) [.ref (ad (430)), va_rf (x.map (fun i => ad (9 + i))), .ref (ad (9 + k))] (cW ad cy pm rj σ)) (sp_S (some (.int (b2i (f_tooLong σ x k))))) 0 0 (fun _ => False) := by
  refine Met.ofW (cc := cX4_isTooLong) (maxL := 4) (ret := (some .boolean)) (by decide) rfl ?_
  intro p e s m args below meth c s₁ B hml hv
  obtain ⟨rfl, hP, hK⟩ := hv
  have hx := B.exec
  have hb := B.bytes
  have hr := B.returns
  have hts := atoms_spec (ws := wsX4_isTooLong) B.pre
  have hown : s.vm.findClass RX4 = some m.cls := findClass_of_methodNamed B.named
  have hlocks := B.notSynchronized
  rcases x with _ | j
  · skip
    have hl := lv_entry ([.ref (ad (430)), .null, .ref (ad (9 + k))]) (n := 4) (Nat.le_of_ble_eq_true rfl)
    refine W.eq (lg_entry_eq _ ([.ref (ad (430)), .null, .ref (ad (9 + k))]) _) ?_
    generalize (lg_sl ([.ref (ad (430)), .null, .ref (ad (9 + k))]) ++ List.replicate (4 - (lg_sl ([.ref (ad (430)), .null, .ref (ad (9 + k))])).length) Slot.unset).toArray = ls at hl ⊢
    have hl : lv_has ls 4 [(0, .ref (ad (430))), (1, .null), (2, .ref (ad (9 + k)))] := hl
    refine lv_aload_n hx hb dX4_isTooLong_0 rfl (lv_at hl 0 rfl) ?_
    refine sp_get hx hb hts wi_X4_isTooLong_X4 hown hK hP (κ := 430) (by decide) cE_proof rfl 0 (by decide) (hts _ (List.mem_of_getElem? (i := 1) rfl)) (fun _ h => h) rfl dX4_isTooLong_1 ?_
    refine lv_aload_n hx hb dX4_isTooLong_4 rfl (lv_at hl 2 rfl) ?_
    refine sp_get hx hb hts wi_X4_isTooLong_X3 hown hK hP (κ := 9 + k) (by omega) (cE_print (by omega) (by omega)) rfl 2 (by decide) (hts _ (List.mem_of_getElem? (i := 2) rfl)) (fun _ h => h) rfl dX4_isTooLong_5 ?_
    refine sp_call (W.runV (As := [.int (σ (9 + k) 2)]) (rest := []) ⟨hx, hb, hml, hown, hts⟩ (c_X0_findTrack l D ad cy pm rj σ (σ (9 + k) 2)) (cwV 1 hts gX4_isTooLong_X0_findTrack rfl rfl rfl (by decide +kernel) ⟨Nat.le_of_ble_eq_true rfl, Nat.le_of_ble_eq_true rfl⟩) (sp_preV hK hP (κ := 0) (by omega) (cE_beach (by omega) (by omega)) rfl) rfl rfl hl.1 rfl (lv_room (Nat.le_of_ble_eq_true rfl)) dX4_isTooLong_8 ⟨Nat.le_of_ble_eq_true rfl, Nat.le_of_ble_eq_true rfl⟩) ?_
    rcases q_1 : f_findTrack σ (σ (9 + k) 2) with _ | j_2
    · refine W.eq (g2 := F0 m 11 ls [.null]) rfl ?_
      refine lv_astore_nN (lv' := [(3, .null), (0, .ref (ad (430))), (1, .null), (2, .ref (ad (9 + k)))]) hx hb dX4_isTooLong_11 rfl hl (by decide) rfl (fun ls hl => ?_)
      refine lv_aload_nN hx hb dX4_isTooLong_12 rfl (lv_at hl 2 rfl) ?_
      refine lv_ifnullN (tgt := 43) hx hb dX4_isTooLong_13 (by decide) ?_
      refine lv_iconst (v := 0) hx hb dX4_isTooLong_43 (by decide) ?_
      exact W.zret (v := 0) hx hb hr (by decide) (fun T9 hT9 _ => ⟨by rw [show (0 : Int32) = b2i (f_tooLong σ none k) from (by first | rfl | (simp [f_tooLong, b2i, q_1]; done))], hT9⟩) (fun _ h => by cases h) dX4_isTooLong_44
    · have hj_2 := f_findTrack_lt q_1
      refine W.eq (g2 := F0 m 11 ls [.ref (ad (3 + j_2))]) rfl ?_
      refine lv_astore_n (lv' := [(3, .ref (ad (3 + j_2))), (0, .ref (ad (430))), (1, .null), (2, .ref (ad (9 + k)))]) hx hb dX4_isTooLong_11 rfl hl (by decide) rfl (fun ls hl => ?_)
      refine lv_aload_nN hx hb dX4_isTooLong_12 rfl (lv_at hl 2 rfl) ?_
      refine lv_ifnullN (tgt := 43) hx hb dX4_isTooLong_13 (by decide) ?_
      refine lv_iconst (v := 0) hx hb dX4_isTooLong_43 (by decide) ?_
      exact W.zret (v := 0) hx hb hr (by decide) (fun T9 hT9 _ => ⟨by rw [show (0 : Int32) = b2i (f_tooLong σ none k) from (by first | rfl | (simp [f_tooLong, b2i, q_1]; done))], hT9⟩) (fun _ h => by cases h) dX4_isTooLong_44
  · skip
    have hj : j < 30 := hx0 j rfl
    have hl := lv_entry ([.ref (ad (430)), .ref (ad (9 + j)), .ref (ad (9 + k))]) (n := 4) (Nat.le_of_ble_eq_true rfl)
    refine W.eq (lg_entry_eq _ ([.ref (ad (430)), .ref (ad (9 + j)), .ref (ad (9 + k))]) _) ?_
    generalize (lg_sl ([.ref (ad (430)), .ref (ad (9 + j)), .ref (ad (9 + k))]) ++ List.replicate (4 - (lg_sl ([.ref (ad (430)), .ref (ad (9 + j)), .ref (ad (9 + k))])).length) Slot.unset).toArray = ls at hl ⊢
    have hl : lv_has ls 4 [(0, .ref (ad (430))), (1, .ref (ad (9 + j))), (2, .ref (ad (9 + k)))] := hl
    refine lv_aload_n hx hb dX4_isTooLong_0 rfl (lv_at hl 0 rfl) ?_
    refine sp_get hx hb hts wi_X4_isTooLong_X4 hown hK hP (κ := 430) (by decide) cE_proof rfl 0 (by decide) (hts _ (List.mem_of_getElem? (i := 1) rfl)) (fun _ h => h) rfl dX4_isTooLong_1 ?_
    refine lv_aload_n hx hb dX4_isTooLong_4 rfl (lv_at hl 2 rfl) ?_
    refine sp_get hx hb hts wi_X4_isTooLong_X3 hown hK hP (κ := 9 + k) (by omega) (cE_print (by omega) (by omega)) rfl 2 (by decide) (hts _ (List.mem_of_getElem? (i := 2) rfl)) (fun _ h => h) rfl dX4_isTooLong_5 ?_
    refine sp_call (W.runV (As := [.int (σ (9 + k) 2)]) (rest := []) ⟨hx, hb, hml, hown, hts⟩ (c_X0_findTrack l D ad cy pm rj σ (σ (9 + k) 2)) (cwV 1 hts gX4_isTooLong_X0_findTrack rfl rfl rfl (by decide +kernel) ⟨Nat.le_of_ble_eq_true rfl, Nat.le_of_ble_eq_true rfl⟩) (sp_preV hK hP (κ := 0) (by omega) (cE_beach (by omega) (by omega)) rfl) rfl rfl hl.1 rfl (lv_room (Nat.le_of_ble_eq_true rfl)) dX4_isTooLong_8 ⟨Nat.le_of_ble_eq_true rfl, Nat.le_of_ble_eq_true rfl⟩) ?_
    rcases q_3 : f_findTrack σ (σ (9 + k) 2) with _ | j_4
    · refine W.eq (g2 := F0 m 11 ls [.null]) rfl ?_
      refine lv_astore_nN (lv' := [(3, .null), (0, .ref (ad (430))), (1, .ref (ad (9 + j))), (2, .ref (ad (9 + k)))]) hx hb dX4_isTooLong_11 rfl hl (by decide) rfl (fun ls hl => ?_)
      refine lv_aload_n hx hb dX4_isTooLong_12 rfl (lv_at hl 2 rfl) ?_
      refine lv_ifnull hx hb dX4_isTooLong_13 ?_
      refine lv_aload_nN hx hb dX4_isTooLong_16 rfl (lv_at hl 0 rfl) ?_
      refine lv_ifnullN (tgt := 43) hx hb dX4_isTooLong_17 (by decide) ?_
      refine lv_iconst (v := 0) hx hb dX4_isTooLong_43 (by decide) ?_
      exact W.zret (v := 0) hx hb hr (by decide) (fun T9 hT9 _ => ⟨by rw [show (0 : Int32) = b2i (f_tooLong σ (some j) k) from (by first | rfl | (simp [f_tooLong, b2i, q_3]; done))], hT9⟩) (fun _ h => by cases h) dX4_isTooLong_44
    · have hj_4 := f_findTrack_lt q_3
      refine W.eq (g2 := F0 m 11 ls [.ref (ad (3 + j_4))]) rfl ?_
      refine lv_astore_n (lv' := [(3, .ref (ad (3 + j_4))), (0, .ref (ad (430))), (1, .ref (ad (9 + j))), (2, .ref (ad (9 + k)))]) hx hb dX4_isTooLong_11 rfl hl (by decide) rfl (fun ls hl => ?_)
      refine lv_aload_n hx hb dX4_isTooLong_12 rfl (lv_at hl 2 rfl) ?_
      refine lv_ifnull hx hb dX4_isTooLong_13 ?_
      refine lv_aload_n hx hb dX4_isTooLong_16 rfl (lv_at hl 0 rfl) ?_
      refine lv_ifnull hx hb dX4_isTooLong_17 ?_
      refine lv_aload_n hx hb dX4_isTooLong_20 rfl (lv_at hl 3 rfl) ?_
      refine lv_aload_n hx hb dX4_isTooLong_21 rfl (lv_at hl 2 rfl) ?_
      refine sp_get hx hb hts wi_X4_isTooLong_X3 hown hK hP (κ := 9 + j) (by omega) (cE_print (by omega) (by omega)) rfl 4 (by decide) (hts _ (List.mem_of_getElem? (i := 3) rfl)) (fun _ h => h) rfl dX4_isTooLong_22 ?_
      refine lv_aload_n hx hb dX4_isTooLong_25 rfl (lv_at hl 2 rfl) ?_
      refine sp_get hx hb hts wi_X4_isTooLong_X3 hown hK hP (κ := 9 + j) (by omega) (cE_print (by omega) (by omega)) rfl 5 (by decide) (hts _ (List.mem_of_getElem? (i := 4) rfl)) (fun _ h => h) rfl dX4_isTooLong_26 ?_
      refine sp_call (W.runV (As := [.int (σ (9 + j) 4), .int (σ (9 + j) 5)]) (rest := []) ⟨hx, hb, hml, hown, hts⟩ (c_X3_distanceTo l D ad cy pm rj σ (9 + k) (by omega) (by omega) (σ (9 + j) 4) (σ (9 + j) 5)) (cwV 2 hts gX4_isTooLong_X3_distanceTo rfl rfl rfl (by decide +kernel) ⟨Nat.le_of_ble_eq_true rfl, Nat.le_of_ble_eq_true rfl⟩) (sp_preV hK hP (κ := 9 + k) (by omega) (cE_print (by omega) (by omega)) rfl) rfl rfl hl.1 rfl (lv_room (Nat.le_of_ble_eq_true rfl)) dX4_isTooLong_29 ⟨Nat.le_of_ble_eq_true rfl, Nat.le_of_ble_eq_true rfl⟩) ?_
      refine W.eq (g2 := F0 m 32 ls [.int (f_dist σ (9 + k) (σ (9 + j) 4) (σ (9 + j) 5))]) rfl ?_
      refine lv_aload_n hx hb dX4_isTooLong_32 rfl (lv_at hl 0 rfl) ?_
      refine sp_get hx hb hts wi_X4_isTooLong_X8 hown hK hP (κ := 3 + j_4) (by omega) (cE_track (by omega) (by omega)) rfl 2 (by decide) (hts _ (List.mem_of_getElem? (i := 5) rfl)) (fun _ h => h) rfl dX4_isTooLong_33 ?_
      refine lv_icmp_le (tgt := 43) hx hb dX4_isTooLong_36 (by decide) (fun c_5 => ?_) (fun c_5 => ?_)
      · skip
        have c_5d := Int32.not_lt.mpr c_5
        refine lv_iconst (v := 0) hx hb dX4_isTooLong_43 (by decide) ?_
        exact W.zret (v := 0) hx hb hr (by decide) (fun T9 hT9 _ => ⟨by rw [show (0 : Int32) = b2i (f_tooLong σ (some j) k) from (by first | rfl | (simp [f_tooLong, b2i, q_3, c_5, c_5d]; done))], hT9⟩) (fun _ h => by cases h) dX4_isTooLong_44
      · skip
        have c_5d := Int32.not_le.mp c_5
        refine lv_iconst (v := 1) hx hb dX4_isTooLong_39 (by decide) ?_
        refine lv_goto (tgt := 44) hx hb dX4_isTooLong_40 (by decide) ?_
        exact W.zret (v := 1) hx hb hr (by decide) (fun T9 hT9 _ => ⟨by rw [show (1 : Int32) = b2i (f_tooLong σ (some j) k) from (by first | rfl | (simp [f_tooLong, b2i, q_3, c_5, c_5d]; done))], hT9⟩) (fun _ h => by cases h) dX4_isTooLong_44

theorem wi_X4_isSameFoot_X3 : ∀ w ∈ wsX30, w ∈ wsX4_isSameFoot := by decide +kernel
set_option maxHeartbeats 4000000 in
set_option maxRecDepth 100000 in
theorem c_X4_isSameFoot (l : Launch) (D : va_G) (ad : Nat → Nat) (cy : Nat → ClassId) (pm : Nat → Nat) (rj : Option Nat) (σ : Nat → Nat → Int32) (x : Option Nat) (hx0 : ∀ j, x = some j → j < 30) (k : Nat) (hk : k < 30) : Met l yX4_isSameFoot wsX4_isSameFoot ({ frames := 0, cells := 0, slots := 0, locals := 0 } : Room) (sp_Pc D (tyG cy) [.ref (ad (430)), va_rf (x.map (fun i => ad (9 + i))), .ref (ad (9 + k))] (cW ad cy pm rj σ)) (sp_S (some (.int (b2i (f_sameFoot σ x k))))) 0 0 (fun _ => False) := by
  refine Met.ofW (cc := cX4_isSameFoot) (maxL := 3) (ret := (some .boolean)) (by decide) rfl ?_
  intro p e s m args below meth c s₁ B hml hv
  obtain ⟨rfl, hP, hK⟩ := hv
  have hx := B.exec
  have hb := B.bytes
  have hr := B.returns
  have hts := atoms_spec (ws := wsX4_isSameFoot) B.pre
  have hown : s.vm.findClass RX4 = some m.cls := findClass_of_methodNamed B.named
  have hlocks := B.notSynchronized
  rcases x with _ | j
  · skip
    have hl := lv_entry ([.ref (ad (430)), .null, .ref (ad (9 + k))]) (n := 3) (Nat.le_of_ble_eq_true rfl)
    refine W.eq (lg_entry_eq _ ([.ref (ad (430)), .null, .ref (ad (9 + k))]) _) ?_
    generalize (lg_sl ([.ref (ad (430)), .null, .ref (ad (9 + k))]) ++ List.replicate (3 - (lg_sl ([.ref (ad (430)), .null, .ref (ad (9 + k))])).length) Slot.unset).toArray = ls at hl ⊢
    have hl : lv_has ls 3 [(0, .ref (ad (430))), (1, .null), (2, .ref (ad (9 + k)))] := hl
    refine lv_aload_nN hx hb dX4_isSameFoot_0 rfl (lv_at hl 1 rfl) ?_
    refine lv_ifnullN (tgt := 19) hx hb dX4_isSameFoot_1 (by decide) ?_
    refine lv_iconst (v := 0) hx hb dX4_isSameFoot_19 (by decide) ?_
    exact W.zret (v := 0) hx hb hr (by decide) (fun T9 hT9 _ => ⟨by rw [show (0 : Int32) = b2i (f_sameFoot σ none k) from (by first | rfl | (simp [f_sameFoot, b2i]; done))], hT9⟩) (fun _ h => by cases h) dX4_isSameFoot_20
  · skip
    have hj : j < 30 := hx0 j rfl
    have hl := lv_entry ([.ref (ad (430)), .ref (ad (9 + j)), .ref (ad (9 + k))]) (n := 3) (Nat.le_of_ble_eq_true rfl)
    refine W.eq (lg_entry_eq _ ([.ref (ad (430)), .ref (ad (9 + j)), .ref (ad (9 + k))]) _) ?_
    generalize (lg_sl ([.ref (ad (430)), .ref (ad (9 + j)), .ref (ad (9 + k))]) ++ List.replicate (3 - (lg_sl ([.ref (ad (430)), .ref (ad (9 + j)), .ref (ad (9 + k))])).length) Slot.unset).toArray = ls at hl ⊢
    have hl : lv_has ls 3 [(0, .ref (ad (430))), (1, .ref (ad (9 + j))), (2, .ref (ad (9 + k)))] := hl
    refine lv_aload_n hx hb dX4_isSameFoot_0 rfl (lv_at hl 1 rfl) ?_
    refine lv_ifnull hx hb dX4_isSameFoot_1 ?_
    refine lv_aload_n hx hb dX4_isSameFoot_4 rfl (lv_at hl 1 rfl) ?_
    refine sp_get hx hb hts wi_X4_isSameFoot_X3 hown hK hP (κ := 9 + j) (by omega) (cE_print (by omega) (by omega)) rfl 6 (by decide) (hts _ (List.mem_of_getElem? (i := 1) rfl)) (fun _ h => h) rfl dX4_isSameFoot_5 ?_
    refine lv_aload_n hx hb dX4_isSameFoot_8 rfl (lv_at hl 2 rfl) ?_
    refine sp_get hx hb hts wi_X4_isSameFoot_X3 hown hK hP (κ := 9 + k) (by omega) (cE_print (by omega) (by omega)) rfl 6 (by decide) (hts _ (List.mem_of_getElem? (i := 1) rfl)) (fun _ h => h) rfl dX4_isSameFoot_9 ?_
    refine lv_icmp_ne (tgt := 19) hx hb dX4_isSameFoot_12 (by decide) (fun c_1 => ?_) (fun c_1 => ?_)
    · skip
      refine lv_iconst (v := 0) hx hb dX4_isSameFoot_19 (by decide) ?_
      exact W.zret (v := 0) hx hb hr (by decide) (fun T9 hT9 _ => ⟨by rw [show (0 : Int32) = b2i (f_sameFoot σ (some j) k) from (by first | rfl | (simp [f_sameFoot, b2i, c_1]; done))], hT9⟩) (fun _ h => by cases h) dX4_isSameFoot_20
    · skip
      refine lv_iconst (v := 1) hx hb dX4_isSameFoot_15 (by decide) ?_
      refine lv_goto (tgt := 20) hx hb dX4_isSameFoot_16 (by decide) ?_
      exact W.zret (v := 1) hx hb hr (by decide) (fun T9 hT9 _ => ⟨by rw [show (1 : Int32) = b2i (f_sameFoot σ (some j) k) from (by first | rfl | (simp [f_sameFoot, b2i, c_1]; done))], hT9⟩) (fun _ h => by cases h) dX4_isSameFoot_20

theorem wi_X4_isUneven_X3 : ∀ w ∈ wsX30, w ∈ wsX4_isUneven := by decide +kernel
set_option maxHeartbeats 4000000 in
set_option maxRecDepth 100000 in
theorem c_X4_isUneven (l : Launch) (D : va_G) (ad : Nat → Nat) (cy : Nat → ClassId) (pm : Nat → Nat) (rj : Option Nat) (σ : Nat → Nat → Int32) (x : Option Nat) (hx0 : ∀ j, x = some j → j < 30) (k : Nat) (hk : k < 30) : Met l yX4_isUneven wsX4_isUneven ({ frames := 1, cells := 0, slots := 0, locals := 22 } : Room) (sp_Pc D (tyG cy) [.ref (ad (430)), va_rf (x.map (fun i => ad (9 + i))), .ref (ad (9 + k))] (cW ad cy pm rj σ)) (sp_S (some (.int (b2i (f_uneven σ x k))))) 0 0 (fun _ => False) := by
  refine Met.ofW (cc := cX4_isUneven) (maxL := 3) (ret := (some .boolean)) (by decide) rfl ?_
  intro p e s m args below meth c s₁ B hml hv
  obtain ⟨rfl, hP, hK⟩ := hv
  have hx := B.exec
  have hb := B.bytes
  have hr := B.returns
  have hts := atoms_spec (ws := wsX4_isUneven) B.pre
  have hown : s.vm.findClass RX4 = some m.cls := findClass_of_methodNamed B.named
  have hlocks := B.notSynchronized
  rcases x with _ | j
  · skip
    have hl := lv_entry ([.ref (ad (430)), .null, .ref (ad (9 + k))]) (n := 3) (Nat.le_of_ble_eq_true rfl)
    refine W.eq (lg_entry_eq _ ([.ref (ad (430)), .null, .ref (ad (9 + k))]) _) ?_
    generalize (lg_sl ([.ref (ad (430)), .null, .ref (ad (9 + k))]) ++ List.replicate (3 - (lg_sl ([.ref (ad (430)), .null, .ref (ad (9 + k))])).length) Slot.unset).toArray = ls at hl ⊢
    have hl : lv_has ls 3 [(0, .ref (ad (430))), (1, .null), (2, .ref (ad (9 + k)))] := hl
    refine lv_aload_nN hx hb dX4_isUneven_0 rfl (lv_at hl 1 rfl) ?_
    refine lv_ifnullN (tgt := 24) hx hb dX4_isUneven_1 (by decide) ?_
    refine lv_iconst (v := 0) hx hb dX4_isUneven_24 (by decide) ?_
    exact W.zret (v := 0) hx hb hr (by decide) (fun T9 hT9 _ => ⟨by rw [show (0 : Int32) = b2i (f_uneven σ none k) from (by first | rfl | (simp [f_uneven, b2i]; done))], hT9⟩) (fun _ h => by cases h) dX4_isUneven_25
  · skip
    have hj : j < 30 := hx0 j rfl
    have hl := lv_entry ([.ref (ad (430)), .ref (ad (9 + j)), .ref (ad (9 + k))]) (n := 3) (Nat.le_of_ble_eq_true rfl)
    refine W.eq (lg_entry_eq _ ([.ref (ad (430)), .ref (ad (9 + j)), .ref (ad (9 + k))]) _) ?_
    generalize (lg_sl ([.ref (ad (430)), .ref (ad (9 + j)), .ref (ad (9 + k))]) ++ List.replicate (3 - (lg_sl ([.ref (ad (430)), .ref (ad (9 + j)), .ref (ad (9 + k))])).length) Slot.unset).toArray = ls at hl ⊢
    have hl : lv_has ls 3 [(0, .ref (ad (430))), (1, .ref (ad (9 + j))), (2, .ref (ad (9 + k)))] := hl
    refine lv_aload_n hx hb dX4_isUneven_0 rfl (lv_at hl 1 rfl) ?_
    refine lv_ifnull hx hb dX4_isUneven_1 ?_
    refine lv_aload_n hx hb dX4_isUneven_4 rfl (lv_at hl 1 rfl) ?_
    refine sp_get hx hb hts wi_X4_isUneven_X3 hown hK hP (κ := 9 + j) (by omega) (cE_print (by omega) (by omega)) rfl 7 (by decide) (hts _ (List.mem_of_getElem? (i := 1) rfl)) (fun _ h => h) rfl dX4_isUneven_5 ?_
    refine lv_aload_n hx hb dX4_isUneven_8 rfl (lv_at hl 2 rfl) ?_
    refine sp_get hx hb hts wi_X4_isUneven_X3 hown hK hP (κ := 9 + k) (by omega) (cE_print (by omega) (by omega)) rfl 7 (by decide) (hts _ (List.mem_of_getElem? (i := 1) rfl)) (fun _ h => h) rfl dX4_isUneven_9 ?_
    refine lv_isub hx hb dX4_isUneven_12 ?_
    refine va_mabs hx hb (by rw [hml]; exact hl.1.symm) hown (hts _ (List.mem_of_getElem? (i := 2) rfl)) (hts _ (List.mem_of_getElem? (i := 3) rfl)) (hts _ (List.mem_of_getElem? (i := 4) rfl)) (hts _ (List.mem_of_getElem? (i := 5) rfl)) (Nat.le_of_ble_eq_true rfl) (Nat.le_of_ble_eq_true rfl) (Nat.le_of_ble_eq_true rfl) (Nat.le_of_ble_eq_true rfl) dX4_isUneven_13 ?_
    refine W.eq (g2 := F0 m 16 ls [.int (iabs ((σ (9 + j) 7) - (σ (9 + k) 7)))]) rfl ?_
    refine lv_iconst (v := 3) hx hb dX4_isUneven_16 (by decide) ?_
    refine lv_icmp_le (tgt := 24) hx hb dX4_isUneven_17 (by decide) (fun c_1 => ?_) (fun c_1 => ?_)
    · skip
      have c_1d := Int32.not_lt.mpr c_1
      refine lv_iconst (v := 0) hx hb dX4_isUneven_24 (by decide) ?_
      exact W.zret (v := 0) hx hb hr (by decide) (fun T9 hT9 _ => ⟨by rw [show (0 : Int32) = b2i (f_uneven σ (some j) k) from (by first | rfl | (simp [f_uneven, b2i, c_1, c_1d]; done))], hT9⟩) (fun _ h => by cases h) dX4_isUneven_25
    · skip
      have c_1d := Int32.not_le.mp c_1
      refine lv_iconst (v := 1) hx hb dX4_isUneven_20 (by decide) ?_
      refine lv_goto (tgt := 25) hx hb dX4_isUneven_21 (by decide) ?_
      exact W.zret (v := 1) hx hb hr (by decide) (fun T9 hT9 _ => ⟨by rw [show (1 : Int32) = b2i (f_uneven σ (some j) k) from (by first | rfl | (simp [f_uneven, b2i, c_1, c_1d]; done))], hT9⟩) (fun _ h => by cases h) dX4_isUneven_25

theorem wi_X4_strideIsWrong_X4 : ∀ w ∈ wsX40, w ∈ wsX4_strideIsWrong := by decide +kernel
set_option maxHeartbeats 4000000 in
set_option maxRecDepth 100000 in
theorem c_X4_strideIsWrong (l : Launch) (D : va_G) (ad : Nat → Nat) (cy : Nat → ClassId) (pm : Nat → Nat) (rj : Option Nat) (σ : Nat → Nat → Int32) (k : Nat) (hk : k < 30) : Met l yX4_strideIsWrong wsX4_strideIsWrong ({ frames := 3, cells := 0, slots := 0, locals := 67 } : Room) (sp_Pc D (tyG cy) [.ref (ad (430)), .ref (ad (9 + k))] (cW ad cy pm rj σ)) (sp_S (some (.int (b2i (f_tooLong σ (f_before σ k) k))))) 0 0 (fun _ => False) := by
  refine Met.ofW (cc := cX4_strideIsWrong) (maxL := 2) (ret := (some .boolean)) (by decide) rfl ?_
  intro p e s m args below meth c s₁ B hml hv
  obtain ⟨rfl, hP, hK⟩ := hv
  have hx := B.exec
  have hb := B.bytes
  have hr := B.returns
  have hts := atoms_spec (ws := wsX4_strideIsWrong) B.pre
  have hown : s.vm.findClass RX4 = some m.cls := findClass_of_methodNamed B.named
  have hlocks := B.notSynchronized
  have hl := lv_entry ([.ref (ad (430)), .ref (ad (9 + k))]) (n := 2) (Nat.le_of_ble_eq_true rfl)
  refine W.eq (lg_entry_eq _ ([.ref (ad (430)), .ref (ad (9 + k))]) _) ?_
  generalize (lg_sl ([.ref (ad (430)), .ref (ad (9 + k))]) ++ List.replicate (2 - (lg_sl ([.ref (ad (430)), .ref (ad (9 + k))])).length) Slot.unset).toArray = ls at hl ⊢
  have hl : lv_has ls 2 [(0, .ref (ad (430))), (1, .ref (ad (9 + k)))] := hl
  refine lv_aload_n hx hb dX4_strideIsWrong_0 rfl (lv_at hl 0 rfl) ?_
  refine lv_aload_n hx hb dX4_strideIsWrong_1 rfl (lv_at hl 0 rfl) ?_
  refine sp_get hx hb hts wi_X4_strideIsWrong_X4 hown hK hP (κ := 430) (by decide) cE_proof rfl 0 (by decide) (hts _ (List.mem_of_getElem? (i := 1) rfl)) (fun _ h => h) rfl dX4_strideIsWrong_2 ?_
  refine lv_aload_n hx hb dX4_strideIsWrong_5 rfl (lv_at hl 1 rfl) ?_
  refine sp_call (W.runV (As := [.ref (ad (9 + k))]) (rest := [.ref (ad (430))]) ⟨hx, hb, hml, hown, hts⟩ (c_X0_before l D ad cy pm rj σ k (by omega)) (cwV 1 hts gX4_strideIsWrong_X0_before rfl rfl rfl (by decide +kernel) ⟨Nat.le_of_ble_eq_true rfl, Nat.le_of_ble_eq_true rfl⟩) (sp_preV hK hP (κ := 0) (by omega) (cE_beach (by omega) (by omega)) rfl) rfl rfl hl.1 rfl (lv_room (Nat.le_of_ble_eq_true rfl)) dX4_strideIsWrong_6 ⟨Nat.le_of_ble_eq_true rfl, Nat.le_of_ble_eq_true rfl⟩) ?_
  rcases q_1 : f_before σ k with _ | j_2
  · refine W.eq (g2 := F0 m 9 ls [.null, .ref (ad (430))]) rfl ?_
    refine lv_aload_n hx hb dX4_strideIsWrong_9 rfl (lv_at hl 1 rfl) ?_
    refine sp_call (W.runV (As := [.null, .ref (ad (9 + k))]) (rest := []) ⟨hx, hb, hml, hown, hts⟩ (c_X4_isTooLong l D ad cy pm rj σ (none : Option Nat) (by intro j hj; first | (cases hj; done) | (cases hj; omega)) k (by omega)) (cwV 2 hts gX4_strideIsWrong_X4_isTooLong rfl rfl rfl (by decide +kernel) ⟨Nat.le_of_ble_eq_true rfl, Nat.le_of_ble_eq_true rfl⟩) (sp_preV hK hP (κ := 430) (by decide) cE_proof rfl) rfl rfl hl.1 rfl (lv_room (Nat.le_of_ble_eq_true rfl)) dX4_strideIsWrong_10 ⟨Nat.le_of_ble_eq_true rfl, Nat.le_of_ble_eq_true rfl⟩) ?_
    refine W.eq (g2 := F0 m 13 ls [.int (b2i (f_tooLong σ (none : Option Nat) k))]) rfl ?_
    exact W.zret (v := b2i (f_tooLong σ (none : Option Nat) k)) hx hb hr ((nz_of (bz_b2i _)).1) (fun T9 hT9 _ => ⟨by rw [show (b2i (f_tooLong σ (none : Option Nat) k) : Int32) = b2i (f_tooLong σ (f_before σ k) k) from (by simp [b2i, q_1])], hT9⟩) (fun _ h => by cases h) dX4_strideIsWrong_13
  · have hj_2 := f_before_lt q_1
    refine W.eq (g2 := F0 m 9 ls [.ref (ad (9 + j_2)), .ref (ad (430))]) rfl ?_
    refine lv_aload_n hx hb dX4_strideIsWrong_9 rfl (lv_at hl 1 rfl) ?_
    refine sp_call (W.runV (As := [.ref (ad (9 + j_2)), .ref (ad (9 + k))]) (rest := []) ⟨hx, hb, hml, hown, hts⟩ (c_X4_isTooLong l D ad cy pm rj σ (some (j_2)) (by intro j hj; first | (cases hj; done) | (cases hj; omega)) k (by omega)) (cwV 2 hts gX4_strideIsWrong_X4_isTooLong rfl rfl rfl (by decide +kernel) ⟨Nat.le_of_ble_eq_true rfl, Nat.le_of_ble_eq_true rfl⟩) (sp_preV hK hP (κ := 430) (by decide) cE_proof rfl) rfl rfl hl.1 rfl (lv_room (Nat.le_of_ble_eq_true rfl)) dX4_strideIsWrong_10 ⟨Nat.le_of_ble_eq_true rfl, Nat.le_of_ble_eq_true rfl⟩) ?_
    refine W.eq (g2 := F0 m 13 ls [.int (b2i (f_tooLong σ (some (j_2)) k))]) rfl ?_
    exact W.zret (v := b2i (f_tooLong σ (some (j_2)) k)) hx hb hr ((nz_of (bz_b2i _)).1) (fun T9 hT9 _ => ⟨by rw [show (b2i (f_tooLong σ (some (j_2)) k) : Int32) = b2i (f_tooLong σ (f_before σ k) k) from (by simp [b2i, q_1])], hT9⟩) (fun _ h => by cases h) dX4_strideIsWrong_13

theorem wi_X4_footIsWrong_X4 : ∀ w ∈ wsX40, w ∈ wsX4_footIsWrong := by decide +kernel
set_option maxHeartbeats 4000000 in
set_option maxRecDepth 100000 in
theorem c_X4_footIsWrong (l : Launch) (D : va_G) (ad : Nat → Nat) (cy : Nat → ClassId) (pm : Nat → Nat) (rj : Option Nat) (σ : Nat → Nat → Int32) (k : Nat) (hk : k < 30) : Met l yX4_footIsWrong wsX4_footIsWrong ({ frames := 2, cells := 0, slots := 0, locals := 47 } : Room) (sp_Pc D (tyG cy) [.ref (ad (430)), .ref (ad (9 + k))] (cW ad cy pm rj σ)) (sp_S (some (.int (b2i (f_sameFoot σ (f_before σ k) k))))) 0 0 (fun _ => False) := by
  refine Met.ofW (cc := cX4_footIsWrong) (maxL := 2) (ret := (some .boolean)) (by decide) rfl ?_
  intro p e s m args below meth c s₁ B hml hv
  obtain ⟨rfl, hP, hK⟩ := hv
  have hx := B.exec
  have hb := B.bytes
  have hr := B.returns
  have hts := atoms_spec (ws := wsX4_footIsWrong) B.pre
  have hown : s.vm.findClass RX4 = some m.cls := findClass_of_methodNamed B.named
  have hlocks := B.notSynchronized
  have hl := lv_entry ([.ref (ad (430)), .ref (ad (9 + k))]) (n := 2) (Nat.le_of_ble_eq_true rfl)
  refine W.eq (lg_entry_eq _ ([.ref (ad (430)), .ref (ad (9 + k))]) _) ?_
  generalize (lg_sl ([.ref (ad (430)), .ref (ad (9 + k))]) ++ List.replicate (2 - (lg_sl ([.ref (ad (430)), .ref (ad (9 + k))])).length) Slot.unset).toArray = ls at hl ⊢
  have hl : lv_has ls 2 [(0, .ref (ad (430))), (1, .ref (ad (9 + k)))] := hl
  refine lv_aload_n hx hb dX4_footIsWrong_0 rfl (lv_at hl 0 rfl) ?_
  refine lv_aload_n hx hb dX4_footIsWrong_1 rfl (lv_at hl 0 rfl) ?_
  refine sp_get hx hb hts wi_X4_footIsWrong_X4 hown hK hP (κ := 430) (by decide) cE_proof rfl 0 (by decide) (hts _ (List.mem_of_getElem? (i := 1) rfl)) (fun _ h => h) rfl dX4_footIsWrong_2 ?_
  refine lv_aload_n hx hb dX4_footIsWrong_5 rfl (lv_at hl 1 rfl) ?_
  refine sp_call (W.runV (As := [.ref (ad (9 + k))]) (rest := [.ref (ad (430))]) ⟨hx, hb, hml, hown, hts⟩ (c_X0_before l D ad cy pm rj σ k (by omega)) (cwV 1 hts gX4_footIsWrong_X0_before rfl rfl rfl (by decide +kernel) ⟨Nat.le_of_ble_eq_true rfl, Nat.le_of_ble_eq_true rfl⟩) (sp_preV hK hP (κ := 0) (by omega) (cE_beach (by omega) (by omega)) rfl) rfl rfl hl.1 rfl (lv_room (Nat.le_of_ble_eq_true rfl)) dX4_footIsWrong_6 ⟨Nat.le_of_ble_eq_true rfl, Nat.le_of_ble_eq_true rfl⟩) ?_
  rcases q_1 : f_before σ k with _ | j_2
  · refine W.eq (g2 := F0 m 9 ls [.null, .ref (ad (430))]) rfl ?_
    refine lv_aload_n hx hb dX4_footIsWrong_9 rfl (lv_at hl 1 rfl) ?_
    refine sp_call (W.runV (As := [.null, .ref (ad (9 + k))]) (rest := []) ⟨hx, hb, hml, hown, hts⟩ (c_X4_isSameFoot l D ad cy pm rj σ (none : Option Nat) (by intro j hj; first | (cases hj; done) | (cases hj; omega)) k (by omega)) (cwV 2 hts gX4_footIsWrong_X4_isSameFoot rfl rfl rfl (by decide +kernel) ⟨Nat.le_of_ble_eq_true rfl, Nat.le_of_ble_eq_true rfl⟩) (sp_preV hK hP (κ := 430) (by decide) cE_proof rfl) rfl rfl hl.1 rfl (lv_room (Nat.le_of_ble_eq_true rfl)) dX4_footIsWrong_10 ⟨Nat.le_of_ble_eq_true rfl, Nat.le_of_ble_eq_true rfl⟩) ?_
    refine W.eq (g2 := F0 m 13 ls [.int (b2i (f_sameFoot σ (none : Option Nat) k))]) rfl ?_
    exact W.zret (v := b2i (f_sameFoot σ (none : Option Nat) k)) hx hb hr ((nz_of (bz_b2i _)).1) (fun T9 hT9 _ => ⟨by rw [show (b2i (f_sameFoot σ (none : Option Nat) k) : Int32) = b2i (f_sameFoot σ (f_before σ k) k) from (by simp [b2i, q_1])], hT9⟩) (fun _ h => by cases h) dX4_footIsWrong_13
  · have hj_2 := f_before_lt q_1
    refine W.eq (g2 := F0 m 9 ls [.ref (ad (9 + j_2)), .ref (ad (430))]) rfl ?_
    refine lv_aload_n hx hb dX4_footIsWrong_9 rfl (lv_at hl 1 rfl) ?_
    refine sp_call (W.runV (As := [.ref (ad (9 + j_2)), .ref (ad (9 + k))]) (rest := []) ⟨hx, hb, hml, hown, hts⟩ (c_X4_isSameFoot l D ad cy pm rj σ (some (j_2)) (by intro j hj; first | (cases hj; done) | (cases hj; omega)) k (by omega)) (cwV 2 hts gX4_footIsWrong_X4_isSameFoot rfl rfl rfl (by decide +kernel) ⟨Nat.le_of_ble_eq_true rfl, Nat.le_of_ble_eq_true rfl⟩) (sp_preV hK hP (κ := 430) (by decide) cE_proof rfl) rfl rfl hl.1 rfl (lv_room (Nat.le_of_ble_eq_true rfl)) dX4_footIsWrong_10 ⟨Nat.le_of_ble_eq_true rfl, Nat.le_of_ble_eq_true rfl⟩) ?_
    refine W.eq (g2 := F0 m 13 ls [.int (b2i (f_sameFoot σ (some (j_2)) k))]) rfl ?_
    exact W.zret (v := b2i (f_sameFoot σ (some (j_2)) k)) hx hb hr ((nz_of (bz_b2i _)).1) (fun T9 hT9 _ => ⟨by rw [show (b2i (f_sameFoot σ (some (j_2)) k) : Int32) = b2i (f_sameFoot σ (f_before σ k) k) from (by simp [b2i, q_1])], hT9⟩) (fun _ h => by cases h) dX4_footIsWrong_13

theorem wi_X4_depthIsWrong_X4 : ∀ w ∈ wsX40, w ∈ wsX4_depthIsWrong := by decide +kernel
set_option maxHeartbeats 4000000 in
set_option maxRecDepth 100000 in
theorem c_X4_depthIsWrong (l : Launch) (D : va_G) (ad : Nat → Nat) (cy : Nat → ClassId) (pm : Nat → Nat) (rj : Option Nat) (σ : Nat → Nat → Int32) (k : Nat) (hk : k < 30) : Met l yX4_depthIsWrong wsX4_depthIsWrong ({ frames := 2, cells := 0, slots := 0, locals := 47 } : Room) (sp_Pc D (tyG cy) [.ref (ad (430)), .ref (ad (9 + k))] (cW ad cy pm rj σ)) (sp_S (some (.int (b2i (f_uneven σ (f_before σ k) k))))) 0 0 (fun _ => False) := by
  refine Met.ofW (cc := cX4_depthIsWrong) (maxL := 2) (ret := (some .boolean)) (by decide) rfl ?_
  intro p e s m args below meth c s₁ B hml hv
  obtain ⟨rfl, hP, hK⟩ := hv
  have hx := B.exec
  have hb := B.bytes
  have hr := B.returns
  have hts := atoms_spec (ws := wsX4_depthIsWrong) B.pre
  have hown : s.vm.findClass RX4 = some m.cls := findClass_of_methodNamed B.named
  have hlocks := B.notSynchronized
  have hl := lv_entry ([.ref (ad (430)), .ref (ad (9 + k))]) (n := 2) (Nat.le_of_ble_eq_true rfl)
  refine W.eq (lg_entry_eq _ ([.ref (ad (430)), .ref (ad (9 + k))]) _) ?_
  generalize (lg_sl ([.ref (ad (430)), .ref (ad (9 + k))]) ++ List.replicate (2 - (lg_sl ([.ref (ad (430)), .ref (ad (9 + k))])).length) Slot.unset).toArray = ls at hl ⊢
  have hl : lv_has ls 2 [(0, .ref (ad (430))), (1, .ref (ad (9 + k)))] := hl
  refine lv_aload_n hx hb dX4_depthIsWrong_0 rfl (lv_at hl 0 rfl) ?_
  refine lv_aload_n hx hb dX4_depthIsWrong_1 rfl (lv_at hl 0 rfl) ?_
  refine sp_get hx hb hts wi_X4_depthIsWrong_X4 hown hK hP (κ := 430) (by decide) cE_proof rfl 0 (by decide) (hts _ (List.mem_of_getElem? (i := 1) rfl)) (fun _ h => h) rfl dX4_depthIsWrong_2 ?_
  refine lv_aload_n hx hb dX4_depthIsWrong_5 rfl (lv_at hl 1 rfl) ?_
  refine sp_call (W.runV (As := [.ref (ad (9 + k))]) (rest := [.ref (ad (430))]) ⟨hx, hb, hml, hown, hts⟩ (c_X0_before l D ad cy pm rj σ k (by omega)) (cwV 1 hts gX4_depthIsWrong_X0_before rfl rfl rfl (by decide +kernel) ⟨Nat.le_of_ble_eq_true rfl, Nat.le_of_ble_eq_true rfl⟩) (sp_preV hK hP (κ := 0) (by omega) (cE_beach (by omega) (by omega)) rfl) rfl rfl hl.1 rfl (lv_room (Nat.le_of_ble_eq_true rfl)) dX4_depthIsWrong_6 ⟨Nat.le_of_ble_eq_true rfl, Nat.le_of_ble_eq_true rfl⟩) ?_
  rcases q_1 : f_before σ k with _ | j_2
  · refine W.eq (g2 := F0 m 9 ls [.null, .ref (ad (430))]) rfl ?_
    refine lv_aload_n hx hb dX4_depthIsWrong_9 rfl (lv_at hl 1 rfl) ?_
    refine sp_call (W.runV (As := [.null, .ref (ad (9 + k))]) (rest := []) ⟨hx, hb, hml, hown, hts⟩ (c_X4_isUneven l D ad cy pm rj σ (none : Option Nat) (by intro j hj; first | (cases hj; done) | (cases hj; omega)) k (by omega)) (cwV 2 hts gX4_depthIsWrong_X4_isUneven rfl rfl rfl (by decide +kernel) ⟨Nat.le_of_ble_eq_true rfl, Nat.le_of_ble_eq_true rfl⟩) (sp_preV hK hP (κ := 430) (by decide) cE_proof rfl) rfl rfl hl.1 rfl (lv_room (Nat.le_of_ble_eq_true rfl)) dX4_depthIsWrong_10 ⟨Nat.le_of_ble_eq_true rfl, Nat.le_of_ble_eq_true rfl⟩) ?_
    refine W.eq (g2 := F0 m 13 ls [.int (b2i (f_uneven σ (none : Option Nat) k))]) rfl ?_
    exact W.zret (v := b2i (f_uneven σ (none : Option Nat) k)) hx hb hr ((nz_of (bz_b2i _)).1) (fun T9 hT9 _ => ⟨by rw [show (b2i (f_uneven σ (none : Option Nat) k) : Int32) = b2i (f_uneven σ (f_before σ k) k) from (by simp [b2i, q_1])], hT9⟩) (fun _ h => by cases h) dX4_depthIsWrong_13
  · have hj_2 := f_before_lt q_1
    refine W.eq (g2 := F0 m 9 ls [.ref (ad (9 + j_2)), .ref (ad (430))]) rfl ?_
    refine lv_aload_n hx hb dX4_depthIsWrong_9 rfl (lv_at hl 1 rfl) ?_
    refine sp_call (W.runV (As := [.ref (ad (9 + j_2)), .ref (ad (9 + k))]) (rest := []) ⟨hx, hb, hml, hown, hts⟩ (c_X4_isUneven l D ad cy pm rj σ (some (j_2)) (by intro j hj; first | (cases hj; done) | (cases hj; omega)) k (by omega)) (cwV 2 hts gX4_depthIsWrong_X4_isUneven rfl rfl rfl (by decide +kernel) ⟨Nat.le_of_ble_eq_true rfl, Nat.le_of_ble_eq_true rfl⟩) (sp_preV hK hP (κ := 430) (by decide) cE_proof rfl) rfl rfl hl.1 rfl (lv_room (Nat.le_of_ble_eq_true rfl)) dX4_depthIsWrong_10 ⟨Nat.le_of_ble_eq_true rfl, Nat.le_of_ble_eq_true rfl⟩) ?_
    refine W.eq (g2 := F0 m 13 ls [.int (b2i (f_uneven σ (some (j_2)) k))]) rfl ?_
    exact W.zret (v := b2i (f_uneven σ (some (j_2)) k)) hx hb hr ((nz_of (bz_b2i _)).1) (fun T9 hT9 _ => ⟨by rw [show (b2i (f_uneven σ (some (j_2)) k) : Int32) = b2i (f_uneven σ (f_before σ k) k) from (by simp [b2i, q_1])], hT9⟩) (fun _ h => by cases h) dX4_depthIsWrong_13

set_option maxHeartbeats 4000000 in
set_option maxRecDepth 100000 in
theorem c_X4_hasError (l : Launch) (D : va_G) (ad : Nat → Nat) (cy : Nat → ClassId) (pm : Nat → Nat) (rj : Option Nat) (σ : Nat → Nat → Int32) (k : Nat) (hk : k < 30) : Met l yX4_hasError wsX4_hasError ({ frames := 4, cells := 0, slots := 0, locals := 88 } : Room) (sp_Pc D (tyG cy) [.ref (ad (430)), .ref (ad (9 + k))] (cW ad cy pm rj σ)) (sp_S (some (.int (b2i (f_hasError σ k))))) 0 0 (fun _ => False) := by
  refine Met.ofW (cc := cX4_hasError) (maxL := 2) (ret := (some .boolean)) (by decide) rfl ?_
  intro p e s m args below meth c s₁ B hml hv
  obtain ⟨rfl, hP, hK⟩ := hv
  have hx := B.exec
  have hb := B.bytes
  have hr := B.returns
  have hts := atoms_spec (ws := wsX4_hasError) B.pre
  have hown : s.vm.findClass RX4 = some m.cls := findClass_of_methodNamed B.named
  have hlocks := B.notSynchronized
  have hl := lv_entry ([.ref (ad (430)), .ref (ad (9 + k))]) (n := 2) (Nat.le_of_ble_eq_true rfl)
  refine W.eq (lg_entry_eq _ ([.ref (ad (430)), .ref (ad (9 + k))]) _) ?_
  generalize (lg_sl ([.ref (ad (430)), .ref (ad (9 + k))]) ++ List.replicate (2 - (lg_sl ([.ref (ad (430)), .ref (ad (9 + k))])).length) Slot.unset).toArray = ls at hl ⊢
  have hl : lv_has ls 2 [(0, .ref (ad (430))), (1, .ref (ad (9 + k)))] := hl
  refine lv_aload_n hx hb dX4_hasError_0 rfl (lv_at hl 0 rfl) ?_
  refine lv_aload_n hx hb dX4_hasError_1 rfl (lv_at hl 1 rfl) ?_
  refine sp_call (W.runV (As := [.ref (ad (9 + k))]) (rest := []) ⟨hx, hb, hml, hown, hts⟩ (c_X4_strideIsWrong l D ad cy pm rj σ k (by omega)) (cwV 1 hts gX4_hasError_X4_strideIsWrong rfl rfl rfl (by decide +kernel) ⟨Nat.le_of_ble_eq_true rfl, Nat.le_of_ble_eq_true rfl⟩) (sp_preV hK hP (κ := 430) (by decide) cE_proof rfl) rfl rfl hl.1 rfl (lv_room (Nat.le_of_ble_eq_true rfl)) dX4_hasError_2 ⟨Nat.le_of_ble_eq_true rfl, Nat.le_of_ble_eq_true rfl⟩) ?_
  refine W.eq (g2 := F0 m 5 ls [.int (b2i (f_tooLong σ (f_before σ k) k))]) rfl ?_
  refine lv_if_ne (tgt := 24) hx hb dX4_hasError_5 (by decide) (fun c_1 => ?_) (fun c_1 => ?_)
  · rw [b2i_eq0] at c_1
    refine lv_iconst (v := 1) hx hb dX4_hasError_24 (by decide) ?_
    refine lv_goto (tgt := 29) hx hb dX4_hasError_25 (by decide) ?_
    exact W.zret (v := 1) hx hb hr (by decide) (fun T9 hT9 _ => ⟨by rw [show (1 : Int32) = b2i (f_hasError σ k) from (by first | rfl | (simp [f_hasError, b2i, c_1]; done))], hT9⟩) (fun _ h => by cases h) dX4_hasError_29
  · rw [b2i_eq0] at c_1
    refine lv_aload_n hx hb dX4_hasError_8 rfl (lv_at hl 0 rfl) ?_
    refine lv_aload_n hx hb dX4_hasError_9 rfl (lv_at hl 1 rfl) ?_
    refine sp_call (W.runV (As := [.ref (ad (9 + k))]) (rest := []) ⟨hx, hb, hml, hown, hts⟩ (c_X4_footIsWrong l D ad cy pm rj σ k (by omega)) (cwV 1 hts gX4_hasError_X4_footIsWrong rfl rfl rfl (by decide +kernel) ⟨Nat.le_of_ble_eq_true rfl, Nat.le_of_ble_eq_true rfl⟩) (sp_preV hK hP (κ := 430) (by decide) cE_proof rfl) rfl rfl hl.1 rfl (lv_room (Nat.le_of_ble_eq_true rfl)) dX4_hasError_10 ⟨Nat.le_of_ble_eq_true rfl, Nat.le_of_ble_eq_true rfl⟩) ?_
    refine W.eq (g2 := F0 m 13 ls [.int (b2i (f_sameFoot σ (f_before σ k) k))]) rfl ?_
    refine lv_if_ne (tgt := 24) hx hb dX4_hasError_13 (by decide) (fun c_2 => ?_) (fun c_2 => ?_)
    · rw [b2i_eq0] at c_2
      refine lv_iconst (v := 1) hx hb dX4_hasError_24 (by decide) ?_
      refine lv_goto (tgt := 29) hx hb dX4_hasError_25 (by decide) ?_
      exact W.zret (v := 1) hx hb hr (by decide) (fun T9 hT9 _ => ⟨by rw [show (1 : Int32) = b2i (f_hasError σ k) from (by first | rfl | (simp [f_hasError, b2i, c_1, c_2]; done))], hT9⟩) (fun _ h => by cases h) dX4_hasError_29
    · rw [b2i_eq0] at c_2
      refine lv_aload_n hx hb dX4_hasError_16 rfl (lv_at hl 0 rfl) ?_
      refine lv_aload_n hx hb dX4_hasError_17 rfl (lv_at hl 1 rfl) ?_
      refine sp_call (W.runV (As := [.ref (ad (9 + k))]) (rest := []) ⟨hx, hb, hml, hown, hts⟩ (c_X4_depthIsWrong l D ad cy pm rj σ k (by omega)) (cwV 1 hts gX4_hasError_X4_depthIsWrong rfl rfl rfl (by decide +kernel) ⟨Nat.le_of_ble_eq_true rfl, Nat.le_of_ble_eq_true rfl⟩) (sp_preV hK hP (κ := 430) (by decide) cE_proof rfl) rfl rfl hl.1 rfl (lv_room (Nat.le_of_ble_eq_true rfl)) dX4_hasError_18 ⟨Nat.le_of_ble_eq_true rfl, Nat.le_of_ble_eq_true rfl⟩) ?_
      refine W.eq (g2 := F0 m 21 ls [.int (b2i (f_uneven σ (f_before σ k) k))]) rfl ?_
      refine lv_if_eq (tgt := 28) hx hb dX4_hasError_21 (by decide) (fun c_3 => ?_) (fun c_3 => ?_)
      · rw [b2i_eq0] at c_3
        refine lv_iconst (v := 0) hx hb dX4_hasError_28 (by decide) ?_
        exact W.zret (v := 0) hx hb hr (by decide) (fun T9 hT9 _ => ⟨by rw [show (0 : Int32) = b2i (f_hasError σ k) from (by first | rfl | (simp [f_hasError, b2i, c_1, c_2, c_3]; done))], hT9⟩) (fun _ h => by cases h) dX4_hasError_29
      · rw [b2i_eq0] at c_3
        refine lv_iconst (v := 1) hx hb dX4_hasError_24 (by decide) ?_
        refine lv_goto (tgt := 29) hx hb dX4_hasError_25 (by decide) ?_
        exact W.zret (v := 1) hx hb hr (by decide) (fun T9 hT9 _ => ⟨by rw [show (1 : Int32) = b2i (f_hasError σ k) from (by first | rfl | (simp [f_hasError, b2i, c_1, c_2, c_3]; done))], hT9⟩) (fun _ h => by cases h) dX4_hasError_29

theorem wi_X4_errorsByPrints_X4 : ∀ w ∈ wsX40, w ∈ wsX4_errorsByPrints := by decide +kernel
theorem wi_X4_errorsByPrints_X0 : ∀ w ∈ wsX00, w ∈ wsX4_errorsByPrints := by decide +kernel
set_option maxHeartbeats 4000000 in
set_option maxRecDepth 100000 in
theorem c_X4_errorsByPrints (l : Launch) (D : va_G) (ad : Nat → Nat) (cy : Nat → ClassId) (pm : Nat → Nat) (rj : Option Nat) (σ : Nat → Nat → Int32) (t : Int32) : Met l yX4_errorsByPrints wsX4_errorsByPrints ({ frames := 3, cells := 0, slots := 0, locals := 67 } : Room) (sp_Pc D (tyG cy) [.ref (ad (430)), .int (t)] (cW ad cy pm rj σ)) (sp_S (some (.int (f_errs σ t)))) 0 0 (fun _ => False) := by
  refine Met.ofW (cc := cX4_errorsByPrints) (maxL := 8) (ret := (some .int)) (by decide) rfl ?_
  intro p e s m args below meth c s₁ B hml hv
  obtain ⟨rfl, hP, hK⟩ := hv
  have hx := B.exec
  have hb := B.bytes
  have hr := B.returns
  have hts := atoms_spec (ws := wsX4_errorsByPrints) B.pre
  have hown : s.vm.findClass RX4 = some m.cls := findClass_of_methodNamed B.named
  have hlocks := B.notSynchronized
  have hl := lv_entry ([.ref (ad (430)), .int (t)]) (n := 8) (Nat.le_of_ble_eq_true rfl)
  refine W.eq (lg_entry_eq _ ([.ref (ad (430)), .int (t)]) _) ?_
  generalize (lg_sl ([.ref (ad (430)), .int (t)]) ++ List.replicate (8 - (lg_sl ([.ref (ad (430)), .int (t)])).length) Slot.unset).toArray = ls at hl ⊢
  have hl : lv_has ls 8 [(0, .ref (ad (430))), (1, .int (t))] := hl
  refine lv_iconst (v := 0) hx hb dX4_errorsByPrints_0 (by decide) ?_
  refine lv_istore_n (lv' := [(2, .int (0)), (0, .ref (ad (430))), (1, .int (t))]) hx hb dX4_errorsByPrints_1 rfl hl (by decide) rfl (fun ls hl => ?_)
  refine lv_aload_n hx hb dX4_errorsByPrints_2 rfl (lv_at hl 1 rfl) ?_
  refine sp_get hx hb hts wi_X4_errorsByPrints_X4 hown hK hP (κ := 430) (by decide) cE_proof rfl 0 (by decide) (hts _ (List.mem_of_getElem? (i := 1) rfl)) (fun _ h => h) rfl dX4_errorsByPrints_3 ?_
  refine sp_get hx hb hts wi_X4_errorsByPrints_X0 hown hK hP (κ := 0) (by omega) (cE_beach (by omega) (by omega)) rfl 1 (by decide) (hts _ (List.mem_of_getElem? (i := 2) rfl)) (fun _ h => h) rfl dX4_errorsByPrints_6 ?_
  refine lv_astore_n (lv' := [(3, .ref (ad (2))), (2, .int (0)), (0, .ref (ad (430))), (1, .int (t))]) hx hb dX4_errorsByPrints_9 rfl hl (by decide) rfl (fun ls hl => ?_)
  refine lv_aload_n hx hb dX4_errorsByPrints_10 rfl (lv_at hl 0 rfl) ?_
  refine sp_alen hx hb hK hP (κ := 2) (by omega) 4 (cE_prints (by omega) (by omega)) rfl (v := 30) rfl dX4_errorsByPrints_11 ?_
  refine lv_istore (lv' := [(4, .int (30)), (3, .ref (ad (2))), (2, .int (0)), (0, .ref (ad (430))), (1, .int (t))]) hx hb dX4_errorsByPrints_12 hl (by decide) rfl (fun ls hl => ?_)
  refine lv_iconst (v := 0) hx hb dX4_errorsByPrints_14 (by decide) ?_
  refine lv_istore (lv' := [(5, .int (0)), (4, .int (30)), (3, .ref (ad (2))), (2, .int (0)), (0, .ref (ad (430))), (1, .int (t))]) hx hb dX4_errorsByPrints_15 hl (by decide) rfl (fun ls hl => ?_)
  have loop_17 : ∀ (n i : Nat) (x : Int32), (i ≤ 30) → (30 - i < n) → (x = foldI (F_err σ t) 0 i) → ∀ ls : Array Slot, lv_has ls 8 [(5, .int (nI i)), (4, .int (30)), (3, .ref (ad (2))), (2, .int (x)), (0, .ref (ad (430))), (1, .int (t))] → W p l e (headSpec wsX4_errorsByPrints ({ frames := 3, cells := 0, slots := 0, locals := 67 } : Room)).room s m ([.ref (ad (430)), .int (t)] : List Value).toArray below meth c s.heap [] 0 0 (MQ below (sp_S (some (.int (f_errs σ t)))) ([.ref (ad (430)), .int (t)] : List Value).toArray s 0 0 (fun _ => False)) (F0 m 17 ls []) := by
    intro n
    induction n with
    | zero => intro i x hle hlt hi_0 ls hl; exact absurd hlt (Nat.not_lt_zero _)
    | succ n ih =>
      intro i x hle hlt hi_0 ls hl
      refine lv_iload hx hb dX4_errorsByPrints_17 (lv_at hl 0 rfl) ?_
      refine lv_iload hx hb dX4_errorsByPrints_19 (lv_at hl 1 rfl) ?_
      refine lv_icmp_ge (tgt := 117) hx hb dX4_errorsByPrints_21 (by decide) (fun c_1 => ?_) (fun c_1 => ?_)
      · skip
        have c_1d := Int32.not_lt.mpr c_1
        have hx_i : i = 30 := by have := (nI_leI (a := 30) (b := i) (by omega) (by omega)).mp c_1; omega
        try rw [hx_i] at hi_0
        refine lv_iload_n hx hb dX4_errorsByPrints_117 rfl (lv_at hl 3 rfl) ?_
        exact W.iret (v := x) hx hb hr (fun T9 hT9 _ => ⟨by rw [show (x : Int32) = f_errs σ t from (by exact hi_0)], hT9⟩) (fun _ h => by cases h) dX4_errorsByPrints_118
      · skip
        have c_1d := Int32.not_le.mp c_1
        have hb_i : i < 30 := Nat.lt_of_not_le (fun z => c_1 (nI_le z (by omega)))
        refine lv_aload_n hx hb dX4_errorsByPrints_24 rfl (lv_at hl 2 rfl) ?_
        refine lv_iload hx hb dX4_errorsByPrints_25 (lv_at hl 0 rfl) ?_
        refine sp_aald hx hb hK hP (κ := 2) (by omega) 4 (cE_prints (by omega) (by omega)) rfl i rfl (by omega) (by decide) (q := ad (9 + i)) rfl dX4_errorsByPrints_27 ?_
        refine lv_astore (lv' := [(6, .ref (ad (9 + i))), (5, .int (nI i)), (4, .int (30)), (3, .ref (ad (2))), (2, .int (x)), (0, .ref (ad (430))), (1, .int (t))]) hx hb dX4_errorsByPrints_28 hl (by decide) rfl (fun ls hl => ?_)
        refine lv_aload hx hb dX4_errorsByPrints_30 (lv_at hl 0 rfl) ?_
        refine lv_iload_n hx hb dX4_errorsByPrints_32 rfl (lv_at hl 6 rfl) ?_
        refine sp_call (W.runV (As := [.int (t)]) (rest := []) ⟨hx, hb, hml, hown, hts⟩ (c_X3_isOn l D ad cy pm rj σ (9 + i) (by omega) (by omega) t) (cwV 1 hts gX4_errorsByPrints_X3_isOn rfl rfl rfl (by decide +kernel) ⟨Nat.le_of_ble_eq_true rfl, Nat.le_of_ble_eq_true rfl⟩) (sp_preV hK hP (κ := 9 + i) (by omega) (cE_print (by omega) (by omega)) rfl) rfl rfl hl.1 rfl (lv_room (Nat.le_of_ble_eq_true rfl)) dX4_errorsByPrints_33 ⟨Nat.le_of_ble_eq_true rfl, Nat.le_of_ble_eq_true rfl⟩) ?_
        refine W.eq (g2 := F0 m 36 ls [.int (b2i (f_isOn σ (9 + i) t))]) rfl ?_
        refine lv_if_eq (tgt := 51) hx hb dX4_errorsByPrints_36 (by decide) (fun c_2 => ?_) (fun c_2 => ?_)
        · rw [b2i_eq0] at c_2
          refine lv_null hx hb dX4_errorsByPrints_51 ?_
          refine lv_astoreN (lv' := [(7, .null), (6, .ref (ad (9 + i))), (5, .int (nI i)), (4, .int (30)), (3, .ref (ad (2))), (2, .int (x)), (0, .ref (ad (430))), (1, .int (t))]) hx hb dX4_errorsByPrints_52 hl (by decide) rfl (fun ls hl => ?_)
          refine lv_iload_n hx hb dX4_errorsByPrints_54 rfl (lv_at hl 5 rfl) ?_
          refine lv_aload_n hx hb dX4_errorsByPrints_55 rfl (lv_at hl 6 rfl) ?_
          refine lv_aloadN hx hb dX4_errorsByPrints_56 (lv_at hl 0 rfl) ?_
          refine lv_aload hx hb dX4_errorsByPrints_58 (lv_at hl 1 rfl) ?_
          refine sp_call (W.runV (As := [.null, .ref (ad (9 + i))]) (rest := [.int (x)]) ⟨hx, hb, hml, hown, hts⟩ (c_X4_isTooLong l D ad cy pm rj σ (none : Option Nat) (by intro j hj; first | (cases hj; done) | (cases hj; omega)) i (by omega)) (cwV 2 hts gX4_errorsByPrints_X4_isTooLong rfl rfl rfl (by decide +kernel) ⟨Nat.le_of_ble_eq_true rfl, Nat.le_of_ble_eq_true rfl⟩) (sp_preV hK hP (κ := 430) (by decide) cE_proof rfl) rfl rfl hl.1 rfl (lv_room (Nat.le_of_ble_eq_true rfl)) dX4_errorsByPrints_60 ⟨Nat.le_of_ble_eq_true rfl, Nat.le_of_ble_eq_true rfl⟩) ?_
          refine W.eq (g2 := F0 m 63 ls [.int (b2i (f_tooLong σ (none : Option Nat) i)), .int (x)]) rfl ?_
          refine lv_if_eq (tgt := 70) hx hb dX4_errorsByPrints_63 (by decide) (fun c_3 => ?_) (fun c_3 => ?_)
          · rw [b2i_eq0] at c_3
            refine lv_iconst (v := 0) hx hb dX4_errorsByPrints_70 (by decide) ?_
            refine lv_iadd hx hb dX4_errorsByPrints_71 ?_
            refine lv_istore_n (lv' := [(2, .int (x + 0)), (7, .null), (6, .ref (ad (9 + i))), (5, .int (nI i)), (4, .int (30)), (3, .ref (ad (2))), (0, .ref (ad (430))), (1, .int (t))]) hx hb dX4_errorsByPrints_72 rfl hl (by decide) rfl (fun ls hl => ?_)
            refine lv_iload_n hx hb dX4_errorsByPrints_73 rfl (lv_at hl 0 rfl) ?_
            refine lv_aload_n hx hb dX4_errorsByPrints_74 rfl (lv_at hl 6 rfl) ?_
            refine lv_aloadN hx hb dX4_errorsByPrints_75 (lv_at hl 1 rfl) ?_
            refine lv_aload hx hb dX4_errorsByPrints_77 (lv_at hl 2 rfl) ?_
            refine sp_call (W.runV (As := [.null, .ref (ad (9 + i))]) (rest := [.int (x + 0)]) ⟨hx, hb, hml, hown, hts⟩ (c_X4_isSameFoot l D ad cy pm rj σ (none : Option Nat) (by intro j hj; first | (cases hj; done) | (cases hj; omega)) i (by omega)) (cwV 2 hts gX4_errorsByPrints_X4_isSameFoot rfl rfl rfl (by decide +kernel) ⟨Nat.le_of_ble_eq_true rfl, Nat.le_of_ble_eq_true rfl⟩) (sp_preV hK hP (κ := 430) (by decide) cE_proof rfl) rfl rfl hl.1 rfl (lv_room (Nat.le_of_ble_eq_true rfl)) dX4_errorsByPrints_79 ⟨Nat.le_of_ble_eq_true rfl, Nat.le_of_ble_eq_true rfl⟩) ?_
            refine W.eq (g2 := F0 m 82 ls [.int (b2i (f_sameFoot σ (none : Option Nat) i)), .int (x + 0)]) rfl ?_
            refine lv_if_eq (tgt := 89) hx hb dX4_errorsByPrints_82 (by decide) (fun c_4 => ?_) (fun c_4 => ?_)
            · rw [b2i_eq0] at c_4
              refine lv_iconst (v := 0) hx hb dX4_errorsByPrints_89 (by decide) ?_
              refine lv_iadd hx hb dX4_errorsByPrints_90 ?_
              refine lv_istore_n (lv' := [(2, .int ((x + 0) + 0)), (7, .null), (6, .ref (ad (9 + i))), (5, .int (nI i)), (4, .int (30)), (3, .ref (ad (2))), (0, .ref (ad (430))), (1, .int (t))]) hx hb dX4_errorsByPrints_91 rfl hl (by decide) rfl (fun ls hl => ?_)
              refine lv_iload_n hx hb dX4_errorsByPrints_92 rfl (lv_at hl 0 rfl) ?_
              refine lv_aload_n hx hb dX4_errorsByPrints_93 rfl (lv_at hl 6 rfl) ?_
              refine lv_aloadN hx hb dX4_errorsByPrints_94 (lv_at hl 1 rfl) ?_
              refine lv_aload hx hb dX4_errorsByPrints_96 (lv_at hl 2 rfl) ?_
              refine sp_call (W.runV (As := [.null, .ref (ad (9 + i))]) (rest := [.int ((x + 0) + 0)]) ⟨hx, hb, hml, hown, hts⟩ (c_X4_isUneven l D ad cy pm rj σ (none : Option Nat) (by intro j hj; first | (cases hj; done) | (cases hj; omega)) i (by omega)) (cwV 2 hts gX4_errorsByPrints_X4_isUneven rfl rfl rfl (by decide +kernel) ⟨Nat.le_of_ble_eq_true rfl, Nat.le_of_ble_eq_true rfl⟩) (sp_preV hK hP (κ := 430) (by decide) cE_proof rfl) rfl rfl hl.1 rfl (lv_room (Nat.le_of_ble_eq_true rfl)) dX4_errorsByPrints_98 ⟨Nat.le_of_ble_eq_true rfl, Nat.le_of_ble_eq_true rfl⟩) ?_
              refine W.eq (g2 := F0 m 101 ls [.int (b2i (f_uneven σ (none : Option Nat) i)), .int ((x + 0) + 0)]) rfl ?_
              refine lv_if_eq (tgt := 108) hx hb dX4_errorsByPrints_101 (by decide) (fun c_5 => ?_) (fun c_5 => ?_)
              · rw [b2i_eq0] at c_5
                refine lv_iconst (v := 0) hx hb dX4_errorsByPrints_108 (by decide) ?_
                refine lv_iadd hx hb dX4_errorsByPrints_109 ?_
                refine lv_istore_n (lv' := [(2, .int (((x + 0) + 0) + 0)), (7, .null), (6, .ref (ad (9 + i))), (5, .int (nI i)), (4, .int (30)), (3, .ref (ad (2))), (0, .ref (ad (430))), (1, .int (t))]) hx hb dX4_errorsByPrints_110 rfl hl (by decide) rfl (fun ls hl => ?_)
                refine lv_iinc (v := nI (i + 1)) (lv' := [(5, .int (nI (i + 1))), (2, .int (((x + 0) + 0) + 0)), (7, .null), (6, .ref (ad (9 + i))), (4, .int (30)), (3, .ref (ad (2))), (0, .ref (ad (430))), (1, .int (t))]) hx hb dX4_errorsByPrints_111 hl (k := 3) rfl (nI_1 _) (by decide) rfl (fun ls hl => ?_)
                refine lv_goto (tgt := 17) hx hb dX4_errorsByPrints_114 (by decide) ?_
                exact ih (i + 1) (((x + 0) + 0) + 0) (by omega) (by omega) (by rw [foldI_succ, ← hi_0]; simp [b2i, f_errs, F_err, c_2, c_3, c_4, c_5]) ls (lv_sub hl [0, 4, 5, 1, 6, 7] rfl)
              · rw [b2i_eq0] at c_5
                refine lv_iconst (v := 1) hx hb dX4_errorsByPrints_104 (by decide) ?_
                refine lv_goto (tgt := 109) hx hb dX4_errorsByPrints_105 (by decide) ?_
                refine lv_iadd hx hb dX4_errorsByPrints_109 ?_
                refine lv_istore_n (lv' := [(2, .int (((x + 0) + 0) + 1)), (7, .null), (6, .ref (ad (9 + i))), (5, .int (nI i)), (4, .int (30)), (3, .ref (ad (2))), (0, .ref (ad (430))), (1, .int (t))]) hx hb dX4_errorsByPrints_110 rfl hl (by decide) rfl (fun ls hl => ?_)
                refine lv_iinc (v := nI (i + 1)) (lv' := [(5, .int (nI (i + 1))), (2, .int (((x + 0) + 0) + 1)), (7, .null), (6, .ref (ad (9 + i))), (4, .int (30)), (3, .ref (ad (2))), (0, .ref (ad (430))), (1, .int (t))]) hx hb dX4_errorsByPrints_111 hl (k := 3) rfl (nI_1 _) (by decide) rfl (fun ls hl => ?_)
                refine lv_goto (tgt := 17) hx hb dX4_errorsByPrints_114 (by decide) ?_
                exact ih (i + 1) (((x + 0) + 0) + 1) (by omega) (by omega) (by rw [foldI_succ, ← hi_0]; simp [b2i, f_errs, F_err, c_2, c_3, c_4, c_5]) ls (lv_sub hl [0, 4, 5, 1, 6, 7] rfl)
            · rw [b2i_eq0] at c_4
              refine lv_iconst (v := 1) hx hb dX4_errorsByPrints_85 (by decide) ?_
              refine lv_goto (tgt := 90) hx hb dX4_errorsByPrints_86 (by decide) ?_
              refine lv_iadd hx hb dX4_errorsByPrints_90 ?_
              refine lv_istore_n (lv' := [(2, .int ((x + 0) + 1)), (7, .null), (6, .ref (ad (9 + i))), (5, .int (nI i)), (4, .int (30)), (3, .ref (ad (2))), (0, .ref (ad (430))), (1, .int (t))]) hx hb dX4_errorsByPrints_91 rfl hl (by decide) rfl (fun ls hl => ?_)
              refine lv_iload_n hx hb dX4_errorsByPrints_92 rfl (lv_at hl 0 rfl) ?_
              refine lv_aload_n hx hb dX4_errorsByPrints_93 rfl (lv_at hl 6 rfl) ?_
              refine lv_aloadN hx hb dX4_errorsByPrints_94 (lv_at hl 1 rfl) ?_
              refine lv_aload hx hb dX4_errorsByPrints_96 (lv_at hl 2 rfl) ?_
              refine sp_call (W.runV (As := [.null, .ref (ad (9 + i))]) (rest := [.int ((x + 0) + 1)]) ⟨hx, hb, hml, hown, hts⟩ (c_X4_isUneven l D ad cy pm rj σ (none : Option Nat) (by intro j hj; first | (cases hj; done) | (cases hj; omega)) i (by omega)) (cwV 2 hts gX4_errorsByPrints_X4_isUneven rfl rfl rfl (by decide +kernel) ⟨Nat.le_of_ble_eq_true rfl, Nat.le_of_ble_eq_true rfl⟩) (sp_preV hK hP (κ := 430) (by decide) cE_proof rfl) rfl rfl hl.1 rfl (lv_room (Nat.le_of_ble_eq_true rfl)) dX4_errorsByPrints_98 ⟨Nat.le_of_ble_eq_true rfl, Nat.le_of_ble_eq_true rfl⟩) ?_
              refine W.eq (g2 := F0 m 101 ls [.int (b2i (f_uneven σ (none : Option Nat) i)), .int ((x + 0) + 1)]) rfl ?_
              refine lv_if_eq (tgt := 108) hx hb dX4_errorsByPrints_101 (by decide) (fun c_6 => ?_) (fun c_6 => ?_)
              · rw [b2i_eq0] at c_6
                refine lv_iconst (v := 0) hx hb dX4_errorsByPrints_108 (by decide) ?_
                refine lv_iadd hx hb dX4_errorsByPrints_109 ?_
                refine lv_istore_n (lv' := [(2, .int (((x + 0) + 1) + 0)), (7, .null), (6, .ref (ad (9 + i))), (5, .int (nI i)), (4, .int (30)), (3, .ref (ad (2))), (0, .ref (ad (430))), (1, .int (t))]) hx hb dX4_errorsByPrints_110 rfl hl (by decide) rfl (fun ls hl => ?_)
                refine lv_iinc (v := nI (i + 1)) (lv' := [(5, .int (nI (i + 1))), (2, .int (((x + 0) + 1) + 0)), (7, .null), (6, .ref (ad (9 + i))), (4, .int (30)), (3, .ref (ad (2))), (0, .ref (ad (430))), (1, .int (t))]) hx hb dX4_errorsByPrints_111 hl (k := 3) rfl (nI_1 _) (by decide) rfl (fun ls hl => ?_)
                refine lv_goto (tgt := 17) hx hb dX4_errorsByPrints_114 (by decide) ?_
                exact ih (i + 1) (((x + 0) + 1) + 0) (by omega) (by omega) (by rw [foldI_succ, ← hi_0]; simp [b2i, f_errs, F_err, c_2, c_3, c_4, c_6]) ls (lv_sub hl [0, 4, 5, 1, 6, 7] rfl)
              · rw [b2i_eq0] at c_6
                refine lv_iconst (v := 1) hx hb dX4_errorsByPrints_104 (by decide) ?_
                refine lv_goto (tgt := 109) hx hb dX4_errorsByPrints_105 (by decide) ?_
                refine lv_iadd hx hb dX4_errorsByPrints_109 ?_
                refine lv_istore_n (lv' := [(2, .int (((x + 0) + 1) + 1)), (7, .null), (6, .ref (ad (9 + i))), (5, .int (nI i)), (4, .int (30)), (3, .ref (ad (2))), (0, .ref (ad (430))), (1, .int (t))]) hx hb dX4_errorsByPrints_110 rfl hl (by decide) rfl (fun ls hl => ?_)
                refine lv_iinc (v := nI (i + 1)) (lv' := [(5, .int (nI (i + 1))), (2, .int (((x + 0) + 1) + 1)), (7, .null), (6, .ref (ad (9 + i))), (4, .int (30)), (3, .ref (ad (2))), (0, .ref (ad (430))), (1, .int (t))]) hx hb dX4_errorsByPrints_111 hl (k := 3) rfl (nI_1 _) (by decide) rfl (fun ls hl => ?_)
                refine lv_goto (tgt := 17) hx hb dX4_errorsByPrints_114 (by decide) ?_
                exact ih (i + 1) (((x + 0) + 1) + 1) (by omega) (by omega) (by rw [foldI_succ, ← hi_0]; simp [b2i, f_errs, F_err, c_2, c_3, c_4, c_6]) ls (lv_sub hl [0, 4, 5, 1, 6, 7] rfl)
          · rw [b2i_eq0] at c_3
            refine lv_iconst (v := 1) hx hb dX4_errorsByPrints_66 (by decide) ?_
            refine lv_goto (tgt := 71) hx hb dX4_errorsByPrints_67 (by decide) ?_
            refine lv_iadd hx hb dX4_errorsByPrints_71 ?_
            refine lv_istore_n (lv' := [(2, .int (x + 1)), (7, .null), (6, .ref (ad (9 + i))), (5, .int (nI i)), (4, .int (30)), (3, .ref (ad (2))), (0, .ref (ad (430))), (1, .int (t))]) hx hb dX4_errorsByPrints_72 rfl hl (by decide) rfl (fun ls hl => ?_)
            refine lv_iload_n hx hb dX4_errorsByPrints_73 rfl (lv_at hl 0 rfl) ?_
            refine lv_aload_n hx hb dX4_errorsByPrints_74 rfl (lv_at hl 6 rfl) ?_
            refine lv_aloadN hx hb dX4_errorsByPrints_75 (lv_at hl 1 rfl) ?_
            refine lv_aload hx hb dX4_errorsByPrints_77 (lv_at hl 2 rfl) ?_
            refine sp_call (W.runV (As := [.null, .ref (ad (9 + i))]) (rest := [.int (x + 1)]) ⟨hx, hb, hml, hown, hts⟩ (c_X4_isSameFoot l D ad cy pm rj σ (none : Option Nat) (by intro j hj; first | (cases hj; done) | (cases hj; omega)) i (by omega)) (cwV 2 hts gX4_errorsByPrints_X4_isSameFoot rfl rfl rfl (by decide +kernel) ⟨Nat.le_of_ble_eq_true rfl, Nat.le_of_ble_eq_true rfl⟩) (sp_preV hK hP (κ := 430) (by decide) cE_proof rfl) rfl rfl hl.1 rfl (lv_room (Nat.le_of_ble_eq_true rfl)) dX4_errorsByPrints_79 ⟨Nat.le_of_ble_eq_true rfl, Nat.le_of_ble_eq_true rfl⟩) ?_
            refine W.eq (g2 := F0 m 82 ls [.int (b2i (f_sameFoot σ (none : Option Nat) i)), .int (x + 1)]) rfl ?_
            refine lv_if_eq (tgt := 89) hx hb dX4_errorsByPrints_82 (by decide) (fun c_7 => ?_) (fun c_7 => ?_)
            · rw [b2i_eq0] at c_7
              refine lv_iconst (v := 0) hx hb dX4_errorsByPrints_89 (by decide) ?_
              refine lv_iadd hx hb dX4_errorsByPrints_90 ?_
              refine lv_istore_n (lv' := [(2, .int ((x + 1) + 0)), (7, .null), (6, .ref (ad (9 + i))), (5, .int (nI i)), (4, .int (30)), (3, .ref (ad (2))), (0, .ref (ad (430))), (1, .int (t))]) hx hb dX4_errorsByPrints_91 rfl hl (by decide) rfl (fun ls hl => ?_)
              refine lv_iload_n hx hb dX4_errorsByPrints_92 rfl (lv_at hl 0 rfl) ?_
              refine lv_aload_n hx hb dX4_errorsByPrints_93 rfl (lv_at hl 6 rfl) ?_
              refine lv_aloadN hx hb dX4_errorsByPrints_94 (lv_at hl 1 rfl) ?_
              refine lv_aload hx hb dX4_errorsByPrints_96 (lv_at hl 2 rfl) ?_
              refine sp_call (W.runV (As := [.null, .ref (ad (9 + i))]) (rest := [.int ((x + 1) + 0)]) ⟨hx, hb, hml, hown, hts⟩ (c_X4_isUneven l D ad cy pm rj σ (none : Option Nat) (by intro j hj; first | (cases hj; done) | (cases hj; omega)) i (by omega)) (cwV 2 hts gX4_errorsByPrints_X4_isUneven rfl rfl rfl (by decide +kernel) ⟨Nat.le_of_ble_eq_true rfl, Nat.le_of_ble_eq_true rfl⟩) (sp_preV hK hP (κ := 430) (by decide) cE_proof rfl) rfl rfl hl.1 rfl (lv_room (Nat.le_of_ble_eq_true rfl)) dX4_errorsByPrints_98 ⟨Nat.le_of_ble_eq_true rfl, Nat.le_of_ble_eq_true rfl⟩) ?_
              refine W.eq (g2 := F0 m 101 ls [.int (b2i (f_uneven σ (none : Option Nat) i)), .int ((x + 1) + 0)]) rfl ?_
              refine lv_if_eq (tgt := 108) hx hb dX4_errorsByPrints_101 (by decide) (fun c_8 => ?_) (fun c_8 => ?_)
              · rw [b2i_eq0] at c_8
                refine lv_iconst (v := 0) hx hb dX4_errorsByPrints_108 (by decide) ?_
                refine lv_iadd hx hb dX4_errorsByPrints_109 ?_
                refine lv_istore_n (lv' := [(2, .int (((x + 1) + 0) + 0)), (7, .null), (6, .ref (ad (9 + i))), (5, .int (nI i)), (4, .int (30)), (3, .ref (ad (2))), (0, .ref (ad (430))), (1, .int (t))]) hx hb dX4_errorsByPrints_110 rfl hl (by decide) rfl (fun ls hl => ?_)
                refine lv_iinc (v := nI (i + 1)) (lv' := [(5, .int (nI (i + 1))), (2, .int (((x + 1) + 0) + 0)), (7, .null), (6, .ref (ad (9 + i))), (4, .int (30)), (3, .ref (ad (2))), (0, .ref (ad (430))), (1, .int (t))]) hx hb dX4_errorsByPrints_111 hl (k := 3) rfl (nI_1 _) (by decide) rfl (fun ls hl => ?_)
                refine lv_goto (tgt := 17) hx hb dX4_errorsByPrints_114 (by decide) ?_
                exact ih (i + 1) (((x + 1) + 0) + 0) (by omega) (by omega) (by rw [foldI_succ, ← hi_0]; simp [b2i, f_errs, F_err, c_2, c_3, c_7, c_8]) ls (lv_sub hl [0, 4, 5, 1, 6, 7] rfl)
              · rw [b2i_eq0] at c_8
                refine lv_iconst (v := 1) hx hb dX4_errorsByPrints_104 (by decide) ?_
                refine lv_goto (tgt := 109) hx hb dX4_errorsByPrints_105 (by decide) ?_
                refine lv_iadd hx hb dX4_errorsByPrints_109 ?_
                refine lv_istore_n (lv' := [(2, .int (((x + 1) + 0) + 1)), (7, .null), (6, .ref (ad (9 + i))), (5, .int (nI i)), (4, .int (30)), (3, .ref (ad (2))), (0, .ref (ad (430))), (1, .int (t))]) hx hb dX4_errorsByPrints_110 rfl hl (by decide) rfl (fun ls hl => ?_)
                refine lv_iinc (v := nI (i + 1)) (lv' := [(5, .int (nI (i + 1))), (2, .int (((x + 1) + 0) + 1)), (7, .null), (6, .ref (ad (9 + i))), (4, .int (30)), (3, .ref (ad (2))), (0, .ref (ad (430))), (1, .int (t))]) hx hb dX4_errorsByPrints_111 hl (k := 3) rfl (nI_1 _) (by decide) rfl (fun ls hl => ?_)
                refine lv_goto (tgt := 17) hx hb dX4_errorsByPrints_114 (by decide) ?_
                exact ih (i + 1) (((x + 1) + 0) + 1) (by omega) (by omega) (by rw [foldI_succ, ← hi_0]; simp [b2i, f_errs, F_err, c_2, c_3, c_7, c_8]) ls (lv_sub hl [0, 4, 5, 1, 6, 7] rfl)
            · rw [b2i_eq0] at c_7
              refine lv_iconst (v := 1) hx hb dX4_errorsByPrints_85 (by decide) ?_
              refine lv_goto (tgt := 90) hx hb dX4_errorsByPrints_86 (by decide) ?_
              refine lv_iadd hx hb dX4_errorsByPrints_90 ?_
              refine lv_istore_n (lv' := [(2, .int ((x + 1) + 1)), (7, .null), (6, .ref (ad (9 + i))), (5, .int (nI i)), (4, .int (30)), (3, .ref (ad (2))), (0, .ref (ad (430))), (1, .int (t))]) hx hb dX4_errorsByPrints_91 rfl hl (by decide) rfl (fun ls hl => ?_)
              refine lv_iload_n hx hb dX4_errorsByPrints_92 rfl (lv_at hl 0 rfl) ?_
              refine lv_aload_n hx hb dX4_errorsByPrints_93 rfl (lv_at hl 6 rfl) ?_
              refine lv_aloadN hx hb dX4_errorsByPrints_94 (lv_at hl 1 rfl) ?_
              refine lv_aload hx hb dX4_errorsByPrints_96 (lv_at hl 2 rfl) ?_
              refine sp_call (W.runV (As := [.null, .ref (ad (9 + i))]) (rest := [.int ((x + 1) + 1)]) ⟨hx, hb, hml, hown, hts⟩ (c_X4_isUneven l D ad cy pm rj σ (none : Option Nat) (by intro j hj; first | (cases hj; done) | (cases hj; omega)) i (by omega)) (cwV 2 hts gX4_errorsByPrints_X4_isUneven rfl rfl rfl (by decide +kernel) ⟨Nat.le_of_ble_eq_true rfl, Nat.le_of_ble_eq_true rfl⟩) (sp_preV hK hP (κ := 430) (by decide) cE_proof rfl) rfl rfl hl.1 rfl (lv_room (Nat.le_of_ble_eq_true rfl)) dX4_errorsByPrints_98 ⟨Nat.le_of_ble_eq_true rfl, Nat.le_of_ble_eq_true rfl⟩) ?_
              refine W.eq (g2 := F0 m 101 ls [.int (b2i (f_uneven σ (none : Option Nat) i)), .int ((x + 1) + 1)]) rfl ?_
              refine lv_if_eq (tgt := 108) hx hb dX4_errorsByPrints_101 (by decide) (fun c_9 => ?_) (fun c_9 => ?_)
              · rw [b2i_eq0] at c_9
                refine lv_iconst (v := 0) hx hb dX4_errorsByPrints_108 (by decide) ?_
                refine lv_iadd hx hb dX4_errorsByPrints_109 ?_
                refine lv_istore_n (lv' := [(2, .int (((x + 1) + 1) + 0)), (7, .null), (6, .ref (ad (9 + i))), (5, .int (nI i)), (4, .int (30)), (3, .ref (ad (2))), (0, .ref (ad (430))), (1, .int (t))]) hx hb dX4_errorsByPrints_110 rfl hl (by decide) rfl (fun ls hl => ?_)
                refine lv_iinc (v := nI (i + 1)) (lv' := [(5, .int (nI (i + 1))), (2, .int (((x + 1) + 1) + 0)), (7, .null), (6, .ref (ad (9 + i))), (4, .int (30)), (3, .ref (ad (2))), (0, .ref (ad (430))), (1, .int (t))]) hx hb dX4_errorsByPrints_111 hl (k := 3) rfl (nI_1 _) (by decide) rfl (fun ls hl => ?_)
                refine lv_goto (tgt := 17) hx hb dX4_errorsByPrints_114 (by decide) ?_
                exact ih (i + 1) (((x + 1) + 1) + 0) (by omega) (by omega) (by rw [foldI_succ, ← hi_0]; simp [b2i, f_errs, F_err, c_2, c_3, c_7, c_9]) ls (lv_sub hl [0, 4, 5, 1, 6, 7] rfl)
              · rw [b2i_eq0] at c_9
                refine lv_iconst (v := 1) hx hb dX4_errorsByPrints_104 (by decide) ?_
                refine lv_goto (tgt := 109) hx hb dX4_errorsByPrints_105 (by decide) ?_
                refine lv_iadd hx hb dX4_errorsByPrints_109 ?_
                refine lv_istore_n (lv' := [(2, .int (((x + 1) + 1) + 1)), (7, .null), (6, .ref (ad (9 + i))), (5, .int (nI i)), (4, .int (30)), (3, .ref (ad (2))), (0, .ref (ad (430))), (1, .int (t))]) hx hb dX4_errorsByPrints_110 rfl hl (by decide) rfl (fun ls hl => ?_)
                refine lv_iinc (v := nI (i + 1)) (lv' := [(5, .int (nI (i + 1))), (2, .int (((x + 1) + 1) + 1)), (7, .null), (6, .ref (ad (9 + i))), (4, .int (30)), (3, .ref (ad (2))), (0, .ref (ad (430))), (1, .int (t))]) hx hb dX4_errorsByPrints_111 hl (k := 3) rfl (nI_1 _) (by decide) rfl (fun ls hl => ?_)
                refine lv_goto (tgt := 17) hx hb dX4_errorsByPrints_114 (by decide) ?_
                exact ih (i + 1) (((x + 1) + 1) + 1) (by omega) (by omega) (by rw [foldI_succ, ← hi_0]; simp [b2i, f_errs, F_err, c_2, c_3, c_7, c_9]) ls (lv_sub hl [0, 4, 5, 1, 6, 7] rfl)
        · rw [b2i_eq0] at c_2
          refine lv_aload_n hx hb dX4_errorsByPrints_39 rfl (lv_at hl 5 rfl) ?_
          refine sp_get hx hb hts wi_X4_errorsByPrints_X4 hown hK hP (κ := 430) (by decide) cE_proof rfl 0 (by decide) (hts _ (List.mem_of_getElem? (i := 1) rfl)) (fun _ h => h) rfl dX4_errorsByPrints_40 ?_
          refine lv_aload hx hb dX4_errorsByPrints_43 (lv_at hl 0 rfl) ?_
          refine sp_call (W.runV (As := [.ref (ad (9 + i))]) (rest := []) ⟨hx, hb, hml, hown, hts⟩ (c_X0_before l D ad cy pm rj σ i (by omega)) (cwV 1 hts gX4_errorsByPrints_X0_before rfl rfl rfl (by decide +kernel) ⟨Nat.le_of_ble_eq_true rfl, Nat.le_of_ble_eq_true rfl⟩) (sp_preV hK hP (κ := 0) (by omega) (cE_beach (by omega) (by omega)) rfl) rfl rfl hl.1 rfl (lv_room (Nat.le_of_ble_eq_true rfl)) dX4_errorsByPrints_45 ⟨Nat.le_of_ble_eq_true rfl, Nat.le_of_ble_eq_true rfl⟩) ?_
          rcases q_10 : f_before σ i with _ | j_11
          · refine W.eq (g2 := F0 m 48 ls [.null]) rfl ?_
            refine lv_goto (tgt := 52) hx hb dX4_errorsByPrints_48 (by decide) ?_
            refine lv_astoreN (lv' := [(7, .null), (6, .ref (ad (9 + i))), (5, .int (nI i)), (4, .int (30)), (3, .ref (ad (2))), (2, .int (x)), (0, .ref (ad (430))), (1, .int (t))]) hx hb dX4_errorsByPrints_52 hl (by decide) rfl (fun ls hl => ?_)
            refine lv_iload_n hx hb dX4_errorsByPrints_54 rfl (lv_at hl 5 rfl) ?_
            refine lv_aload_n hx hb dX4_errorsByPrints_55 rfl (lv_at hl 6 rfl) ?_
            refine lv_aloadN hx hb dX4_errorsByPrints_56 (lv_at hl 0 rfl) ?_
            refine lv_aload hx hb dX4_errorsByPrints_58 (lv_at hl 1 rfl) ?_
            refine sp_call (W.runV (As := [.null, .ref (ad (9 + i))]) (rest := [.int (x)]) ⟨hx, hb, hml, hown, hts⟩ (c_X4_isTooLong l D ad cy pm rj σ (none : Option Nat) (by intro j hj; first | (cases hj; done) | (cases hj; omega)) i (by omega)) (cwV 2 hts gX4_errorsByPrints_X4_isTooLong rfl rfl rfl (by decide +kernel) ⟨Nat.le_of_ble_eq_true rfl, Nat.le_of_ble_eq_true rfl⟩) (sp_preV hK hP (κ := 430) (by decide) cE_proof rfl) rfl rfl hl.1 rfl (lv_room (Nat.le_of_ble_eq_true rfl)) dX4_errorsByPrints_60 ⟨Nat.le_of_ble_eq_true rfl, Nat.le_of_ble_eq_true rfl⟩) ?_
            refine W.eq (g2 := F0 m 63 ls [.int (b2i (f_tooLong σ (none : Option Nat) i)), .int (x)]) rfl ?_
            refine lv_if_eq (tgt := 70) hx hb dX4_errorsByPrints_63 (by decide) (fun c_12 => ?_) (fun c_12 => ?_)
            · rw [b2i_eq0] at c_12
              refine lv_iconst (v := 0) hx hb dX4_errorsByPrints_70 (by decide) ?_
              refine lv_iadd hx hb dX4_errorsByPrints_71 ?_
              refine lv_istore_n (lv' := [(2, .int (x + 0)), (7, .null), (6, .ref (ad (9 + i))), (5, .int (nI i)), (4, .int (30)), (3, .ref (ad (2))), (0, .ref (ad (430))), (1, .int (t))]) hx hb dX4_errorsByPrints_72 rfl hl (by decide) rfl (fun ls hl => ?_)
              refine lv_iload_n hx hb dX4_errorsByPrints_73 rfl (lv_at hl 0 rfl) ?_
              refine lv_aload_n hx hb dX4_errorsByPrints_74 rfl (lv_at hl 6 rfl) ?_
              refine lv_aloadN hx hb dX4_errorsByPrints_75 (lv_at hl 1 rfl) ?_
              refine lv_aload hx hb dX4_errorsByPrints_77 (lv_at hl 2 rfl) ?_
              refine sp_call (W.runV (As := [.null, .ref (ad (9 + i))]) (rest := [.int (x + 0)]) ⟨hx, hb, hml, hown, hts⟩ (c_X4_isSameFoot l D ad cy pm rj σ (none : Option Nat) (by intro j hj; first | (cases hj; done) | (cases hj; omega)) i (by omega)) (cwV 2 hts gX4_errorsByPrints_X4_isSameFoot rfl rfl rfl (by decide +kernel) ⟨Nat.le_of_ble_eq_true rfl, Nat.le_of_ble_eq_true rfl⟩) (sp_preV hK hP (κ := 430) (by decide) cE_proof rfl) rfl rfl hl.1 rfl (lv_room (Nat.le_of_ble_eq_true rfl)) dX4_errorsByPrints_79 ⟨Nat.le_of_ble_eq_true rfl, Nat.le_of_ble_eq_true rfl⟩) ?_
              refine W.eq (g2 := F0 m 82 ls [.int (b2i (f_sameFoot σ (none : Option Nat) i)), .int (x + 0)]) rfl ?_
              refine lv_if_eq (tgt := 89) hx hb dX4_errorsByPrints_82 (by decide) (fun c_13 => ?_) (fun c_13 => ?_)
              · rw [b2i_eq0] at c_13
                refine lv_iconst (v := 0) hx hb dX4_errorsByPrints_89 (by decide) ?_
                refine lv_iadd hx hb dX4_errorsByPrints_90 ?_
                refine lv_istore_n (lv' := [(2, .int ((x + 0) + 0)), (7, .null), (6, .ref (ad (9 + i))), (5, .int (nI i)), (4, .int (30)), (3, .ref (ad (2))), (0, .ref (ad (430))), (1, .int (t))]) hx hb dX4_errorsByPrints_91 rfl hl (by decide) rfl (fun ls hl => ?_)
                refine lv_iload_n hx hb dX4_errorsByPrints_92 rfl (lv_at hl 0 rfl) ?_
                refine lv_aload_n hx hb dX4_errorsByPrints_93 rfl (lv_at hl 6 rfl) ?_
                refine lv_aloadN hx hb dX4_errorsByPrints_94 (lv_at hl 1 rfl) ?_
                refine lv_aload hx hb dX4_errorsByPrints_96 (lv_at hl 2 rfl) ?_
                refine sp_call (W.runV (As := [.null, .ref (ad (9 + i))]) (rest := [.int ((x + 0) + 0)]) ⟨hx, hb, hml, hown, hts⟩ (c_X4_isUneven l D ad cy pm rj σ (none : Option Nat) (by intro j hj; first | (cases hj; done) | (cases hj; omega)) i (by omega)) (cwV 2 hts gX4_errorsByPrints_X4_isUneven rfl rfl rfl (by decide +kernel) ⟨Nat.le_of_ble_eq_true rfl, Nat.le_of_ble_eq_true rfl⟩) (sp_preV hK hP (κ := 430) (by decide) cE_proof rfl) rfl rfl hl.1 rfl (lv_room (Nat.le_of_ble_eq_true rfl)) dX4_errorsByPrints_98 ⟨Nat.le_of_ble_eq_true rfl, Nat.le_of_ble_eq_true rfl⟩) ?_
                refine W.eq (g2 := F0 m 101 ls [.int (b2i (f_uneven σ (none : Option Nat) i)), .int ((x + 0) + 0)]) rfl ?_
                refine lv_if_eq (tgt := 108) hx hb dX4_errorsByPrints_101 (by decide) (fun c_14 => ?_) (fun c_14 => ?_)
                · rw [b2i_eq0] at c_14
                  refine lv_iconst (v := 0) hx hb dX4_errorsByPrints_108 (by decide) ?_
                  refine lv_iadd hx hb dX4_errorsByPrints_109 ?_
                  refine lv_istore_n (lv' := [(2, .int (((x + 0) + 0) + 0)), (7, .null), (6, .ref (ad (9 + i))), (5, .int (nI i)), (4, .int (30)), (3, .ref (ad (2))), (0, .ref (ad (430))), (1, .int (t))]) hx hb dX4_errorsByPrints_110 rfl hl (by decide) rfl (fun ls hl => ?_)
                  refine lv_iinc (v := nI (i + 1)) (lv' := [(5, .int (nI (i + 1))), (2, .int (((x + 0) + 0) + 0)), (7, .null), (6, .ref (ad (9 + i))), (4, .int (30)), (3, .ref (ad (2))), (0, .ref (ad (430))), (1, .int (t))]) hx hb dX4_errorsByPrints_111 hl (k := 3) rfl (nI_1 _) (by decide) rfl (fun ls hl => ?_)
                  refine lv_goto (tgt := 17) hx hb dX4_errorsByPrints_114 (by decide) ?_
                  exact ih (i + 1) (((x + 0) + 0) + 0) (by omega) (by omega) (by rw [foldI_succ, ← hi_0]; simp [b2i, f_errs, F_err, c_2, q_10, c_12, c_13, c_14]) ls (lv_sub hl [0, 4, 5, 1, 6, 7] rfl)
                · rw [b2i_eq0] at c_14
                  refine lv_iconst (v := 1) hx hb dX4_errorsByPrints_104 (by decide) ?_
                  refine lv_goto (tgt := 109) hx hb dX4_errorsByPrints_105 (by decide) ?_
                  refine lv_iadd hx hb dX4_errorsByPrints_109 ?_
                  refine lv_istore_n (lv' := [(2, .int (((x + 0) + 0) + 1)), (7, .null), (6, .ref (ad (9 + i))), (5, .int (nI i)), (4, .int (30)), (3, .ref (ad (2))), (0, .ref (ad (430))), (1, .int (t))]) hx hb dX4_errorsByPrints_110 rfl hl (by decide) rfl (fun ls hl => ?_)
                  refine lv_iinc (v := nI (i + 1)) (lv' := [(5, .int (nI (i + 1))), (2, .int (((x + 0) + 0) + 1)), (7, .null), (6, .ref (ad (9 + i))), (4, .int (30)), (3, .ref (ad (2))), (0, .ref (ad (430))), (1, .int (t))]) hx hb dX4_errorsByPrints_111 hl (k := 3) rfl (nI_1 _) (by decide) rfl (fun ls hl => ?_)
                  refine lv_goto (tgt := 17) hx hb dX4_errorsByPrints_114 (by decide) ?_
                  exact ih (i + 1) (((x + 0) + 0) + 1) (by omega) (by omega) (by rw [foldI_succ, ← hi_0]; simp [b2i, f_errs, F_err, c_2, q_10, c_12, c_13, c_14]) ls (lv_sub hl [0, 4, 5, 1, 6, 7] rfl)
              · rw [b2i_eq0] at c_13
                refine lv_iconst (v := 1) hx hb dX4_errorsByPrints_85 (by decide) ?_
                refine lv_goto (tgt := 90) hx hb dX4_errorsByPrints_86 (by decide) ?_
                refine lv_iadd hx hb dX4_errorsByPrints_90 ?_
                refine lv_istore_n (lv' := [(2, .int ((x + 0) + 1)), (7, .null), (6, .ref (ad (9 + i))), (5, .int (nI i)), (4, .int (30)), (3, .ref (ad (2))), (0, .ref (ad (430))), (1, .int (t))]) hx hb dX4_errorsByPrints_91 rfl hl (by decide) rfl (fun ls hl => ?_)
                refine lv_iload_n hx hb dX4_errorsByPrints_92 rfl (lv_at hl 0 rfl) ?_
                refine lv_aload_n hx hb dX4_errorsByPrints_93 rfl (lv_at hl 6 rfl) ?_
                refine lv_aloadN hx hb dX4_errorsByPrints_94 (lv_at hl 1 rfl) ?_
                refine lv_aload hx hb dX4_errorsByPrints_96 (lv_at hl 2 rfl) ?_
                refine sp_call (W.runV (As := [.null, .ref (ad (9 + i))]) (rest := [.int ((x + 0) + 1)]) ⟨hx, hb, hml, hown, hts⟩ (c_X4_isUneven l D ad cy pm rj σ (none : Option Nat) (by intro j hj; first | (cases hj; done) | (cases hj; omega)) i (by omega)) (cwV 2 hts gX4_errorsByPrints_X4_isUneven rfl rfl rfl (by decide +kernel) ⟨Nat.le_of_ble_eq_true rfl, Nat.le_of_ble_eq_true rfl⟩) (sp_preV hK hP (κ := 430) (by decide) cE_proof rfl) rfl rfl hl.1 rfl (lv_room (Nat.le_of_ble_eq_true rfl)) dX4_errorsByPrints_98 ⟨Nat.le_of_ble_eq_true rfl, Nat.le_of_ble_eq_true rfl⟩) ?_
                refine W.eq (g2 := F0 m 101 ls [.int (b2i (f_uneven σ (none : Option Nat) i)), .int ((x + 0) + 1)]) rfl ?_
                refine lv_if_eq (tgt := 108) hx hb dX4_errorsByPrints_101 (by decide) (fun c_15 => ?_) (fun c_15 => ?_)
                · rw [b2i_eq0] at c_15
                  refine lv_iconst (v := 0) hx hb dX4_errorsByPrints_108 (by decide) ?_
                  refine lv_iadd hx hb dX4_errorsByPrints_109 ?_
                  refine lv_istore_n (lv' := [(2, .int (((x + 0) + 1) + 0)), (7, .null), (6, .ref (ad (9 + i))), (5, .int (nI i)), (4, .int (30)), (3, .ref (ad (2))), (0, .ref (ad (430))), (1, .int (t))]) hx hb dX4_errorsByPrints_110 rfl hl (by decide) rfl (fun ls hl => ?_)
                  refine lv_iinc (v := nI (i + 1)) (lv' := [(5, .int (nI (i + 1))), (2, .int (((x + 0) + 1) + 0)), (7, .null), (6, .ref (ad (9 + i))), (4, .int (30)), (3, .ref (ad (2))), (0, .ref (ad (430))), (1, .int (t))]) hx hb dX4_errorsByPrints_111 hl (k := 3) rfl (nI_1 _) (by decide) rfl (fun ls hl => ?_)
                  refine lv_goto (tgt := 17) hx hb dX4_errorsByPrints_114 (by decide) ?_
                  exact ih (i + 1) (((x + 0) + 1) + 0) (by omega) (by omega) (by rw [foldI_succ, ← hi_0]; simp [b2i, f_errs, F_err, c_2, q_10, c_12, c_13, c_15]) ls (lv_sub hl [0, 4, 5, 1, 6, 7] rfl)
                · rw [b2i_eq0] at c_15
                  refine lv_iconst (v := 1) hx hb dX4_errorsByPrints_104 (by decide) ?_
                  refine lv_goto (tgt := 109) hx hb dX4_errorsByPrints_105 (by decide) ?_
                  refine lv_iadd hx hb dX4_errorsByPrints_109 ?_
                  refine lv_istore_n (lv' := [(2, .int (((x + 0) + 1) + 1)), (7, .null), (6, .ref (ad (9 + i))), (5, .int (nI i)), (4, .int (30)), (3, .ref (ad (2))), (0, .ref (ad (430))), (1, .int (t))]) hx hb dX4_errorsByPrints_110 rfl hl (by decide) rfl (fun ls hl => ?_)
                  refine lv_iinc (v := nI (i + 1)) (lv' := [(5, .int (nI (i + 1))), (2, .int (((x + 0) + 1) + 1)), (7, .null), (6, .ref (ad (9 + i))), (4, .int (30)), (3, .ref (ad (2))), (0, .ref (ad (430))), (1, .int (t))]) hx hb dX4_errorsByPrints_111 hl (k := 3) rfl (nI_1 _) (by decide) rfl (fun ls hl => ?_)
                  refine lv_goto (tgt := 17) hx hb dX4_errorsByPrints_114 (by decide) ?_
                  exact ih (i + 1) (((x + 0) + 1) + 1) (by omega) (by omega) (by rw [foldI_succ, ← hi_0]; simp [b2i, f_errs, F_err, c_2, q_10, c_12, c_13, c_15]) ls (lv_sub hl [0, 4, 5, 1, 6, 7] rfl)
            · rw [b2i_eq0] at c_12
              refine lv_iconst (v := 1) hx hb dX4_errorsByPrints_66 (by decide) ?_
              refine lv_goto (tgt := 71) hx hb dX4_errorsByPrints_67 (by decide) ?_
              refine lv_iadd hx hb dX4_errorsByPrints_71 ?_
              refine lv_istore_n (lv' := [(2, .int (x + 1)), (7, .null), (6, .ref (ad (9 + i))), (5, .int (nI i)), (4, .int (30)), (3, .ref (ad (2))), (0, .ref (ad (430))), (1, .int (t))]) hx hb dX4_errorsByPrints_72 rfl hl (by decide) rfl (fun ls hl => ?_)
              refine lv_iload_n hx hb dX4_errorsByPrints_73 rfl (lv_at hl 0 rfl) ?_
              refine lv_aload_n hx hb dX4_errorsByPrints_74 rfl (lv_at hl 6 rfl) ?_
              refine lv_aloadN hx hb dX4_errorsByPrints_75 (lv_at hl 1 rfl) ?_
              refine lv_aload hx hb dX4_errorsByPrints_77 (lv_at hl 2 rfl) ?_
              refine sp_call (W.runV (As := [.null, .ref (ad (9 + i))]) (rest := [.int (x + 1)]) ⟨hx, hb, hml, hown, hts⟩ (c_X4_isSameFoot l D ad cy pm rj σ (none : Option Nat) (by intro j hj; first | (cases hj; done) | (cases hj; omega)) i (by omega)) (cwV 2 hts gX4_errorsByPrints_X4_isSameFoot rfl rfl rfl (by decide +kernel) ⟨Nat.le_of_ble_eq_true rfl, Nat.le_of_ble_eq_true rfl⟩) (sp_preV hK hP (κ := 430) (by decide) cE_proof rfl) rfl rfl hl.1 rfl (lv_room (Nat.le_of_ble_eq_true rfl)) dX4_errorsByPrints_79 ⟨Nat.le_of_ble_eq_true rfl, Nat.le_of_ble_eq_true rfl⟩) ?_
              refine W.eq (g2 := F0 m 82 ls [.int (b2i (f_sameFoot σ (none : Option Nat) i)), .int (x + 1)]) rfl ?_
              refine lv_if_eq (tgt := 89) hx hb dX4_errorsByPrints_82 (by decide) (fun c_16 => ?_) (fun c_16 => ?_)
              · rw [b2i_eq0] at c_16
                refine lv_iconst (v := 0) hx hb dX4_errorsByPrints_89 (by decide) ?_
                refine lv_iadd hx hb dX4_errorsByPrints_90 ?_
                refine lv_istore_n (lv' := [(2, .int ((x + 1) + 0)), (7, .null), (6, .ref (ad (9 + i))), (5, .int (nI i)), (4, .int (30)), (3, .ref (ad (2))), (0, .ref (ad (430))), (1, .int (t))]) hx hb dX4_errorsByPrints_91 rfl hl (by decide) rfl (fun ls hl => ?_)
                refine lv_iload_n hx hb dX4_errorsByPrints_92 rfl (lv_at hl 0 rfl) ?_
                refine lv_aload_n hx hb dX4_errorsByPrints_93 rfl (lv_at hl 6 rfl) ?_
                refine lv_aloadN hx hb dX4_errorsByPrints_94 (lv_at hl 1 rfl) ?_
                refine lv_aload hx hb dX4_errorsByPrints_96 (lv_at hl 2 rfl) ?_
                refine sp_call (W.runV (As := [.null, .ref (ad (9 + i))]) (rest := [.int ((x + 1) + 0)]) ⟨hx, hb, hml, hown, hts⟩ (c_X4_isUneven l D ad cy pm rj σ (none : Option Nat) (by intro j hj; first | (cases hj; done) | (cases hj; omega)) i (by omega)) (cwV 2 hts gX4_errorsByPrints_X4_isUneven rfl rfl rfl (by decide +kernel) ⟨Nat.le_of_ble_eq_true rfl, Nat.le_of_ble_eq_true rfl⟩) (sp_preV hK hP (κ := 430) (by decide) cE_proof rfl) rfl rfl hl.1 rfl (lv_room (Nat.le_of_ble_eq_true rfl)) dX4_errorsByPrints_98 ⟨Nat.le_of_ble_eq_true rfl, Nat.le_of_ble_eq_true rfl⟩) ?_
                refine W.eq (g2 := F0 m 101 ls [.int (b2i (f_uneven σ (none : Option Nat) i)), .int ((x + 1) + 0)]) rfl ?_
                refine lv_if_eq (tgt := 108) hx hb dX4_errorsByPrints_101 (by decide) (fun c_17 => ?_) (fun c_17 => ?_)
                · rw [b2i_eq0] at c_17
                  refine lv_iconst (v := 0) hx hb dX4_errorsByPrints_108 (by decide) ?_
                  refine lv_iadd hx hb dX4_errorsByPrints_109 ?_
                  refine lv_istore_n (lv' := [(2, .int (((x + 1) + 0) + 0)), (7, .null), (6, .ref (ad (9 + i))), (5, .int (nI i)), (4, .int (30)), (3, .ref (ad (2))), (0, .ref (ad (430))), (1, .int (t))]) hx hb dX4_errorsByPrints_110 rfl hl (by decide) rfl (fun ls hl => ?_)
                  refine lv_iinc (v := nI (i + 1)) (lv' := [(5, .int (nI (i + 1))), (2, .int (((x + 1) + 0) + 0)), (7, .null), (6, .ref (ad (9 + i))), (4, .int (30)), (3, .ref (ad (2))), (0, .ref (ad (430))), (1, .int (t))]) hx hb dX4_errorsByPrints_111 hl (k := 3) rfl (nI_1 _) (by decide) rfl (fun ls hl => ?_)
                  refine lv_goto (tgt := 17) hx hb dX4_errorsByPrints_114 (by decide) ?_
                  exact ih (i + 1) (((x + 1) + 0) + 0) (by omega) (by omega) (by rw [foldI_succ, ← hi_0]; simp [b2i, f_errs, F_err, c_2, q_10, c_12, c_16, c_17]) ls (lv_sub hl [0, 4, 5, 1, 6, 7] rfl)
                · rw [b2i_eq0] at c_17
                  refine lv_iconst (v := 1) hx hb dX4_errorsByPrints_104 (by decide) ?_
                  refine lv_goto (tgt := 109) hx hb dX4_errorsByPrints_105 (by decide) ?_
                  refine lv_iadd hx hb dX4_errorsByPrints_109 ?_
                  refine lv_istore_n (lv' := [(2, .int (((x + 1) + 0) + 1)), (7, .null), (6, .ref (ad (9 + i))), (5, .int (nI i)), (4, .int (30)), (3, .ref (ad (2))), (0, .ref (ad (430))), (1, .int (t))]) hx hb dX4_errorsByPrints_110 rfl hl (by decide) rfl (fun ls hl => ?_)
                  refine lv_iinc (v := nI (i + 1)) (lv' := [(5, .int (nI (i + 1))), (2, .int (((x + 1) + 0) + 1)), (7, .null), (6, .ref (ad (9 + i))), (4, .int (30)), (3, .ref (ad (2))), (0, .ref (ad (430))), (1, .int (t))]) hx hb dX4_errorsByPrints_111 hl (k := 3) rfl (nI_1 _) (by decide) rfl (fun ls hl => ?_)
                  refine lv_goto (tgt := 17) hx hb dX4_errorsByPrints_114 (by decide) ?_
                  exact ih (i + 1) (((x + 1) + 0) + 1) (by omega) (by omega) (by rw [foldI_succ, ← hi_0]; simp [b2i, f_errs, F_err, c_2, q_10, c_12, c_16, c_17]) ls (lv_sub hl [0, 4, 5, 1, 6, 7] rfl)
              · rw [b2i_eq0] at c_16
                refine lv_iconst (v := 1) hx hb dX4_errorsByPrints_85 (by decide) ?_
                refine lv_goto (tgt := 90) hx hb dX4_errorsByPrints_86 (by decide) ?_
                refine lv_iadd hx hb dX4_errorsByPrints_90 ?_
                refine lv_istore_n (lv' := [(2, .int ((x + 1) + 1)), (7, .null), (6, .ref (ad (9 + i))), (5, .int (nI i)), (4, .int (30)), (3, .ref (ad (2))), (0, .ref (ad (430))), (1, .int (t))]) hx hb dX4_errorsByPrints_91 rfl hl (by decide) rfl (fun ls hl => ?_)
                refine lv_iload_n hx hb dX4_errorsByPrints_92 rfl (lv_at hl 0 rfl) ?_
                refine lv_aload_n hx hb dX4_errorsByPrints_93 rfl (lv_at hl 6 rfl) ?_
                refine lv_aloadN hx hb dX4_errorsByPrints_94 (lv_at hl 1 rfl) ?_
                refine lv_aload hx hb dX4_errorsByPrints_96 (lv_at hl 2 rfl) ?_
                refine sp_call (W.runV (As := [.null, .ref (ad (9 + i))]) (rest := [.int ((x + 1) + 1)]) ⟨hx, hb, hml, hown, hts⟩ (c_X4_isUneven l D ad cy pm rj σ (none : Option Nat) (by intro j hj; first | (cases hj; done) | (cases hj; omega)) i (by omega)) (cwV 2 hts gX4_errorsByPrints_X4_isUneven rfl rfl rfl (by decide +kernel) ⟨Nat.le_of_ble_eq_true rfl, Nat.le_of_ble_eq_true rfl⟩) (sp_preV hK hP (κ := 430) (by decide) cE_proof rfl) rfl rfl hl.1 rfl (lv_room (Nat.le_of_ble_eq_true rfl)) dX4_errorsByPrints_98 ⟨Nat.le_of_ble_eq_true rfl, Nat.le_of_ble_eq_true rfl⟩) ?_
                refine W.eq (g2 := F0 m 101 ls [.int (b2i (f_uneven σ (none : Option Nat) i)), .int ((x + 1) + 1)]) rfl ?_
                refine lv_if_eq (tgt := 108) hx hb dX4_errorsByPrints_101 (by decide) (fun c_18 => ?_) (fun c_18 => ?_)
                · rw [b2i_eq0] at c_18
                  refine lv_iconst (v := 0) hx hb dX4_errorsByPrints_108 (by decide) ?_
                  refine lv_iadd hx hb dX4_errorsByPrints_109 ?_
                  refine lv_istore_n (lv' := [(2, .int (((x + 1) + 1) + 0)), (7, .null), (6, .ref (ad (9 + i))), (5, .int (nI i)), (4, .int (30)), (3, .ref (ad (2))), (0, .ref (ad (430))), (1, .int (t))]) hx hb dX4_errorsByPrints_110 rfl hl (by decide) rfl (fun ls hl => ?_)
                  refine lv_iinc (v := nI (i + 1)) (lv' := [(5, .int (nI (i + 1))), (2, .int (((x + 1) + 1) + 0)), (7, .null), (6, .ref (ad (9 + i))), (4, .int (30)), (3, .ref (ad (2))), (0, .ref (ad (430))), (1, .int (t))]) hx hb dX4_errorsByPrints_111 hl (k := 3) rfl (nI_1 _) (by decide) rfl (fun ls hl => ?_)
                  refine lv_goto (tgt := 17) hx hb dX4_errorsByPrints_114 (by decide) ?_
                  exact ih (i + 1) (((x + 1) + 1) + 0) (by omega) (by omega) (by rw [foldI_succ, ← hi_0]; simp [b2i, f_errs, F_err, c_2, q_10, c_12, c_16, c_18]) ls (lv_sub hl [0, 4, 5, 1, 6, 7] rfl)
                · rw [b2i_eq0] at c_18
                  refine lv_iconst (v := 1) hx hb dX4_errorsByPrints_104 (by decide) ?_
                  refine lv_goto (tgt := 109) hx hb dX4_errorsByPrints_105 (by decide) ?_
                  refine lv_iadd hx hb dX4_errorsByPrints_109 ?_
                  refine lv_istore_n (lv' := [(2, .int (((x + 1) + 1) + 1)), (7, .null), (6, .ref (ad (9 + i))), (5, .int (nI i)), (4, .int (30)), (3, .ref (ad (2))), (0, .ref (ad (430))), (1, .int (t))]) hx hb dX4_errorsByPrints_110 rfl hl (by decide) rfl (fun ls hl => ?_)
                  refine lv_iinc (v := nI (i + 1)) (lv' := [(5, .int (nI (i + 1))), (2, .int (((x + 1) + 1) + 1)), (7, .null), (6, .ref (ad (9 + i))), (4, .int (30)), (3, .ref (ad (2))), (0, .ref (ad (430))), (1, .int (t))]) hx hb dX4_errorsByPrints_111 hl (k := 3) rfl (nI_1 _) (by decide) rfl (fun ls hl => ?_)
                  refine lv_goto (tgt := 17) hx hb dX4_errorsByPrints_114 (by decide) ?_
                  exact ih (i + 1) (((x + 1) + 1) + 1) (by omega) (by omega) (by rw [foldI_succ, ← hi_0]; simp [b2i, f_errs, F_err, c_2, q_10, c_12, c_16, c_18]) ls (lv_sub hl [0, 4, 5, 1, 6, 7] rfl)
          · have hj_11 := f_before_lt q_10
            refine W.eq (g2 := F0 m 48 ls [.ref (ad (9 + j_11))]) rfl ?_
            refine lv_goto (tgt := 52) hx hb dX4_errorsByPrints_48 (by decide) ?_
            refine lv_astore (lv' := [(7, .ref (ad (9 + j_11))), (6, .ref (ad (9 + i))), (5, .int (nI i)), (4, .int (30)), (3, .ref (ad (2))), (2, .int (x)), (0, .ref (ad (430))), (1, .int (t))]) hx hb dX4_errorsByPrints_52 hl (by decide) rfl (fun ls hl => ?_)
            refine lv_iload_n hx hb dX4_errorsByPrints_54 rfl (lv_at hl 5 rfl) ?_
            refine lv_aload_n hx hb dX4_errorsByPrints_55 rfl (lv_at hl 6 rfl) ?_
            refine lv_aload hx hb dX4_errorsByPrints_56 (lv_at hl 0 rfl) ?_
            refine lv_aload hx hb dX4_errorsByPrints_58 (lv_at hl 1 rfl) ?_
            refine sp_call (W.runV (As := [.ref (ad (9 + j_11)), .ref (ad (9 + i))]) (rest := [.int (x)]) ⟨hx, hb, hml, hown, hts⟩ (c_X4_isTooLong l D ad cy pm rj σ (some (j_11)) (by intro j hj; first | (cases hj; done) | (cases hj; omega)) i (by omega)) (cwV 2 hts gX4_errorsByPrints_X4_isTooLong rfl rfl rfl (by decide +kernel) ⟨Nat.le_of_ble_eq_true rfl, Nat.le_of_ble_eq_true rfl⟩) (sp_preV hK hP (κ := 430) (by decide) cE_proof rfl) rfl rfl hl.1 rfl (lv_room (Nat.le_of_ble_eq_true rfl)) dX4_errorsByPrints_60 ⟨Nat.le_of_ble_eq_true rfl, Nat.le_of_ble_eq_true rfl⟩) ?_
            refine W.eq (g2 := F0 m 63 ls [.int (b2i (f_tooLong σ (some (j_11)) i)), .int (x)]) rfl ?_
            refine lv_if_eq (tgt := 70) hx hb dX4_errorsByPrints_63 (by decide) (fun c_19 => ?_) (fun c_19 => ?_)
            · rw [b2i_eq0] at c_19
              refine lv_iconst (v := 0) hx hb dX4_errorsByPrints_70 (by decide) ?_
              refine lv_iadd hx hb dX4_errorsByPrints_71 ?_
              refine lv_istore_n (lv' := [(2, .int (x + 0)), (7, .ref (ad (9 + j_11))), (6, .ref (ad (9 + i))), (5, .int (nI i)), (4, .int (30)), (3, .ref (ad (2))), (0, .ref (ad (430))), (1, .int (t))]) hx hb dX4_errorsByPrints_72 rfl hl (by decide) rfl (fun ls hl => ?_)
              refine lv_iload_n hx hb dX4_errorsByPrints_73 rfl (lv_at hl 0 rfl) ?_
              refine lv_aload_n hx hb dX4_errorsByPrints_74 rfl (lv_at hl 6 rfl) ?_
              refine lv_aload hx hb dX4_errorsByPrints_75 (lv_at hl 1 rfl) ?_
              refine lv_aload hx hb dX4_errorsByPrints_77 (lv_at hl 2 rfl) ?_
              refine sp_call (W.runV (As := [.ref (ad (9 + j_11)), .ref (ad (9 + i))]) (rest := [.int (x + 0)]) ⟨hx, hb, hml, hown, hts⟩ (c_X4_isSameFoot l D ad cy pm rj σ (some (j_11)) (by intro j hj; first | (cases hj; done) | (cases hj; omega)) i (by omega)) (cwV 2 hts gX4_errorsByPrints_X4_isSameFoot rfl rfl rfl (by decide +kernel) ⟨Nat.le_of_ble_eq_true rfl, Nat.le_of_ble_eq_true rfl⟩) (sp_preV hK hP (κ := 430) (by decide) cE_proof rfl) rfl rfl hl.1 rfl (lv_room (Nat.le_of_ble_eq_true rfl)) dX4_errorsByPrints_79 ⟨Nat.le_of_ble_eq_true rfl, Nat.le_of_ble_eq_true rfl⟩) ?_
              refine W.eq (g2 := F0 m 82 ls [.int (b2i (f_sameFoot σ (some (j_11)) i)), .int (x + 0)]) rfl ?_
              refine lv_if_eq (tgt := 89) hx hb dX4_errorsByPrints_82 (by decide) (fun c_20 => ?_) (fun c_20 => ?_)
              · rw [b2i_eq0] at c_20
                refine lv_iconst (v := 0) hx hb dX4_errorsByPrints_89 (by decide) ?_
                refine lv_iadd hx hb dX4_errorsByPrints_90 ?_
                refine lv_istore_n (lv' := [(2, .int ((x + 0) + 0)), (7, .ref (ad (9 + j_11))), (6, .ref (ad (9 + i))), (5, .int (nI i)), (4, .int (30)), (3, .ref (ad (2))), (0, .ref (ad (430))), (1, .int (t))]) hx hb dX4_errorsByPrints_91 rfl hl (by decide) rfl (fun ls hl => ?_)
                refine lv_iload_n hx hb dX4_errorsByPrints_92 rfl (lv_at hl 0 rfl) ?_
                refine lv_aload_n hx hb dX4_errorsByPrints_93 rfl (lv_at hl 6 rfl) ?_
                refine lv_aload hx hb dX4_errorsByPrints_94 (lv_at hl 1 rfl) ?_
                refine lv_aload hx hb dX4_errorsByPrints_96 (lv_at hl 2 rfl) ?_
                refine sp_call (W.runV (As := [.ref (ad (9 + j_11)), .ref (ad (9 + i))]) (rest := [.int ((x + 0) + 0)]) ⟨hx, hb, hml, hown, hts⟩ (c_X4_isUneven l D ad cy pm rj σ (some (j_11)) (by intro j hj; first | (cases hj; done) | (cases hj; omega)) i (by omega)) (cwV 2 hts gX4_errorsByPrints_X4_isUneven rfl rfl rfl (by decide +kernel) ⟨Nat.le_of_ble_eq_true rfl, Nat.le_of_ble_eq_true rfl⟩) (sp_preV hK hP (κ := 430) (by decide) cE_proof rfl) rfl rfl hl.1 rfl (lv_room (Nat.le_of_ble_eq_true rfl)) dX4_errorsByPrints_98 ⟨Nat.le_of_ble_eq_true rfl, Nat.le_of_ble_eq_true rfl⟩) ?_
                refine W.eq (g2 := F0 m 101 ls [.int (b2i (f_uneven σ (some (j_11)) i)), .int ((x + 0) + 0)]) rfl ?_
                refine lv_if_eq (tgt := 108) hx hb dX4_errorsByPrints_101 (by decide) (fun c_21 => ?_) (fun c_21 => ?_)
                · rw [b2i_eq0] at c_21
                  refine lv_iconst (v := 0) hx hb dX4_errorsByPrints_108 (by decide) ?_
                  refine lv_iadd hx hb dX4_errorsByPrints_109 ?_
                  refine lv_istore_n (lv' := [(2, .int (((x + 0) + 0) + 0)), (7, .ref (ad (9 + j_11))), (6, .ref (ad (9 + i))), (5, .int (nI i)), (4, .int (30)), (3, .ref (ad (2))), (0, .ref (ad (430))), (1, .int (t))]) hx hb dX4_errorsByPrints_110 rfl hl (by decide) rfl (fun ls hl => ?_)
                  refine lv_iinc (v := nI (i + 1)) (lv' := [(5, .int (nI (i + 1))), (2, .int (((x + 0) + 0) + 0)), (7, .ref (ad (9 + j_11))), (6, .ref (ad (9 + i))), (4, .int (30)), (3, .ref (ad (2))), (0, .ref (ad (430))), (1, .int (t))]) hx hb dX4_errorsByPrints_111 hl (k := 3) rfl (nI_1 _) (by decide) rfl (fun ls hl => ?_)
                  refine lv_goto (tgt := 17) hx hb dX4_errorsByPrints_114 (by decide) ?_
                  exact ih (i + 1) (((x + 0) + 0) + 0) (by omega) (by omega) (by rw [foldI_succ, ← hi_0]; simp [b2i, f_errs, F_err, c_2, q_10, c_19, c_20, c_21]) ls (lv_sub hl [0, 4, 5, 1, 6, 7] rfl)
                · rw [b2i_eq0] at c_21
                  refine lv_iconst (v := 1) hx hb dX4_errorsByPrints_104 (by decide) ?_
                  refine lv_goto (tgt := 109) hx hb dX4_errorsByPrints_105 (by decide) ?_
                  refine lv_iadd hx hb dX4_errorsByPrints_109 ?_
                  refine lv_istore_n (lv' := [(2, .int (((x + 0) + 0) + 1)), (7, .ref (ad (9 + j_11))), (6, .ref (ad (9 + i))), (5, .int (nI i)), (4, .int (30)), (3, .ref (ad (2))), (0, .ref (ad (430))), (1, .int (t))]) hx hb dX4_errorsByPrints_110 rfl hl (by decide) rfl (fun ls hl => ?_)
                  refine lv_iinc (v := nI (i + 1)) (lv' := [(5, .int (nI (i + 1))), (2, .int (((x + 0) + 0) + 1)), (7, .ref (ad (9 + j_11))), (6, .ref (ad (9 + i))), (4, .int (30)), (3, .ref (ad (2))), (0, .ref (ad (430))), (1, .int (t))]) hx hb dX4_errorsByPrints_111 hl (k := 3) rfl (nI_1 _) (by decide) rfl (fun ls hl => ?_)
                  refine lv_goto (tgt := 17) hx hb dX4_errorsByPrints_114 (by decide) ?_
                  exact ih (i + 1) (((x + 0) + 0) + 1) (by omega) (by omega) (by rw [foldI_succ, ← hi_0]; simp [b2i, f_errs, F_err, c_2, q_10, c_19, c_20, c_21]) ls (lv_sub hl [0, 4, 5, 1, 6, 7] rfl)
              · rw [b2i_eq0] at c_20
                refine lv_iconst (v := 1) hx hb dX4_errorsByPrints_85 (by decide) ?_
                refine lv_goto (tgt := 90) hx hb dX4_errorsByPrints_86 (by decide) ?_
                refine lv_iadd hx hb dX4_errorsByPrints_90 ?_
                refine lv_istore_n (lv' := [(2, .int ((x + 0) + 1)), (7, .ref (ad (9 + j_11))), (6, .ref (ad (9 + i))), (5, .int (nI i)), (4, .int (30)), (3, .ref (ad (2))), (0, .ref (ad (430))), (1, .int (t))]) hx hb dX4_errorsByPrints_91 rfl hl (by decide) rfl (fun ls hl => ?_)
                refine lv_iload_n hx hb dX4_errorsByPrints_92 rfl (lv_at hl 0 rfl) ?_
                refine lv_aload_n hx hb dX4_errorsByPrints_93 rfl (lv_at hl 6 rfl) ?_
                refine lv_aload hx hb dX4_errorsByPrints_94 (lv_at hl 1 rfl) ?_
                refine lv_aload hx hb dX4_errorsByPrints_96 (lv_at hl 2 rfl) ?_
                refine sp_call (W.runV (As := [.ref (ad (9 + j_11)), .ref (ad (9 + i))]) (rest := [.int ((x + 0) + 1)]) ⟨hx, hb, hml, hown, hts⟩ (c_X4_isUneven l D ad cy pm rj σ (some (j_11)) (by intro j hj; first | (cases hj; done) | (cases hj; omega)) i (by omega)) (cwV 2 hts gX4_errorsByPrints_X4_isUneven rfl rfl rfl (by decide +kernel) ⟨Nat.le_of_ble_eq_true rfl, Nat.le_of_ble_eq_true rfl⟩) (sp_preV hK hP (κ := 430) (by decide) cE_proof rfl) rfl rfl hl.1 rfl (lv_room (Nat.le_of_ble_eq_true rfl)) dX4_errorsByPrints_98 ⟨Nat.le_of_ble_eq_true rfl, Nat.le_of_ble_eq_true rfl⟩) ?_
                refine W.eq (g2 := F0 m 101 ls [.int (b2i (f_uneven σ (some (j_11)) i)), .int ((x + 0) + 1)]) rfl ?_
                refine lv_if_eq (tgt := 108) hx hb dX4_errorsByPrints_101 (by decide) (fun c_22 => ?_) (fun c_22 => ?_)
                · rw [b2i_eq0] at c_22
                  refine lv_iconst (v := 0) hx hb dX4_errorsByPrints_108 (by decide) ?_
                  refine lv_iadd hx hb dX4_errorsByPrints_109 ?_
                  refine lv_istore_n (lv' := [(2, .int (((x + 0) + 1) + 0)), (7, .ref (ad (9 + j_11))), (6, .ref (ad (9 + i))), (5, .int (nI i)), (4, .int (30)), (3, .ref (ad (2))), (0, .ref (ad (430))), (1, .int (t))]) hx hb dX4_errorsByPrints_110 rfl hl (by decide) rfl (fun ls hl => ?_)
                  refine lv_iinc (v := nI (i + 1)) (lv' := [(5, .int (nI (i + 1))), (2, .int (((x + 0) + 1) + 0)), (7, .ref (ad (9 + j_11))), (6, .ref (ad (9 + i))), (4, .int (30)), (3, .ref (ad (2))), (0, .ref (ad (430))), (1, .int (t))]) hx hb dX4_errorsByPrints_111 hl (k := 3) rfl (nI_1 _) (by decide) rfl (fun ls hl => ?_)
                  refine lv_goto (tgt := 17) hx hb dX4_errorsByPrints_114 (by decide) ?_
                  exact ih (i + 1) (((x + 0) + 1) + 0) (by omega) (by omega) (by rw [foldI_succ, ← hi_0]; simp [b2i, f_errs, F_err, c_2, q_10, c_19, c_20, c_22]) ls (lv_sub hl [0, 4, 5, 1, 6, 7] rfl)
                · rw [b2i_eq0] at c_22
                  refine lv_iconst (v := 1) hx hb dX4_errorsByPrints_104 (by decide) ?_
                  refine lv_goto (tgt := 109) hx hb dX4_errorsByPrints_105 (by decide) ?_
                  refine lv_iadd hx hb dX4_errorsByPrints_109 ?_
                  refine lv_istore_n (lv' := [(2, .int (((x + 0) + 1) + 1)), (7, .ref (ad (9 + j_11))), (6, .ref (ad (9 + i))), (5, .int (nI i)), (4, .int (30)), (3, .ref (ad (2))), (0, .ref (ad (430))), (1, .int (t))]) hx hb dX4_errorsByPrints_110 rfl hl (by decide) rfl (fun ls hl => ?_)
                  refine lv_iinc (v := nI (i + 1)) (lv' := [(5, .int (nI (i + 1))), (2, .int (((x + 0) + 1) + 1)), (7, .ref (ad (9 + j_11))), (6, .ref (ad (9 + i))), (4, .int (30)), (3, .ref (ad (2))), (0, .ref (ad (430))), (1, .int (t))]) hx hb dX4_errorsByPrints_111 hl (k := 3) rfl (nI_1 _) (by decide) rfl (fun ls hl => ?_)
                  refine lv_goto (tgt := 17) hx hb dX4_errorsByPrints_114 (by decide) ?_
                  exact ih (i + 1) (((x + 0) + 1) + 1) (by omega) (by omega) (by rw [foldI_succ, ← hi_0]; simp [b2i, f_errs, F_err, c_2, q_10, c_19, c_20, c_22]) ls (lv_sub hl [0, 4, 5, 1, 6, 7] rfl)
            · rw [b2i_eq0] at c_19
              refine lv_iconst (v := 1) hx hb dX4_errorsByPrints_66 (by decide) ?_
              refine lv_goto (tgt := 71) hx hb dX4_errorsByPrints_67 (by decide) ?_
              refine lv_iadd hx hb dX4_errorsByPrints_71 ?_
              refine lv_istore_n (lv' := [(2, .int (x + 1)), (7, .ref (ad (9 + j_11))), (6, .ref (ad (9 + i))), (5, .int (nI i)), (4, .int (30)), (3, .ref (ad (2))), (0, .ref (ad (430))), (1, .int (t))]) hx hb dX4_errorsByPrints_72 rfl hl (by decide) rfl (fun ls hl => ?_)
              refine lv_iload_n hx hb dX4_errorsByPrints_73 rfl (lv_at hl 0 rfl) ?_
              refine lv_aload_n hx hb dX4_errorsByPrints_74 rfl (lv_at hl 6 rfl) ?_
              refine lv_aload hx hb dX4_errorsByPrints_75 (lv_at hl 1 rfl) ?_
              refine lv_aload hx hb dX4_errorsByPrints_77 (lv_at hl 2 rfl) ?_
              refine sp_call (W.runV (As := [.ref (ad (9 + j_11)), .ref (ad (9 + i))]) (rest := [.int (x + 1)]) ⟨hx, hb, hml, hown, hts⟩ (c_X4_isSameFoot l D ad cy pm rj σ (some (j_11)) (by intro j hj; first | (cases hj; done) | (cases hj; omega)) i (by omega)) (cwV 2 hts gX4_errorsByPrints_X4_isSameFoot rfl rfl rfl (by decide +kernel) ⟨Nat.le_of_ble_eq_true rfl, Nat.le_of_ble_eq_true rfl⟩) (sp_preV hK hP (κ := 430) (by decide) cE_proof rfl) rfl rfl hl.1 rfl (lv_room (Nat.le_of_ble_eq_true rfl)) dX4_errorsByPrints_79 ⟨Nat.le_of_ble_eq_true rfl, Nat.le_of_ble_eq_true rfl⟩) ?_
              refine W.eq (g2 := F0 m 82 ls [.int (b2i (f_sameFoot σ (some (j_11)) i)), .int (x + 1)]) rfl ?_
              refine lv_if_eq (tgt := 89) hx hb dX4_errorsByPrints_82 (by decide) (fun c_23 => ?_) (fun c_23 => ?_)
              · rw [b2i_eq0] at c_23
                refine lv_iconst (v := 0) hx hb dX4_errorsByPrints_89 (by decide) ?_
                refine lv_iadd hx hb dX4_errorsByPrints_90 ?_
                refine lv_istore_n (lv' := [(2, .int ((x + 1) + 0)), (7, .ref (ad (9 + j_11))), (6, .ref (ad (9 + i))), (5, .int (nI i)), (4, .int (30)), (3, .ref (ad (2))), (0, .ref (ad (430))), (1, .int (t))]) hx hb dX4_errorsByPrints_91 rfl hl (by decide) rfl (fun ls hl => ?_)
                refine lv_iload_n hx hb dX4_errorsByPrints_92 rfl (lv_at hl 0 rfl) ?_
                refine lv_aload_n hx hb dX4_errorsByPrints_93 rfl (lv_at hl 6 rfl) ?_
                refine lv_aload hx hb dX4_errorsByPrints_94 (lv_at hl 1 rfl) ?_
                refine lv_aload hx hb dX4_errorsByPrints_96 (lv_at hl 2 rfl) ?_
                refine sp_call (W.runV (As := [.ref (ad (9 + j_11)), .ref (ad (9 + i))]) (rest := [.int ((x + 1) + 0)]) ⟨hx, hb, hml, hown, hts⟩ (c_X4_isUneven l D ad cy pm rj σ (some (j_11)) (by intro j hj; first | (cases hj; done) | (cases hj; omega)) i (by omega)) (cwV 2 hts gX4_errorsByPrints_X4_isUneven rfl rfl rfl (by decide +kernel) ⟨Nat.le_of_ble_eq_true rfl, Nat.le_of_ble_eq_true rfl⟩) (sp_preV hK hP (κ := 430) (by decide) cE_proof rfl) rfl rfl hl.1 rfl (lv_room (Nat.le_of_ble_eq_true rfl)) dX4_errorsByPrints_98 ⟨Nat.le_of_ble_eq_true rfl, Nat.le_of_ble_eq_true rfl⟩) ?_
                refine W.eq (g2 := F0 m 101 ls [.int (b2i (f_uneven σ (some (j_11)) i)), .int ((x + 1) + 0)]) rfl ?_
                refine lv_if_eq (tgt := 108) hx hb dX4_errorsByPrints_101 (by decide) (fun c_24 => ?_) (fun c_24 => ?_)
                · rw [b2i_eq0] at c_24
                  refine lv_iconst (v := 0) hx hb dX4_errorsByPrints_108 (by decide) ?_
                  refine lv_iadd hx hb dX4_errorsByPrints_109 ?_
                  refine lv_istore_n (lv' := [(2, .int (((x + 1) + 0) + 0)), (7, .ref (ad (9 + j_11))), (6, .ref (ad (9 + i))), (5, .int (nI i)), (4, .int (30)), (3, .ref (ad (2))), (0, .ref (ad (430))), (1, .int (t))]) hx hb dX4_errorsByPrints_110 rfl hl (by decide) rfl (fun ls hl => ?_)
                  refine lv_iinc (v := nI (i + 1)) (lv' := [(5, .int (nI (i + 1))), (2, .int (((x + 1) + 0) + 0)), (7, .ref (ad (9 + j_11))), (6, .ref (ad (9 + i))), (4, .int (30)), (3, .ref (ad (2))), (0, .ref (ad (430))), (1, .int (t))]) hx hb dX4_errorsByPrints_111 hl (k := 3) rfl (nI_1 _) (by decide) rfl (fun ls hl => ?_)
                  refine lv_goto (tgt := 17) hx hb dX4_errorsByPrints_114 (by decide) ?_
                  exact ih (i + 1) (((x + 1) + 0) + 0) (by omega) (by omega) (by rw [foldI_succ, ← hi_0]; simp [b2i, f_errs, F_err, c_2, q_10, c_19, c_23, c_24]) ls (lv_sub hl [0, 4, 5, 1, 6, 7] rfl)
                · rw [b2i_eq0] at c_24
                  refine lv_iconst (v := 1) hx hb dX4_errorsByPrints_104 (by decide) ?_
                  refine lv_goto (tgt := 109) hx hb dX4_errorsByPrints_105 (by decide) ?_
                  refine lv_iadd hx hb dX4_errorsByPrints_109 ?_
                  refine lv_istore_n (lv' := [(2, .int (((x + 1) + 0) + 1)), (7, .ref (ad (9 + j_11))), (6, .ref (ad (9 + i))), (5, .int (nI i)), (4, .int (30)), (3, .ref (ad (2))), (0, .ref (ad (430))), (1, .int (t))]) hx hb dX4_errorsByPrints_110 rfl hl (by decide) rfl (fun ls hl => ?_)
                  refine lv_iinc (v := nI (i + 1)) (lv' := [(5, .int (nI (i + 1))), (2, .int (((x + 1) + 0) + 1)), (7, .ref (ad (9 + j_11))), (6, .ref (ad (9 + i))), (4, .int (30)), (3, .ref (ad (2))), (0, .ref (ad (430))), (1, .int (t))]) hx hb dX4_errorsByPrints_111 hl (k := 3) rfl (nI_1 _) (by decide) rfl (fun ls hl => ?_)
                  refine lv_goto (tgt := 17) hx hb dX4_errorsByPrints_114 (by decide) ?_
                  exact ih (i + 1) (((x + 1) + 0) + 1) (by omega) (by omega) (by rw [foldI_succ, ← hi_0]; simp [b2i, f_errs, F_err, c_2, q_10, c_19, c_23, c_24]) ls (lv_sub hl [0, 4, 5, 1, 6, 7] rfl)
              · rw [b2i_eq0] at c_23
                refine lv_iconst (v := 1) hx hb dX4_errorsByPrints_85 (by decide) ?_
                refine lv_goto (tgt := 90) hx hb dX4_errorsByPrints_86 (by decide) ?_
                refine lv_iadd hx hb dX4_errorsByPrints_90 ?_
                refine lv_istore_n (lv' := [(2, .int ((x + 1) + 1)), (7, .ref (ad (9 + j_11))), (6, .ref (ad (9 + i))), (5, .int (nI i)), (4, .int (30)), (3, .ref (ad (2))), (0, .ref (ad (430))), (1, .int (t))]) hx hb dX4_errorsByPrints_91 rfl hl (by decide) rfl (fun ls hl => ?_)
                refine lv_iload_n hx hb dX4_errorsByPrints_92 rfl (lv_at hl 0 rfl) ?_
                refine lv_aload_n hx hb dX4_errorsByPrints_93 rfl (lv_at hl 6 rfl) ?_
                refine lv_aload hx hb dX4_errorsByPrints_94 (lv_at hl 1 rfl) ?_
                refine lv_aload hx hb dX4_errorsByPrints_96 (lv_at hl 2 rfl) ?_
                refine sp_call (W.runV (As := [.ref (ad (9 + j_11)), .ref (ad (9 + i))]) (rest := [.int ((x + 1) + 1)]) ⟨hx, hb, hml, hown, hts⟩ (c_X4_isUneven l D ad cy pm rj σ (some (j_11)) (by intro j hj; first | (cases hj; done) | (cases hj; omega)) i (by omega)) (cwV 2 hts gX4_errorsByPrints_X4_isUneven rfl rfl rfl (by decide +kernel) ⟨Nat.le_of_ble_eq_true rfl, Nat.le_of_ble_eq_true rfl⟩) (sp_preV hK hP (κ := 430) (by decide) cE_proof rfl) rfl rfl hl.1 rfl (lv_room (Nat.le_of_ble_eq_true rfl)) dX4_errorsByPrints_98 ⟨Nat.le_of_ble_eq_true rfl, Nat.le_of_ble_eq_true rfl⟩) ?_
                refine W.eq (g2 := F0 m 101 ls [.int (b2i (f_uneven σ (some (j_11)) i)), .int ((x + 1) + 1)]) rfl ?_
                refine lv_if_eq (tgt := 108) hx hb dX4_errorsByPrints_101 (by decide) (fun c_25 => ?_) (fun c_25 => ?_)
                · rw [b2i_eq0] at c_25
                  refine lv_iconst (v := 0) hx hb dX4_errorsByPrints_108 (by decide) ?_
                  refine lv_iadd hx hb dX4_errorsByPrints_109 ?_
                  refine lv_istore_n (lv' := [(2, .int (((x + 1) + 1) + 0)), (7, .ref (ad (9 + j_11))), (6, .ref (ad (9 + i))), (5, .int (nI i)), (4, .int (30)), (3, .ref (ad (2))), (0, .ref (ad (430))), (1, .int (t))]) hx hb dX4_errorsByPrints_110 rfl hl (by decide) rfl (fun ls hl => ?_)
                  refine lv_iinc (v := nI (i + 1)) (lv' := [(5, .int (nI (i + 1))), (2, .int (((x + 1) + 1) + 0)), (7, .ref (ad (9 + j_11))), (6, .ref (ad (9 + i))), (4, .int (30)), (3, .ref (ad (2))), (0, .ref (ad (430))), (1, .int (t))]) hx hb dX4_errorsByPrints_111 hl (k := 3) rfl (nI_1 _) (by decide) rfl (fun ls hl => ?_)
                  refine lv_goto (tgt := 17) hx hb dX4_errorsByPrints_114 (by decide) ?_
                  exact ih (i + 1) (((x + 1) + 1) + 0) (by omega) (by omega) (by rw [foldI_succ, ← hi_0]; simp [b2i, f_errs, F_err, c_2, q_10, c_19, c_23, c_25]) ls (lv_sub hl [0, 4, 5, 1, 6, 7] rfl)
                · rw [b2i_eq0] at c_25
                  refine lv_iconst (v := 1) hx hb dX4_errorsByPrints_104 (by decide) ?_
                  refine lv_goto (tgt := 109) hx hb dX4_errorsByPrints_105 (by decide) ?_
                  refine lv_iadd hx hb dX4_errorsByPrints_109 ?_
                  refine lv_istore_n (lv' := [(2, .int (((x + 1) + 1) + 1)), (7, .ref (ad (9 + j_11))), (6, .ref (ad (9 + i))), (5, .int (nI i)), (4, .int (30)), (3, .ref (ad (2))), (0, .ref (ad (430))), (1, .int (t))]) hx hb dX4_errorsByPrints_110 rfl hl (by decide) rfl (fun ls hl => ?_)
                  refine lv_iinc (v := nI (i + 1)) (lv' := [(5, .int (nI (i + 1))), (2, .int (((x + 1) + 1) + 1)), (7, .ref (ad (9 + j_11))), (6, .ref (ad (9 + i))), (4, .int (30)), (3, .ref (ad (2))), (0, .ref (ad (430))), (1, .int (t))]) hx hb dX4_errorsByPrints_111 hl (k := 3) rfl (nI_1 _) (by decide) rfl (fun ls hl => ?_)
                  refine lv_goto (tgt := 17) hx hb dX4_errorsByPrints_114 (by decide) ?_
                  exact ih (i + 1) (((x + 1) + 1) + 1) (by omega) (by omega) (by rw [foldI_succ, ← hi_0]; simp [b2i, f_errs, F_err, c_2, q_10, c_19, c_23, c_25]) ls (lv_sub hl [0, 4, 5, 1, 6, 7] rfl)
  exact loop_17 (30 + 1) (0) (0)  (by omega) (by omega) (rfl) ls (lv_sub hl [0, 1, 2, 3, 4, 5] rfl)

theorem wi_X4_lengthByPrints_X4 : ∀ w ∈ wsX40, w ∈ wsX4_lengthByPrints := by decide +kernel
theorem wi_X4_lengthByPrints_X0 : ∀ w ∈ wsX00, w ∈ wsX4_lengthByPrints := by decide +kernel
theorem wi_X4_lengthByPrints_X8 : ∀ w ∈ wsX80, w ∈ wsX4_lengthByPrints := by decide +kernel
theorem wi_X4_lengthByPrints_X3 : ∀ w ∈ wsX30, w ∈ wsX4_lengthByPrints := by decide +kernel
set_option maxHeartbeats 4000000 in
set_option maxRecDepth 100000 in
theorem c_X4_lengthByPrints (l : Launch) (D : va_G) (ad : Nat → Nat) (cy : Nat → ClassId) (pm : Nat → Nat) (rj : Option Nat) (σ : Nat → Nat → Int32) (k : Nat) (hk : k < 6) : Met l yX4_lengthByPrints wsX4_lengthByPrints ({ frames := 2, cells := 0, slots := 0, locals := 47 } : Room) (sp_Pc D (tyG cy) [.ref (ad (430)), .ref (ad (3 + k))] (cW ad cy pm rj σ)) (sp_S (some (.int (f_len σ k)))) 0 0 (fun _ => False) := by
  refine Met.ofW (cc := cX4_lengthByPrints) (maxL := 8) (ret := (some .int)) (by decide) rfl ?_
  intro p e s m args below meth c s₁ B hml hv
  obtain ⟨rfl, hP, hK⟩ := hv
  have hx := B.exec
  have hb := B.bytes
  have hr := B.returns
  have hts := atoms_spec (ws := wsX4_lengthByPrints) B.pre
  have hown : s.vm.findClass RX4 = some m.cls := findClass_of_methodNamed B.named
  have hlocks := B.notSynchronized
  have hl := lv_entry ([.ref (ad (430)), .ref (ad (3 + k))]) (n := 8) (Nat.le_of_ble_eq_true rfl)
  refine W.eq (lg_entry_eq _ ([.ref (ad (430)), .ref (ad (3 + k))]) _) ?_
  generalize (lg_sl ([.ref (ad (430)), .ref (ad (3 + k))]) ++ List.replicate (8 - (lg_sl ([.ref (ad (430)), .ref (ad (3 + k))])).length) Slot.unset).toArray = ls at hl ⊢
  have hl : lv_has ls 8 [(0, .ref (ad (430))), (1, .ref (ad (3 + k)))] := hl
  refine lv_iconst (v := 0) hx hb dX4_lengthByPrints_0 (by decide) ?_
  refine lv_istore_n (lv' := [(2, .int (0)), (0, .ref (ad (430))), (1, .ref (ad (3 + k)))]) hx hb dX4_lengthByPrints_1 rfl hl (by decide) rfl (fun ls hl => ?_)
  refine lv_aload_n hx hb dX4_lengthByPrints_2 rfl (lv_at hl 1 rfl) ?_
  refine sp_get hx hb hts wi_X4_lengthByPrints_X4 hown hK hP (κ := 430) (by decide) cE_proof rfl 0 (by decide) (hts _ (List.mem_of_getElem? (i := 1) rfl)) (fun _ h => h) rfl dX4_lengthByPrints_3 ?_
  refine sp_get hx hb hts wi_X4_lengthByPrints_X0 hown hK hP (κ := 0) (by omega) (cE_beach (by omega) (by omega)) rfl 1 (by decide) (hts _ (List.mem_of_getElem? (i := 2) rfl)) (fun _ h => h) rfl dX4_lengthByPrints_6 ?_
  refine lv_astore_n (lv' := [(3, .ref (ad (2))), (2, .int (0)), (0, .ref (ad (430))), (1, .ref (ad (3 + k)))]) hx hb dX4_lengthByPrints_9 rfl hl (by decide) rfl (fun ls hl => ?_)
  refine lv_aload_n hx hb dX4_lengthByPrints_10 rfl (lv_at hl 0 rfl) ?_
  refine sp_alen hx hb hK hP (κ := 2) (by omega) 4 (cE_prints (by omega) (by omega)) rfl (v := 30) rfl dX4_lengthByPrints_11 ?_
  refine lv_istore (lv' := [(4, .int (30)), (3, .ref (ad (2))), (2, .int (0)), (0, .ref (ad (430))), (1, .ref (ad (3 + k)))]) hx hb dX4_lengthByPrints_12 hl (by decide) rfl (fun ls hl => ?_)
  refine lv_iconst (v := 0) hx hb dX4_lengthByPrints_14 (by decide) ?_
  refine lv_istore (lv' := [(5, .int (0)), (4, .int (30)), (3, .ref (ad (2))), (2, .int (0)), (0, .ref (ad (430))), (1, .ref (ad (3 + k)))]) hx hb dX4_lengthByPrints_15 hl (by decide) rfl (fun ls hl => ?_)
  have loop_17 : ∀ (n i : Nat) (x : Int32), (i ≤ 30) → (30 - i < n) → (x = foldI (F_len σ k) 0 i) → ∀ ls : Array Slot, lv_has ls 8 [(5, .int (nI i)), (4, .int (30)), (3, .ref (ad (2))), (2, .int (x)), (0, .ref (ad (430))), (1, .ref (ad (3 + k)))] → W p l e (headSpec wsX4_lengthByPrints ({ frames := 2, cells := 0, slots := 0, locals := 47 } : Room)).room s m ([.ref (ad (430)), .ref (ad (3 + k))] : List Value).toArray below meth c s.heap [] 0 0 (MQ below (sp_S (some (.int (f_len σ k)))) ([.ref (ad (430)), .ref (ad (3 + k))] : List Value).toArray s 0 0 (fun _ => False)) (F0 m 17 ls []) := by
    intro n
    induction n with
    | zero => intro i x hle hlt hi_0 ls hl; exact absurd hlt (Nat.not_lt_zero _)
    | succ n ih =>
      intro i x hle hlt hi_0 ls hl
      refine lv_iload hx hb dX4_lengthByPrints_17 (lv_at hl 0 rfl) ?_
      refine lv_iload hx hb dX4_lengthByPrints_19 (lv_at hl 1 rfl) ?_
      refine lv_icmp_ge (tgt := 90) hx hb dX4_lengthByPrints_21 (by decide) (fun c_1 => ?_) (fun c_1 => ?_)
      · skip
        have c_1d := Int32.not_lt.mpr c_1
        have hx_i : i = 30 := by have := (nI_leI (a := 30) (b := i) (by omega) (by omega)).mp c_1; omega
        try rw [hx_i] at hi_0
        refine lv_iload_n hx hb dX4_lengthByPrints_90 rfl (lv_at hl 3 rfl) ?_
        exact W.iret (v := x) hx hb hr (fun T9 hT9 _ => ⟨by rw [show (x : Int32) = f_len σ k from (by exact hi_0)], hT9⟩) (fun _ h => by cases h) dX4_lengthByPrints_91
      · skip
        have c_1d := Int32.not_le.mp c_1
        have hb_i : i < 30 := Nat.lt_of_not_le (fun z => c_1 (nI_le z (by omega)))
        refine lv_aload_n hx hb dX4_lengthByPrints_24 rfl (lv_at hl 2 rfl) ?_
        refine lv_iload hx hb dX4_lengthByPrints_25 (lv_at hl 0 rfl) ?_
        refine sp_aald hx hb hK hP (κ := 2) (by omega) 4 (cE_prints (by omega) (by omega)) rfl i rfl (by omega) (by decide) (q := ad (9 + i)) rfl dX4_lengthByPrints_27 ?_
        refine lv_astore (lv' := [(6, .ref (ad (9 + i))), (5, .int (nI i)), (4, .int (30)), (3, .ref (ad (2))), (2, .int (x)), (0, .ref (ad (430))), (1, .ref (ad (3 + k)))]) hx hb dX4_lengthByPrints_28 hl (by decide) rfl (fun ls hl => ?_)
        refine lv_aload hx hb dX4_lengthByPrints_30 (lv_at hl 0 rfl) ?_
        refine lv_aload_n hx hb dX4_lengthByPrints_32 rfl (lv_at hl 6 rfl) ?_
        refine sp_get hx hb hts wi_X4_lengthByPrints_X8 hown hK hP (κ := 3 + k) (by omega) (cE_track (by omega) (by omega)) rfl 1 (by decide) (hts _ (List.mem_of_getElem? (i := 3) rfl)) (fun _ h => h) rfl dX4_lengthByPrints_33 ?_
        refine sp_call (W.runV (As := [.int (σ (3 + k) 1)]) (rest := []) ⟨hx, hb, hml, hown, hts⟩ (c_X3_isOn l D ad cy pm rj σ (9 + i) (by omega) (by omega) (σ (3 + k) 1)) (cwV 1 hts gX4_lengthByPrints_X3_isOn rfl rfl rfl (by decide +kernel) ⟨Nat.le_of_ble_eq_true rfl, Nat.le_of_ble_eq_true rfl⟩) (sp_preV hK hP (κ := 9 + i) (by omega) (cE_print (by omega) (by omega)) rfl) rfl rfl hl.1 rfl (lv_room (Nat.le_of_ble_eq_true rfl)) dX4_lengthByPrints_36 ⟨Nat.le_of_ble_eq_true rfl, Nat.le_of_ble_eq_true rfl⟩) ?_
        refine W.eq (g2 := F0 m 39 ls [.int (b2i (f_isOn σ (9 + i) (σ (3 + k) 1)))]) rfl ?_
        refine lv_if_eq (tgt := 54) hx hb dX4_lengthByPrints_39 (by decide) (fun c_2 => ?_) (fun c_2 => ?_)
        · rw [b2i_eq0] at c_2
          refine lv_null hx hb dX4_lengthByPrints_54 ?_
          refine lv_astoreN (lv' := [(7, .null), (6, .ref (ad (9 + i))), (5, .int (nI i)), (4, .int (30)), (3, .ref (ad (2))), (2, .int (x)), (0, .ref (ad (430))), (1, .ref (ad (3 + k)))]) hx hb dX4_lengthByPrints_55 hl (by decide) rfl (fun ls hl => ?_)
          refine lv_iload_n hx hb dX4_lengthByPrints_57 rfl (lv_at hl 5 rfl) ?_
          refine lv_aloadN hx hb dX4_lengthByPrints_58 (lv_at hl 0 rfl) ?_
          refine lv_ifnonnullN hx hb dX4_lengthByPrints_60 ?_
          refine lv_iconst (v := 0) hx hb dX4_lengthByPrints_63 (by decide) ?_
          refine lv_goto (tgt := 82) hx hb dX4_lengthByPrints_64 (by decide) ?_
          refine lv_iadd hx hb dX4_lengthByPrints_82 ?_
          refine lv_istore_n (lv' := [(2, .int (x + 0)), (7, .null), (6, .ref (ad (9 + i))), (5, .int (nI i)), (4, .int (30)), (3, .ref (ad (2))), (0, .ref (ad (430))), (1, .ref (ad (3 + k)))]) hx hb dX4_lengthByPrints_83 rfl hl (by decide) rfl (fun ls hl => ?_)
          refine lv_iinc (v := nI (i + 1)) (lv' := [(5, .int (nI (i + 1))), (2, .int (x + 0)), (7, .null), (6, .ref (ad (9 + i))), (4, .int (30)), (3, .ref (ad (2))), (0, .ref (ad (430))), (1, .ref (ad (3 + k)))]) hx hb dX4_lengthByPrints_84 hl (k := 3) rfl (nI_1 _) (by decide) rfl (fun ls hl => ?_)
          refine lv_goto (tgt := 17) hx hb dX4_lengthByPrints_87 (by decide) ?_
          exact ih (i + 1) (x + 0) (by omega) (by omega) (by rw [foldI_succ, ← hi_0]; simp [b2i, f_len, F_len, c_2]) ls (lv_sub hl [0, 4, 5, 1, 6, 7] rfl)
        · rw [b2i_eq0] at c_2
          refine lv_aload_n hx hb dX4_lengthByPrints_42 rfl (lv_at hl 5 rfl) ?_
          refine sp_get hx hb hts wi_X4_lengthByPrints_X4 hown hK hP (κ := 430) (by decide) cE_proof rfl 0 (by decide) (hts _ (List.mem_of_getElem? (i := 1) rfl)) (fun _ h => h) rfl dX4_lengthByPrints_43 ?_
          refine lv_aload hx hb dX4_lengthByPrints_46 (lv_at hl 0 rfl) ?_
          refine sp_call (W.runV (As := [.ref (ad (9 + i))]) (rest := []) ⟨hx, hb, hml, hown, hts⟩ (c_X0_before l D ad cy pm rj σ i (by omega)) (cwV 1 hts gX4_lengthByPrints_X0_before rfl rfl rfl (by decide +kernel) ⟨Nat.le_of_ble_eq_true rfl, Nat.le_of_ble_eq_true rfl⟩) (sp_preV hK hP (κ := 0) (by omega) (cE_beach (by omega) (by omega)) rfl) rfl rfl hl.1 rfl (lv_room (Nat.le_of_ble_eq_true rfl)) dX4_lengthByPrints_48 ⟨Nat.le_of_ble_eq_true rfl, Nat.le_of_ble_eq_true rfl⟩) ?_
          rcases q_3 : f_before σ i with _ | j_4
          · refine W.eq (g2 := F0 m 51 ls [.null]) rfl ?_
            refine lv_goto (tgt := 55) hx hb dX4_lengthByPrints_51 (by decide) ?_
            refine lv_astoreN (lv' := [(7, .null), (6, .ref (ad (9 + i))), (5, .int (nI i)), (4, .int (30)), (3, .ref (ad (2))), (2, .int (x)), (0, .ref (ad (430))), (1, .ref (ad (3 + k)))]) hx hb dX4_lengthByPrints_55 hl (by decide) rfl (fun ls hl => ?_)
            refine lv_iload_n hx hb dX4_lengthByPrints_57 rfl (lv_at hl 5 rfl) ?_
            refine lv_aloadN hx hb dX4_lengthByPrints_58 (lv_at hl 0 rfl) ?_
            refine lv_ifnonnullN hx hb dX4_lengthByPrints_60 ?_
            refine lv_iconst (v := 0) hx hb dX4_lengthByPrints_63 (by decide) ?_
            refine lv_goto (tgt := 82) hx hb dX4_lengthByPrints_64 (by decide) ?_
            refine lv_iadd hx hb dX4_lengthByPrints_82 ?_
            refine lv_istore_n (lv' := [(2, .int (x + 0)), (7, .null), (6, .ref (ad (9 + i))), (5, .int (nI i)), (4, .int (30)), (3, .ref (ad (2))), (0, .ref (ad (430))), (1, .ref (ad (3 + k)))]) hx hb dX4_lengthByPrints_83 rfl hl (by decide) rfl (fun ls hl => ?_)
            refine lv_iinc (v := nI (i + 1)) (lv' := [(5, .int (nI (i + 1))), (2, .int (x + 0)), (7, .null), (6, .ref (ad (9 + i))), (4, .int (30)), (3, .ref (ad (2))), (0, .ref (ad (430))), (1, .ref (ad (3 + k)))]) hx hb dX4_lengthByPrints_84 hl (k := 3) rfl (nI_1 _) (by decide) rfl (fun ls hl => ?_)
            refine lv_goto (tgt := 17) hx hb dX4_lengthByPrints_87 (by decide) ?_
            exact ih (i + 1) (x + 0) (by omega) (by omega) (by rw [foldI_succ, ← hi_0]; simp [b2i, f_len, F_len, c_2, q_3]) ls (lv_sub hl [0, 4, 5, 1, 6, 7] rfl)
          · have hj_4 := f_before_lt q_3
            refine W.eq (g2 := F0 m 51 ls [.ref (ad (9 + j_4))]) rfl ?_
            refine lv_goto (tgt := 55) hx hb dX4_lengthByPrints_51 (by decide) ?_
            refine lv_astore (lv' := [(7, .ref (ad (9 + j_4))), (6, .ref (ad (9 + i))), (5, .int (nI i)), (4, .int (30)), (3, .ref (ad (2))), (2, .int (x)), (0, .ref (ad (430))), (1, .ref (ad (3 + k)))]) hx hb dX4_lengthByPrints_55 hl (by decide) rfl (fun ls hl => ?_)
            refine lv_iload_n hx hb dX4_lengthByPrints_57 rfl (lv_at hl 5 rfl) ?_
            refine lv_aload hx hb dX4_lengthByPrints_58 (lv_at hl 0 rfl) ?_
            refine lv_ifnonnull (tgt := 67) hx hb dX4_lengthByPrints_60 (by decide) ?_
            refine lv_aload hx hb dX4_lengthByPrints_67 (lv_at hl 1 rfl) ?_
            refine lv_aload hx hb dX4_lengthByPrints_69 (lv_at hl 0 rfl) ?_
            refine sp_get hx hb hts wi_X4_lengthByPrints_X3 hown hK hP (κ := 9 + j_4) (by omega) (cE_print (by omega) (by omega)) rfl 4 (by decide) (hts _ (List.mem_of_getElem? (i := 4) rfl)) (fun _ h => h) rfl dX4_lengthByPrints_71 ?_
            refine lv_aload hx hb dX4_lengthByPrints_74 (lv_at hl 0 rfl) ?_
            refine sp_get hx hb hts wi_X4_lengthByPrints_X3 hown hK hP (κ := 9 + j_4) (by omega) (cE_print (by omega) (by omega)) rfl 5 (by decide) (hts _ (List.mem_of_getElem? (i := 5) rfl)) (fun _ h => h) rfl dX4_lengthByPrints_76 ?_
            refine sp_call (W.runV (As := [.int (σ (9 + j_4) 4), .int (σ (9 + j_4) 5)]) (rest := [.int (x)]) ⟨hx, hb, hml, hown, hts⟩ (c_X3_distanceTo l D ad cy pm rj σ (9 + i) (by omega) (by omega) (σ (9 + j_4) 4) (σ (9 + j_4) 5)) (cwV 2 hts gX4_lengthByPrints_X3_distanceTo rfl rfl rfl (by decide +kernel) ⟨Nat.le_of_ble_eq_true rfl, Nat.le_of_ble_eq_true rfl⟩) (sp_preV hK hP (κ := 9 + i) (by omega) (cE_print (by omega) (by omega)) rfl) rfl rfl hl.1 rfl (lv_room (Nat.le_of_ble_eq_true rfl)) dX4_lengthByPrints_79 ⟨Nat.le_of_ble_eq_true rfl, Nat.le_of_ble_eq_true rfl⟩) ?_
            refine W.eq (g2 := F0 m 82 ls [.int (f_dist σ (9 + i) (σ (9 + j_4) 4) (σ (9 + j_4) 5)), .int (x)]) rfl ?_
            refine lv_iadd hx hb dX4_lengthByPrints_82 ?_
            refine lv_istore_n (lv' := [(2, .int (x + (f_dist σ (9 + i) (σ (9 + j_4) 4) (σ (9 + j_4) 5)))), (7, .ref (ad (9 + j_4))), (6, .ref (ad (9 + i))), (5, .int (nI i)), (4, .int (30)), (3, .ref (ad (2))), (0, .ref (ad (430))), (1, .ref (ad (3 + k)))]) hx hb dX4_lengthByPrints_83 rfl hl (by decide) rfl (fun ls hl => ?_)
            refine lv_iinc (v := nI (i + 1)) (lv' := [(5, .int (nI (i + 1))), (2, .int (x + (f_dist σ (9 + i) (σ (9 + j_4) 4) (σ (9 + j_4) 5)))), (7, .ref (ad (9 + j_4))), (6, .ref (ad (9 + i))), (4, .int (30)), (3, .ref (ad (2))), (0, .ref (ad (430))), (1, .ref (ad (3 + k)))]) hx hb dX4_lengthByPrints_84 hl (k := 3) rfl (nI_1 _) (by decide) rfl (fun ls hl => ?_)
            refine lv_goto (tgt := 17) hx hb dX4_lengthByPrints_87 (by decide) ?_
            exact ih (i + 1) (x + (f_dist σ (9 + i) (σ (9 + j_4) 4) (σ (9 + j_4) 5))) (by omega) (by omega) (by rw [foldI_succ, ← hi_0]; simp [b2i, f_len, F_len, c_2, q_3]) ls (lv_sub hl [0, 4, 5, 1, 6, 7] rfl)
  exact loop_17 (30 + 1) (0) (0)  (by omega) (by omega) (rfl) ls (lv_sub hl [0, 1, 2, 3, 4, 5] rfl)

theorem wi_X4_errorsByKinds_X4 : ∀ w ∈ wsX40, w ∈ wsX4_errorsByKinds := by decide +kernel
theorem wi_X4_errorsByKinds_X0 : ∀ w ∈ wsX00, w ∈ wsX4_errorsByKinds := by decide +kernel
set_option maxHeartbeats 4000000 in
set_option maxRecDepth 100000 in
theorem c_X4_errorsByKinds (l : Launch) (D : va_G) (ad : Nat → Nat) (cy : Nat → ClassId) (pm : Nat → Nat) (rj : Option Nat) (σ : Nat → Nat → Int32) (t : Int32) : Met l yX4_errorsByKinds wsX4_errorsByKinds ({ frames := 3, cells := 0, slots := 0, locals := 67 } : Room) (sp_Pc D (tyG cy) [.ref (ad (430)), .int (t)] (cW ad cy pm rj σ)) (sp_S (some (.int (f_errsK σ t)))) 0 0 (fun _ => False) := by
  refine Met.ofW (cc := cX4_errorsByKinds) (maxL := 9) (ret := (some .int)) (by decide) rfl ?_
  intro p e s m args below meth c s₁ B hml hv
  obtain ⟨rfl, hP, hK⟩ := hv
  have hx := B.exec
  have hb := B.bytes
  have hr := B.returns
  have hts := atoms_spec (ws := wsX4_errorsByKinds) B.pre
  have hown : s.vm.findClass RX4 = some m.cls := findClass_of_methodNamed B.named
  have hlocks := B.notSynchronized
  have hl := lv_entry ([.ref (ad (430)), .int (t)]) (n := 9) (Nat.le_of_ble_eq_true rfl)
  refine W.eq (lg_entry_eq _ ([.ref (ad (430)), .int (t)]) _) ?_
  generalize (lg_sl ([.ref (ad (430)), .int (t)]) ++ List.replicate (9 - (lg_sl ([.ref (ad (430)), .int (t)])).length) Slot.unset).toArray = ls at hl ⊢
  have hl : lv_has ls 9 [(0, .ref (ad (430))), (1, .int (t))] := hl
  refine lv_iconst (v := 0) hx hb dX4_errorsByKinds_0 (by decide) ?_
  refine lv_istore_n (lv' := [(2, .int (0)), (0, .ref (ad (430))), (1, .int (t))]) hx hb dX4_errorsByKinds_1 rfl hl (by decide) rfl (fun ls hl => ?_)
  refine lv_aload_n hx hb dX4_errorsByKinds_2 rfl (lv_at hl 1 rfl) ?_
  refine sp_get hx hb hts wi_X4_errorsByKinds_X4 hown hK hP (κ := 430) (by decide) cE_proof rfl 0 (by decide) (hts _ (List.mem_of_getElem? (i := 1) rfl)) (fun _ h => h) rfl dX4_errorsByKinds_3 ?_
  refine sp_get hx hb hts wi_X4_errorsByKinds_X0 hown hK hP (κ := 0) (by omega) (cE_beach (by omega) (by omega)) rfl 1 (by decide) (hts _ (List.mem_of_getElem? (i := 2) rfl)) (fun _ h => h) rfl dX4_errorsByKinds_6 ?_
  refine lv_astore_n (lv' := [(3, .ref (ad (2))), (2, .int (0)), (0, .ref (ad (430))), (1, .int (t))]) hx hb dX4_errorsByKinds_9 rfl hl (by decide) rfl (fun ls hl => ?_)
  refine lv_aload_n hx hb dX4_errorsByKinds_10 rfl (lv_at hl 0 rfl) ?_
  refine sp_alen hx hb hK hP (κ := 2) (by omega) 4 (cE_prints (by omega) (by omega)) rfl (v := 30) rfl dX4_errorsByKinds_11 ?_
  refine lv_istore (lv' := [(4, .int (30)), (3, .ref (ad (2))), (2, .int (0)), (0, .ref (ad (430))), (1, .int (t))]) hx hb dX4_errorsByKinds_12 hl (by decide) rfl (fun ls hl => ?_)
  refine lv_iconst (v := 0) hx hb dX4_errorsByKinds_14 (by decide) ?_
  refine lv_istore (lv' := [(5, .int (0)), (4, .int (30)), (3, .ref (ad (2))), (2, .int (0)), (0, .ref (ad (430))), (1, .int (t))]) hx hb dX4_errorsByKinds_15 hl (by decide) rfl (fun ls hl => ?_)
  have loop_17 : ∀ (n i : Nat) (x : Int32), (i ≤ 30) → (30 - i < n) → (x = foldI (F_k1 σ t) 0 i) → ∀ ls : Array Slot, lv_has ls 9 [(5, .int (nI i)), (4, .int (30)), (3, .ref (ad (2))), (2, .int (x)), (0, .ref (ad (430))), (1, .int (t))] → W p l e (headSpec wsX4_errorsByKinds ({ frames := 3, cells := 0, slots := 0, locals := 67 } : Room)).room s m ([.ref (ad (430)), .int (t)] : List Value).toArray below meth c s.heap [] 0 0 (MQ below (sp_S (some (.int (f_errsK σ t)))) ([.ref (ad (430)), .int (t)] : List Value).toArray s 0 0 (fun _ => False)) (F0 m 17 ls []) := by
    intro n
    induction n with
    | zero => intro i x hle hlt hi_0 ls hl; exact absurd hlt (Nat.not_lt_zero _)
    | succ n ih =>
      intro i x hle hlt hi_0 ls hl
      refine lv_iload hx hb dX4_errorsByKinds_17 (lv_at hl 0 rfl) ?_
      refine lv_iload hx hb dX4_errorsByKinds_19 (lv_at hl 1 rfl) ?_
      refine lv_icmp_ge (tgt := 71) hx hb dX4_errorsByKinds_21 (by decide) (fun c_1 => ?_) (fun c_1 => ?_)
      · skip
        have c_1d := Int32.not_lt.mpr c_1
        have hx_i : i = 30 := by have := (nI_leI (a := 30) (b := i) (by omega) (by omega)).mp c_1; omega
        try rw [hx_i] at hi_0
        refine lv_iconst (v := 0) hx hb dX4_errorsByKinds_71 (by decide) ?_
        refine lv_istore_n (lv' := [(3, .int (0)), (5, .int (nI i)), (4, .int (30)), (2, .int (x)), (0, .ref (ad (430))), (1, .int (t))]) hx hb dX4_errorsByKinds_72 rfl hl (by decide) rfl (fun ls hl => ?_)
        refine lv_aload_n hx hb dX4_errorsByKinds_73 rfl (lv_at hl 4 rfl) ?_
        refine sp_get hx hb hts wi_X4_errorsByKinds_X4 hown hK hP (κ := 430) (by decide) cE_proof rfl 0 (by decide) (hts _ (List.mem_of_getElem? (i := 1) rfl)) (fun _ h => h) rfl dX4_errorsByKinds_74 ?_
        refine sp_get hx hb hts wi_X4_errorsByKinds_X0 hown hK hP (κ := 0) (by omega) (cE_beach (by omega) (by omega)) rfl 1 (by decide) (hts _ (List.mem_of_getElem? (i := 2) rfl)) (fun _ h => h) rfl dX4_errorsByKinds_77 ?_
        refine lv_astore (lv' := [(4, .ref (ad (2))), (3, .int (0)), (5, .int (nI i)), (2, .int (x)), (0, .ref (ad (430))), (1, .int (t))]) hx hb dX4_errorsByKinds_80 hl (by decide) rfl (fun ls hl => ?_)
        refine lv_aload hx hb dX4_errorsByKinds_82 (lv_at hl 0 rfl) ?_
        refine sp_alen hx hb hK hP (κ := 2) (by omega) 4 (cE_prints (by omega) (by omega)) rfl (v := 30) rfl dX4_errorsByKinds_84 ?_
        refine lv_istore (lv' := [(5, .int (30)), (4, .ref (ad (2))), (3, .int (0)), (2, .int (x)), (0, .ref (ad (430))), (1, .int (t))]) hx hb dX4_errorsByKinds_85 hl (by decide) rfl (fun ls hl => ?_)
        refine lv_iconst (v := 0) hx hb dX4_errorsByKinds_87 (by decide) ?_
        refine lv_istore (lv' := [(6, .int (0)), (5, .int (30)), (4, .ref (ad (2))), (3, .int (0)), (2, .int (x)), (0, .ref (ad (430))), (1, .int (t))]) hx hb dX4_errorsByKinds_88 hl (by decide) rfl (fun ls hl => ?_)
        have loop_90 : ∀ (n a : Nat) (y : Int32), (a ≤ 30) → (30 - a < n) → (y = foldI (F_k2 σ t) 0 a) → ∀ ls : Array Slot, lv_has ls 9 [(6, .int (nI a)), (5, .int (30)), (4, .ref (ad (2))), (3, .int (y)), (2, .int (x)), (0, .ref (ad (430))), (1, .int (t))] → W p l e (headSpec wsX4_errorsByKinds ({ frames := 3, cells := 0, slots := 0, locals := 67 } : Room)).room s m ([.ref (ad (430)), .int (t)] : List Value).toArray below meth c s.heap [] 0 0 (MQ below (sp_S (some (.int (f_errsK σ t)))) ([.ref (ad (430)), .int (t)] : List Value).toArray s 0 0 (fun _ => False)) (F0 m 90 ls []) := by
          intro n
          induction n with
          | zero => intro a y hle hlt ha_0 ls hl; exact absurd hlt (Nat.not_lt_zero _)
          | succ n ih =>
            intro a y hle hlt ha_0 ls hl
            refine lv_iload hx hb dX4_errorsByKinds_90 (lv_at hl 0 rfl) ?_
            refine lv_iload hx hb dX4_errorsByKinds_92 (lv_at hl 1 rfl) ?_
            refine lv_icmp_ge (tgt := 145) hx hb dX4_errorsByKinds_94 (by decide) (fun c_2 => ?_) (fun c_2 => ?_)
            · skip
              have c_2d := Int32.not_lt.mpr c_2
              have hx_a : a = 30 := by have := (nI_leI (a := 30) (b := a) (by omega) (by omega)).mp c_2; omega
              try rw [hx_a] at ha_0
              refine lv_iconst (v := 0) hx hb dX4_errorsByKinds_145 (by decide) ?_
              refine lv_istore (lv' := [(4, .int (0)), (6, .int (nI a)), (5, .int (30)), (3, .int (y)), (2, .int (x)), (0, .ref (ad (430))), (1, .int (t))]) hx hb dX4_errorsByKinds_146 hl (by decide) rfl (fun ls hl => ?_)
              refine lv_aload_n hx hb dX4_errorsByKinds_148 rfl (lv_at hl 5 rfl) ?_
              refine sp_get hx hb hts wi_X4_errorsByKinds_X4 hown hK hP (κ := 430) (by decide) cE_proof rfl 0 (by decide) (hts _ (List.mem_of_getElem? (i := 1) rfl)) (fun _ h => h) rfl dX4_errorsByKinds_149 ?_
              refine sp_get hx hb hts wi_X4_errorsByKinds_X0 hown hK hP (κ := 0) (by omega) (cE_beach (by omega) (by omega)) rfl 1 (by decide) (hts _ (List.mem_of_getElem? (i := 2) rfl)) (fun _ h => h) rfl dX4_errorsByKinds_152 ?_
              refine lv_astore (lv' := [(5, .ref (ad (2))), (4, .int (0)), (6, .int (nI a)), (3, .int (y)), (2, .int (x)), (0, .ref (ad (430))), (1, .int (t))]) hx hb dX4_errorsByKinds_155 hl (by decide) rfl (fun ls hl => ?_)
              refine lv_aload hx hb dX4_errorsByKinds_157 (lv_at hl 0 rfl) ?_
              refine sp_alen hx hb hK hP (κ := 2) (by omega) 4 (cE_prints (by omega) (by omega)) rfl (v := 30) rfl dX4_errorsByKinds_159 ?_
              refine lv_istore (lv' := [(6, .int (30)), (5, .ref (ad (2))), (4, .int (0)), (3, .int (y)), (2, .int (x)), (0, .ref (ad (430))), (1, .int (t))]) hx hb dX4_errorsByKinds_160 hl (by decide) rfl (fun ls hl => ?_)
              refine lv_iconst (v := 0) hx hb dX4_errorsByKinds_162 (by decide) ?_
              refine lv_istore (lv' := [(7, .int (0)), (6, .int (30)), (5, .ref (ad (2))), (4, .int (0)), (3, .int (y)), (2, .int (x)), (0, .ref (ad (430))), (1, .int (t))]) hx hb dX4_errorsByKinds_163 hl (by decide) rfl (fun ls hl => ?_)
              have loop_165 : ∀ (n b : Nat) (z : Int32), (b ≤ 30) → (30 - b < n) → (z = foldI (F_k3 σ t) 0 b) → ∀ ls : Array Slot, lv_has ls 9 [(7, .int (nI b)), (6, .int (30)), (5, .ref (ad (2))), (4, .int (z)), (3, .int (y)), (2, .int (x)), (0, .ref (ad (430))), (1, .int (t))] → W p l e (headSpec wsX4_errorsByKinds ({ frames := 3, cells := 0, slots := 0, locals := 67 } : Room)).room s m ([.ref (ad (430)), .int (t)] : List Value).toArray below meth c s.heap [] 0 0 (MQ below (sp_S (some (.int (f_errsK σ t)))) ([.ref (ad (430)), .int (t)] : List Value).toArray s 0 0 (fun _ => False)) (F0 m 165 ls []) := by
                intro n
                induction n with
                | zero => intro b z hle hlt hb_0 ls hl; exact absurd hlt (Nat.not_lt_zero _)
                | succ n ih =>
                  intro b z hle hlt hb_0 ls hl
                  refine lv_iload hx hb dX4_errorsByKinds_165 (lv_at hl 0 rfl) ?_
                  refine lv_iload hx hb dX4_errorsByKinds_167 (lv_at hl 1 rfl) ?_
                  refine lv_icmp_ge (tgt := 222) hx hb dX4_errorsByKinds_169 (by decide) (fun c_3 => ?_) (fun c_3 => ?_)
                  · skip
                    have c_3d := Int32.not_lt.mpr c_3
                    have hx_b : b = 30 := by have := (nI_leI (a := 30) (b := b) (by omega) (by omega)).mp c_3; omega
                    try rw [hx_b] at hb_0
                    refine lv_iload_n hx hb dX4_errorsByKinds_222 rfl (lv_at hl 5 rfl) ?_
                    refine lv_iload_n hx hb dX4_errorsByKinds_223 rfl (lv_at hl 4 rfl) ?_
                    refine lv_iadd hx hb dX4_errorsByKinds_224 ?_
                    refine lv_iload hx hb dX4_errorsByKinds_225 (lv_at hl 3 rfl) ?_
                    refine lv_iadd hx hb dX4_errorsByKinds_227 ?_
                    exact W.iret (v := (x + y) + z) hx hb hr (fun T9 hT9 _ => ⟨by rw [show ((x + y) + z : Int32) = f_errsK σ t from (by unfold f_errsK; rw [← hi_0, ← ha_0, ← hb_0])], hT9⟩) (fun _ h => by cases h) dX4_errorsByKinds_228
                  · skip
                    have c_3d := Int32.not_le.mp c_3
                    have hb_b : b < 30 := Nat.lt_of_not_le (fun z => c_3 (nI_le z (by omega)))
                    refine lv_aload hx hb dX4_errorsByKinds_172 (lv_at hl 2 rfl) ?_
                    refine lv_iload hx hb dX4_errorsByKinds_174 (lv_at hl 0 rfl) ?_
                    refine sp_aald hx hb hK hP (κ := 2) (by omega) 4 (cE_prints (by omega) (by omega)) rfl b rfl (by omega) (by decide) (q := ad (9 + b)) rfl dX4_errorsByKinds_176 ?_
                    refine lv_astore (lv' := [(8, .ref (ad (9 + b))), (7, .int (nI b)), (6, .int (30)), (5, .ref (ad (2))), (4, .int (z)), (3, .int (y)), (2, .int (x)), (0, .ref (ad (430))), (1, .int (t))]) hx hb dX4_errorsByKinds_177 hl (by decide) rfl (fun ls hl => ?_)
                    refine lv_iload hx hb dX4_errorsByKinds_179 (lv_at hl 4 rfl) ?_
                    refine lv_aload hx hb dX4_errorsByKinds_181 (lv_at hl 0 rfl) ?_
                    refine lv_iload_n hx hb dX4_errorsByKinds_183 rfl (lv_at hl 8 rfl) ?_
                    refine sp_call (W.runV (As := [.int (t)]) (rest := [.int (z)]) ⟨hx, hb, hml, hown, hts⟩ (c_X3_isOn l D ad cy pm rj σ (9 + b) (by omega) (by omega) t) (cwV 1 hts gX4_errorsByKinds_X3_isOn rfl rfl rfl (by decide +kernel) ⟨Nat.le_of_ble_eq_true rfl, Nat.le_of_ble_eq_true rfl⟩) (sp_preV hK hP (κ := 9 + b) (by omega) (cE_print (by omega) (by omega)) rfl) rfl rfl hl.1 rfl (lv_room (Nat.le_of_ble_eq_true rfl)) dX4_errorsByKinds_184 ⟨Nat.le_of_ble_eq_true rfl, Nat.le_of_ble_eq_true rfl⟩) ?_
                    refine W.eq (g2 := F0 m 187 ls [.int (b2i (f_isOn σ (9 + b) t)), .int (z)]) rfl ?_
                    refine lv_if_eq (tgt := 212) hx hb dX4_errorsByKinds_187 (by decide) (fun c_4 => ?_) (fun c_4 => ?_)
                    · rw [b2i_eq0] at c_4
                      refine lv_iconst (v := 0) hx hb dX4_errorsByKinds_212 (by decide) ?_
                      refine lv_iadd hx hb dX4_errorsByKinds_213 ?_
                      refine lv_istore (lv' := [(4, .int (z + 0)), (8, .ref (ad (9 + b))), (7, .int (nI b)), (6, .int (30)), (5, .ref (ad (2))), (3, .int (y)), (2, .int (x)), (0, .ref (ad (430))), (1, .int (t))]) hx hb dX4_errorsByKinds_214 hl (by decide) rfl (fun ls hl => ?_)
                      refine lv_iinc (v := nI (b + 1)) (lv' := [(7, .int (nI (b + 1))), (4, .int (z + 0)), (8, .ref (ad (9 + b))), (6, .int (30)), (5, .ref (ad (2))), (3, .int (y)), (2, .int (x)), (0, .ref (ad (430))), (1, .int (t))]) hx hb dX4_errorsByKinds_216 hl (k := 2) rfl (nI_1 _) (by decide) rfl (fun ls hl => ?_)
                      refine lv_goto (tgt := 165) hx hb dX4_errorsByKinds_219 (by decide) ?_
                      exact ih (b + 1) (z + 0) (by omega) (by omega) (by rw [foldI_succ, ← hb_0]; simp [b2i, F_k1, F_k2, F_k3, c_4]) ls (lv_sub hl [0, 3, 4, 1, 5, 6, 7, 8] rfl)
                    · rw [b2i_eq0] at c_4
                      refine lv_aload_n hx hb dX4_errorsByKinds_190 rfl (lv_at hl 7 rfl) ?_
                      refine lv_aload_n hx hb dX4_errorsByKinds_191 rfl (lv_at hl 7 rfl) ?_
                      refine sp_get hx hb hts wi_X4_errorsByKinds_X4 hown hK hP (κ := 430) (by decide) cE_proof rfl 0 (by decide) (hts _ (List.mem_of_getElem? (i := 1) rfl)) (fun _ h => h) rfl dX4_errorsByKinds_192 ?_
                      refine lv_aload hx hb dX4_errorsByKinds_195 (lv_at hl 0 rfl) ?_
                      refine sp_call (W.runV (As := [.ref (ad (9 + b))]) (rest := [.ref (ad (430)), .int (z)]) ⟨hx, hb, hml, hown, hts⟩ (c_X0_before l D ad cy pm rj σ b (by omega)) (cwV 1 hts gX4_errorsByKinds_X0_before rfl rfl rfl (by decide +kernel) ⟨Nat.le_of_ble_eq_true rfl, Nat.le_of_ble_eq_true rfl⟩) (sp_preV hK hP (κ := 0) (by omega) (cE_beach (by omega) (by omega)) rfl) rfl rfl hl.1 rfl (lv_room (Nat.le_of_ble_eq_true rfl)) dX4_errorsByKinds_197 ⟨Nat.le_of_ble_eq_true rfl, Nat.le_of_ble_eq_true rfl⟩) ?_
                      rcases q_5 : f_before σ b with _ | j_6
                      · refine W.eq (g2 := F0 m 200 ls [.null, .ref (ad (430)), .int (z)]) rfl ?_
                        refine lv_aload hx hb dX4_errorsByKinds_200 (lv_at hl 0 rfl) ?_
                        refine sp_call (W.runV (As := [.null, .ref (ad (9 + b))]) (rest := [.int (z)]) ⟨hx, hb, hml, hown, hts⟩ (c_X4_isUneven l D ad cy pm rj σ (none : Option Nat) (by intro j hj; first | (cases hj; done) | (cases hj; omega)) b (by omega)) (cwV 2 hts gX4_errorsByKinds_X4_isUneven rfl rfl rfl (by decide +kernel) ⟨Nat.le_of_ble_eq_true rfl, Nat.le_of_ble_eq_true rfl⟩) (sp_preV hK hP (κ := 430) (by decide) cE_proof rfl) rfl rfl hl.1 rfl (lv_room (Nat.le_of_ble_eq_true rfl)) dX4_errorsByKinds_202 ⟨Nat.le_of_ble_eq_true rfl, Nat.le_of_ble_eq_true rfl⟩) ?_
                        refine W.eq (g2 := F0 m 205 ls [.int (b2i (f_uneven σ (none : Option Nat) b)), .int (z)]) rfl ?_
                        refine lv_if_eq (tgt := 212) hx hb dX4_errorsByKinds_205 (by decide) (fun c_7 => ?_) (fun c_7 => ?_)
                        · rw [b2i_eq0] at c_7
                          refine lv_iconst (v := 0) hx hb dX4_errorsByKinds_212 (by decide) ?_
                          refine lv_iadd hx hb dX4_errorsByKinds_213 ?_
                          refine lv_istore (lv' := [(4, .int (z + 0)), (8, .ref (ad (9 + b))), (7, .int (nI b)), (6, .int (30)), (5, .ref (ad (2))), (3, .int (y)), (2, .int (x)), (0, .ref (ad (430))), (1, .int (t))]) hx hb dX4_errorsByKinds_214 hl (by decide) rfl (fun ls hl => ?_)
                          refine lv_iinc (v := nI (b + 1)) (lv' := [(7, .int (nI (b + 1))), (4, .int (z + 0)), (8, .ref (ad (9 + b))), (6, .int (30)), (5, .ref (ad (2))), (3, .int (y)), (2, .int (x)), (0, .ref (ad (430))), (1, .int (t))]) hx hb dX4_errorsByKinds_216 hl (k := 2) rfl (nI_1 _) (by decide) rfl (fun ls hl => ?_)
                          refine lv_goto (tgt := 165) hx hb dX4_errorsByKinds_219 (by decide) ?_
                          exact ih (b + 1) (z + 0) (by omega) (by omega) (by rw [foldI_succ, ← hb_0]; simp [b2i, F_k1, F_k2, F_k3, c_4, q_5, c_7]) ls (lv_sub hl [0, 3, 4, 1, 5, 6, 7, 8] rfl)
                        · rw [b2i_eq0] at c_7
                          refine lv_iconst (v := 1) hx hb dX4_errorsByKinds_208 (by decide) ?_
                          refine lv_goto (tgt := 213) hx hb dX4_errorsByKinds_209 (by decide) ?_
                          refine lv_iadd hx hb dX4_errorsByKinds_213 ?_
                          refine lv_istore (lv' := [(4, .int (z + 1)), (8, .ref (ad (9 + b))), (7, .int (nI b)), (6, .int (30)), (5, .ref (ad (2))), (3, .int (y)), (2, .int (x)), (0, .ref (ad (430))), (1, .int (t))]) hx hb dX4_errorsByKinds_214 hl (by decide) rfl (fun ls hl => ?_)
                          refine lv_iinc (v := nI (b + 1)) (lv' := [(7, .int (nI (b + 1))), (4, .int (z + 1)), (8, .ref (ad (9 + b))), (6, .int (30)), (5, .ref (ad (2))), (3, .int (y)), (2, .int (x)), (0, .ref (ad (430))), (1, .int (t))]) hx hb dX4_errorsByKinds_216 hl (k := 2) rfl (nI_1 _) (by decide) rfl (fun ls hl => ?_)
                          refine lv_goto (tgt := 165) hx hb dX4_errorsByKinds_219 (by decide) ?_
                          exact ih (b + 1) (z + 1) (by omega) (by omega) (by rw [foldI_succ, ← hb_0]; simp [b2i, F_k1, F_k2, F_k3, c_4, q_5, c_7]) ls (lv_sub hl [0, 3, 4, 1, 5, 6, 7, 8] rfl)
                      · have hj_6 := f_before_lt q_5
                        refine W.eq (g2 := F0 m 200 ls [.ref (ad (9 + j_6)), .ref (ad (430)), .int (z)]) rfl ?_
                        refine lv_aload hx hb dX4_errorsByKinds_200 (lv_at hl 0 rfl) ?_
                        refine sp_call (W.runV (As := [.ref (ad (9 + j_6)), .ref (ad (9 + b))]) (rest := [.int (z)]) ⟨hx, hb, hml, hown, hts⟩ (c_X4_isUneven l D ad cy pm rj σ (some (j_6)) (by intro j hj; first | (cases hj; done) | (cases hj; omega)) b (by omega)) (cwV 2 hts gX4_errorsByKinds_X4_isUneven rfl rfl rfl (by decide +kernel) ⟨Nat.le_of_ble_eq_true rfl, Nat.le_of_ble_eq_true rfl⟩) (sp_preV hK hP (κ := 430) (by decide) cE_proof rfl) rfl rfl hl.1 rfl (lv_room (Nat.le_of_ble_eq_true rfl)) dX4_errorsByKinds_202 ⟨Nat.le_of_ble_eq_true rfl, Nat.le_of_ble_eq_true rfl⟩) ?_
                        refine W.eq (g2 := F0 m 205 ls [.int (b2i (f_uneven σ (some (j_6)) b)), .int (z)]) rfl ?_
                        refine lv_if_eq (tgt := 212) hx hb dX4_errorsByKinds_205 (by decide) (fun c_8 => ?_) (fun c_8 => ?_)
                        · rw [b2i_eq0] at c_8
                          refine lv_iconst (v := 0) hx hb dX4_errorsByKinds_212 (by decide) ?_
                          refine lv_iadd hx hb dX4_errorsByKinds_213 ?_
                          refine lv_istore (lv' := [(4, .int (z + 0)), (8, .ref (ad (9 + b))), (7, .int (nI b)), (6, .int (30)), (5, .ref (ad (2))), (3, .int (y)), (2, .int (x)), (0, .ref (ad (430))), (1, .int (t))]) hx hb dX4_errorsByKinds_214 hl (by decide) rfl (fun ls hl => ?_)
                          refine lv_iinc (v := nI (b + 1)) (lv' := [(7, .int (nI (b + 1))), (4, .int (z + 0)), (8, .ref (ad (9 + b))), (6, .int (30)), (5, .ref (ad (2))), (3, .int (y)), (2, .int (x)), (0, .ref (ad (430))), (1, .int (t))]) hx hb dX4_errorsByKinds_216 hl (k := 2) rfl (nI_1 _) (by decide) rfl (fun ls hl => ?_)
                          refine lv_goto (tgt := 165) hx hb dX4_errorsByKinds_219 (by decide) ?_
                          exact ih (b + 1) (z + 0) (by omega) (by omega) (by rw [foldI_succ, ← hb_0]; simp [b2i, F_k1, F_k2, F_k3, c_4, q_5, c_8]) ls (lv_sub hl [0, 3, 4, 1, 5, 6, 7, 8] rfl)
                        · rw [b2i_eq0] at c_8
                          refine lv_iconst (v := 1) hx hb dX4_errorsByKinds_208 (by decide) ?_
                          refine lv_goto (tgt := 213) hx hb dX4_errorsByKinds_209 (by decide) ?_
                          refine lv_iadd hx hb dX4_errorsByKinds_213 ?_
                          refine lv_istore (lv' := [(4, .int (z + 1)), (8, .ref (ad (9 + b))), (7, .int (nI b)), (6, .int (30)), (5, .ref (ad (2))), (3, .int (y)), (2, .int (x)), (0, .ref (ad (430))), (1, .int (t))]) hx hb dX4_errorsByKinds_214 hl (by decide) rfl (fun ls hl => ?_)
                          refine lv_iinc (v := nI (b + 1)) (lv' := [(7, .int (nI (b + 1))), (4, .int (z + 1)), (8, .ref (ad (9 + b))), (6, .int (30)), (5, .ref (ad (2))), (3, .int (y)), (2, .int (x)), (0, .ref (ad (430))), (1, .int (t))]) hx hb dX4_errorsByKinds_216 hl (k := 2) rfl (nI_1 _) (by decide) rfl (fun ls hl => ?_)
                          refine lv_goto (tgt := 165) hx hb dX4_errorsByKinds_219 (by decide) ?_
                          exact ih (b + 1) (z + 1) (by omega) (by omega) (by rw [foldI_succ, ← hb_0]; simp [b2i, F_k1, F_k2, F_k3, c_4, q_5, c_8]) ls (lv_sub hl [0, 3, 4, 1, 5, 6, 7, 8] rfl)
              exact loop_165 (30 + 1) (0) (0)  (by omega) (by omega) (rfl) ls (lv_sub hl [0, 1, 2, 3, 4, 5, 6, 7] rfl)
            · skip
              have c_2d := Int32.not_le.mp c_2
              have hb_a : a < 30 := Nat.lt_of_not_le (fun z => c_2 (nI_le z (by omega)))
              refine lv_aload hx hb dX4_errorsByKinds_97 (lv_at hl 2 rfl) ?_
              refine lv_iload hx hb dX4_errorsByKinds_99 (lv_at hl 0 rfl) ?_
              refine sp_aald hx hb hK hP (κ := 2) (by omega) 4 (cE_prints (by omega) (by omega)) rfl a rfl (by omega) (by decide) (q := ad (9 + a)) rfl dX4_errorsByKinds_101 ?_
              refine lv_astore (lv' := [(7, .ref (ad (9 + a))), (6, .int (nI a)), (5, .int (30)), (4, .ref (ad (2))), (3, .int (y)), (2, .int (x)), (0, .ref (ad (430))), (1, .int (t))]) hx hb dX4_errorsByKinds_102 hl (by decide) rfl (fun ls hl => ?_)
              refine lv_iload_n hx hb dX4_errorsByKinds_104 rfl (lv_at hl 4 rfl) ?_
              refine lv_aload hx hb dX4_errorsByKinds_105 (lv_at hl 0 rfl) ?_
              refine lv_iload_n hx hb dX4_errorsByKinds_107 rfl (lv_at hl 7 rfl) ?_
              refine sp_call (W.runV (As := [.int (t)]) (rest := [.int (y)]) ⟨hx, hb, hml, hown, hts⟩ (c_X3_isOn l D ad cy pm rj σ (9 + a) (by omega) (by omega) t) (cwV 1 hts gX4_errorsByKinds_X3_isOn rfl rfl rfl (by decide +kernel) ⟨Nat.le_of_ble_eq_true rfl, Nat.le_of_ble_eq_true rfl⟩) (sp_preV hK hP (κ := 9 + a) (by omega) (cE_print (by omega) (by omega)) rfl) rfl rfl hl.1 rfl (lv_room (Nat.le_of_ble_eq_true rfl)) dX4_errorsByKinds_108 ⟨Nat.le_of_ble_eq_true rfl, Nat.le_of_ble_eq_true rfl⟩) ?_
              refine W.eq (g2 := F0 m 111 ls [.int (b2i (f_isOn σ (9 + a) t)), .int (y)]) rfl ?_
              refine lv_if_eq (tgt := 136) hx hb dX4_errorsByKinds_111 (by decide) (fun c_9 => ?_) (fun c_9 => ?_)
              · rw [b2i_eq0] at c_9
                refine lv_iconst (v := 0) hx hb dX4_errorsByKinds_136 (by decide) ?_
                refine lv_iadd hx hb dX4_errorsByKinds_137 ?_
                refine lv_istore_n (lv' := [(3, .int (y + 0)), (7, .ref (ad (9 + a))), (6, .int (nI a)), (5, .int (30)), (4, .ref (ad (2))), (2, .int (x)), (0, .ref (ad (430))), (1, .int (t))]) hx hb dX4_errorsByKinds_138 rfl hl (by decide) rfl (fun ls hl => ?_)
                refine lv_iinc (v := nI (a + 1)) (lv' := [(6, .int (nI (a + 1))), (3, .int (y + 0)), (7, .ref (ad (9 + a))), (5, .int (30)), (4, .ref (ad (2))), (2, .int (x)), (0, .ref (ad (430))), (1, .int (t))]) hx hb dX4_errorsByKinds_139 hl (k := 2) rfl (nI_1 _) (by decide) rfl (fun ls hl => ?_)
                refine lv_goto (tgt := 90) hx hb dX4_errorsByKinds_142 (by decide) ?_
                exact ih (a + 1) (y + 0) (by omega) (by omega) (by rw [foldI_succ, ← ha_0]; simp [b2i, F_k1, F_k2, F_k3, c_9]) ls (lv_sub hl [0, 3, 4, 1, 5, 6, 7] rfl)
              · rw [b2i_eq0] at c_9
                refine lv_aload_n hx hb dX4_errorsByKinds_114 rfl (lv_at hl 6 rfl) ?_
                refine lv_aload_n hx hb dX4_errorsByKinds_115 rfl (lv_at hl 6 rfl) ?_
                refine sp_get hx hb hts wi_X4_errorsByKinds_X4 hown hK hP (κ := 430) (by decide) cE_proof rfl 0 (by decide) (hts _ (List.mem_of_getElem? (i := 1) rfl)) (fun _ h => h) rfl dX4_errorsByKinds_116 ?_
                refine lv_aload hx hb dX4_errorsByKinds_119 (lv_at hl 0 rfl) ?_
                refine sp_call (W.runV (As := [.ref (ad (9 + a))]) (rest := [.ref (ad (430)), .int (y)]) ⟨hx, hb, hml, hown, hts⟩ (c_X0_before l D ad cy pm rj σ a (by omega)) (cwV 1 hts gX4_errorsByKinds_X0_before rfl rfl rfl (by decide +kernel) ⟨Nat.le_of_ble_eq_true rfl, Nat.le_of_ble_eq_true rfl⟩) (sp_preV hK hP (κ := 0) (by omega) (cE_beach (by omega) (by omega)) rfl) rfl rfl hl.1 rfl (lv_room (Nat.le_of_ble_eq_true rfl)) dX4_errorsByKinds_121 ⟨Nat.le_of_ble_eq_true rfl, Nat.le_of_ble_eq_true rfl⟩) ?_
                rcases q_10 : f_before σ a with _ | j_11
                · refine W.eq (g2 := F0 m 124 ls [.null, .ref (ad (430)), .int (y)]) rfl ?_
                  refine lv_aload hx hb dX4_errorsByKinds_124 (lv_at hl 0 rfl) ?_
                  refine sp_call (W.runV (As := [.null, .ref (ad (9 + a))]) (rest := [.int (y)]) ⟨hx, hb, hml, hown, hts⟩ (c_X4_isSameFoot l D ad cy pm rj σ (none : Option Nat) (by intro j hj; first | (cases hj; done) | (cases hj; omega)) a (by omega)) (cwV 2 hts gX4_errorsByKinds_X4_isSameFoot rfl rfl rfl (by decide +kernel) ⟨Nat.le_of_ble_eq_true rfl, Nat.le_of_ble_eq_true rfl⟩) (sp_preV hK hP (κ := 430) (by decide) cE_proof rfl) rfl rfl hl.1 rfl (lv_room (Nat.le_of_ble_eq_true rfl)) dX4_errorsByKinds_126 ⟨Nat.le_of_ble_eq_true rfl, Nat.le_of_ble_eq_true rfl⟩) ?_
                  refine W.eq (g2 := F0 m 129 ls [.int (b2i (f_sameFoot σ (none : Option Nat) a)), .int (y)]) rfl ?_
                  refine lv_if_eq (tgt := 136) hx hb dX4_errorsByKinds_129 (by decide) (fun c_12 => ?_) (fun c_12 => ?_)
                  · rw [b2i_eq0] at c_12
                    refine lv_iconst (v := 0) hx hb dX4_errorsByKinds_136 (by decide) ?_
                    refine lv_iadd hx hb dX4_errorsByKinds_137 ?_
                    refine lv_istore_n (lv' := [(3, .int (y + 0)), (7, .ref (ad (9 + a))), (6, .int (nI a)), (5, .int (30)), (4, .ref (ad (2))), (2, .int (x)), (0, .ref (ad (430))), (1, .int (t))]) hx hb dX4_errorsByKinds_138 rfl hl (by decide) rfl (fun ls hl => ?_)
                    refine lv_iinc (v := nI (a + 1)) (lv' := [(6, .int (nI (a + 1))), (3, .int (y + 0)), (7, .ref (ad (9 + a))), (5, .int (30)), (4, .ref (ad (2))), (2, .int (x)), (0, .ref (ad (430))), (1, .int (t))]) hx hb dX4_errorsByKinds_139 hl (k := 2) rfl (nI_1 _) (by decide) rfl (fun ls hl => ?_)
                    refine lv_goto (tgt := 90) hx hb dX4_errorsByKinds_142 (by decide) ?_
                    exact ih (a + 1) (y + 0) (by omega) (by omega) (by rw [foldI_succ, ← ha_0]; simp [b2i, F_k1, F_k2, F_k3, c_9, q_10, c_12]) ls (lv_sub hl [0, 3, 4, 1, 5, 6, 7] rfl)
                  · rw [b2i_eq0] at c_12
                    refine lv_iconst (v := 1) hx hb dX4_errorsByKinds_132 (by decide) ?_
                    refine lv_goto (tgt := 137) hx hb dX4_errorsByKinds_133 (by decide) ?_
                    refine lv_iadd hx hb dX4_errorsByKinds_137 ?_
                    refine lv_istore_n (lv' := [(3, .int (y + 1)), (7, .ref (ad (9 + a))), (6, .int (nI a)), (5, .int (30)), (4, .ref (ad (2))), (2, .int (x)), (0, .ref (ad (430))), (1, .int (t))]) hx hb dX4_errorsByKinds_138 rfl hl (by decide) rfl (fun ls hl => ?_)
                    refine lv_iinc (v := nI (a + 1)) (lv' := [(6, .int (nI (a + 1))), (3, .int (y + 1)), (7, .ref (ad (9 + a))), (5, .int (30)), (4, .ref (ad (2))), (2, .int (x)), (0, .ref (ad (430))), (1, .int (t))]) hx hb dX4_errorsByKinds_139 hl (k := 2) rfl (nI_1 _) (by decide) rfl (fun ls hl => ?_)
                    refine lv_goto (tgt := 90) hx hb dX4_errorsByKinds_142 (by decide) ?_
                    exact ih (a + 1) (y + 1) (by omega) (by omega) (by rw [foldI_succ, ← ha_0]; simp [b2i, F_k1, F_k2, F_k3, c_9, q_10, c_12]) ls (lv_sub hl [0, 3, 4, 1, 5, 6, 7] rfl)
                · have hj_11 := f_before_lt q_10
                  refine W.eq (g2 := F0 m 124 ls [.ref (ad (9 + j_11)), .ref (ad (430)), .int (y)]) rfl ?_
                  refine lv_aload hx hb dX4_errorsByKinds_124 (lv_at hl 0 rfl) ?_
                  refine sp_call (W.runV (As := [.ref (ad (9 + j_11)), .ref (ad (9 + a))]) (rest := [.int (y)]) ⟨hx, hb, hml, hown, hts⟩ (c_X4_isSameFoot l D ad cy pm rj σ (some (j_11)) (by intro j hj; first | (cases hj; done) | (cases hj; omega)) a (by omega)) (cwV 2 hts gX4_errorsByKinds_X4_isSameFoot rfl rfl rfl (by decide +kernel) ⟨Nat.le_of_ble_eq_true rfl, Nat.le_of_ble_eq_true rfl⟩) (sp_preV hK hP (κ := 430) (by decide) cE_proof rfl) rfl rfl hl.1 rfl (lv_room (Nat.le_of_ble_eq_true rfl)) dX4_errorsByKinds_126 ⟨Nat.le_of_ble_eq_true rfl, Nat.le_of_ble_eq_true rfl⟩) ?_
                  refine W.eq (g2 := F0 m 129 ls [.int (b2i (f_sameFoot σ (some (j_11)) a)), .int (y)]) rfl ?_
                  refine lv_if_eq (tgt := 136) hx hb dX4_errorsByKinds_129 (by decide) (fun c_13 => ?_) (fun c_13 => ?_)
                  · rw [b2i_eq0] at c_13
                    refine lv_iconst (v := 0) hx hb dX4_errorsByKinds_136 (by decide) ?_
                    refine lv_iadd hx hb dX4_errorsByKinds_137 ?_
                    refine lv_istore_n (lv' := [(3, .int (y + 0)), (7, .ref (ad (9 + a))), (6, .int (nI a)), (5, .int (30)), (4, .ref (ad (2))), (2, .int (x)), (0, .ref (ad (430))), (1, .int (t))]) hx hb dX4_errorsByKinds_138 rfl hl (by decide) rfl (fun ls hl => ?_)
                    refine lv_iinc (v := nI (a + 1)) (lv' := [(6, .int (nI (a + 1))), (3, .int (y + 0)), (7, .ref (ad (9 + a))), (5, .int (30)), (4, .ref (ad (2))), (2, .int (x)), (0, .ref (ad (430))), (1, .int (t))]) hx hb dX4_errorsByKinds_139 hl (k := 2) rfl (nI_1 _) (by decide) rfl (fun ls hl => ?_)
                    refine lv_goto (tgt := 90) hx hb dX4_errorsByKinds_142 (by decide) ?_
                    exact ih (a + 1) (y + 0) (by omega) (by omega) (by rw [foldI_succ, ← ha_0]; simp [b2i, F_k1, F_k2, F_k3, c_9, q_10, c_13]) ls (lv_sub hl [0, 3, 4, 1, 5, 6, 7] rfl)
                  · rw [b2i_eq0] at c_13
                    refine lv_iconst (v := 1) hx hb dX4_errorsByKinds_132 (by decide) ?_
                    refine lv_goto (tgt := 137) hx hb dX4_errorsByKinds_133 (by decide) ?_
                    refine lv_iadd hx hb dX4_errorsByKinds_137 ?_
                    refine lv_istore_n (lv' := [(3, .int (y + 1)), (7, .ref (ad (9 + a))), (6, .int (nI a)), (5, .int (30)), (4, .ref (ad (2))), (2, .int (x)), (0, .ref (ad (430))), (1, .int (t))]) hx hb dX4_errorsByKinds_138 rfl hl (by decide) rfl (fun ls hl => ?_)
                    refine lv_iinc (v := nI (a + 1)) (lv' := [(6, .int (nI (a + 1))), (3, .int (y + 1)), (7, .ref (ad (9 + a))), (5, .int (30)), (4, .ref (ad (2))), (2, .int (x)), (0, .ref (ad (430))), (1, .int (t))]) hx hb dX4_errorsByKinds_139 hl (k := 2) rfl (nI_1 _) (by decide) rfl (fun ls hl => ?_)
                    refine lv_goto (tgt := 90) hx hb dX4_errorsByKinds_142 (by decide) ?_
                    exact ih (a + 1) (y + 1) (by omega) (by omega) (by rw [foldI_succ, ← ha_0]; simp [b2i, F_k1, F_k2, F_k3, c_9, q_10, c_13]) ls (lv_sub hl [0, 3, 4, 1, 5, 6, 7] rfl)
        exact loop_90 (30 + 1) (0) (0)  (by omega) (by omega) (rfl) ls (lv_sub hl [0, 1, 2, 3, 4, 5, 6] rfl)
      · skip
        have c_1d := Int32.not_le.mp c_1
        have hb_i : i < 30 := Nat.lt_of_not_le (fun z => c_1 (nI_le z (by omega)))
        refine lv_aload_n hx hb dX4_errorsByKinds_24 rfl (lv_at hl 2 rfl) ?_
        refine lv_iload hx hb dX4_errorsByKinds_25 (lv_at hl 0 rfl) ?_
        refine sp_aald hx hb hK hP (κ := 2) (by omega) 4 (cE_prints (by omega) (by omega)) rfl i rfl (by omega) (by decide) (q := ad (9 + i)) rfl dX4_errorsByKinds_27 ?_
        refine lv_astore (lv' := [(6, .ref (ad (9 + i))), (5, .int (nI i)), (4, .int (30)), (3, .ref (ad (2))), (2, .int (x)), (0, .ref (ad (430))), (1, .int (t))]) hx hb dX4_errorsByKinds_28 hl (by decide) rfl (fun ls hl => ?_)
        refine lv_iload_n hx hb dX4_errorsByKinds_30 rfl (lv_at hl 4 rfl) ?_
        refine lv_aload hx hb dX4_errorsByKinds_31 (lv_at hl 0 rfl) ?_
        refine lv_iload_n hx hb dX4_errorsByKinds_33 rfl (lv_at hl 6 rfl) ?_
        refine sp_call (W.runV (As := [.int (t)]) (rest := [.int (x)]) ⟨hx, hb, hml, hown, hts⟩ (c_X3_isOn l D ad cy pm rj σ (9 + i) (by omega) (by omega) t) (cwV 1 hts gX4_errorsByKinds_X3_isOn rfl rfl rfl (by decide +kernel) ⟨Nat.le_of_ble_eq_true rfl, Nat.le_of_ble_eq_true rfl⟩) (sp_preV hK hP (κ := 9 + i) (by omega) (cE_print (by omega) (by omega)) rfl) rfl rfl hl.1 rfl (lv_room (Nat.le_of_ble_eq_true rfl)) dX4_errorsByKinds_34 ⟨Nat.le_of_ble_eq_true rfl, Nat.le_of_ble_eq_true rfl⟩) ?_
        refine W.eq (g2 := F0 m 37 ls [.int (b2i (f_isOn σ (9 + i) t)), .int (x)]) rfl ?_
        refine lv_if_eq (tgt := 62) hx hb dX4_errorsByKinds_37 (by decide) (fun c_14 => ?_) (fun c_14 => ?_)
        · rw [b2i_eq0] at c_14
          refine lv_iconst (v := 0) hx hb dX4_errorsByKinds_62 (by decide) ?_
          refine lv_iadd hx hb dX4_errorsByKinds_63 ?_
          refine lv_istore_n (lv' := [(2, .int (x + 0)), (6, .ref (ad (9 + i))), (5, .int (nI i)), (4, .int (30)), (3, .ref (ad (2))), (0, .ref (ad (430))), (1, .int (t))]) hx hb dX4_errorsByKinds_64 rfl hl (by decide) rfl (fun ls hl => ?_)
          refine lv_iinc (v := nI (i + 1)) (lv' := [(5, .int (nI (i + 1))), (2, .int (x + 0)), (6, .ref (ad (9 + i))), (4, .int (30)), (3, .ref (ad (2))), (0, .ref (ad (430))), (1, .int (t))]) hx hb dX4_errorsByKinds_65 hl (k := 2) rfl (nI_1 _) (by decide) rfl (fun ls hl => ?_)
          refine lv_goto (tgt := 17) hx hb dX4_errorsByKinds_68 (by decide) ?_
          exact ih (i + 1) (x + 0) (by omega) (by omega) (by rw [foldI_succ, ← hi_0]; simp [b2i, F_k1, F_k2, F_k3, c_14]) ls (lv_sub hl [0, 3, 4, 1, 5, 6] rfl)
        · rw [b2i_eq0] at c_14
          refine lv_aload_n hx hb dX4_errorsByKinds_40 rfl (lv_at hl 5 rfl) ?_
          refine lv_aload_n hx hb dX4_errorsByKinds_41 rfl (lv_at hl 5 rfl) ?_
          refine sp_get hx hb hts wi_X4_errorsByKinds_X4 hown hK hP (κ := 430) (by decide) cE_proof rfl 0 (by decide) (hts _ (List.mem_of_getElem? (i := 1) rfl)) (fun _ h => h) rfl dX4_errorsByKinds_42 ?_
          refine lv_aload hx hb dX4_errorsByKinds_45 (lv_at hl 0 rfl) ?_
          refine sp_call (W.runV (As := [.ref (ad (9 + i))]) (rest := [.ref (ad (430)), .int (x)]) ⟨hx, hb, hml, hown, hts⟩ (c_X0_before l D ad cy pm rj σ i (by omega)) (cwV 1 hts gX4_errorsByKinds_X0_before rfl rfl rfl (by decide +kernel) ⟨Nat.le_of_ble_eq_true rfl, Nat.le_of_ble_eq_true rfl⟩) (sp_preV hK hP (κ := 0) (by omega) (cE_beach (by omega) (by omega)) rfl) rfl rfl hl.1 rfl (lv_room (Nat.le_of_ble_eq_true rfl)) dX4_errorsByKinds_47 ⟨Nat.le_of_ble_eq_true rfl, Nat.le_of_ble_eq_true rfl⟩) ?_
          rcases q_15 : f_before σ i with _ | j_16
          · refine W.eq (g2 := F0 m 50 ls [.null, .ref (ad (430)), .int (x)]) rfl ?_
            refine lv_aload hx hb dX4_errorsByKinds_50 (lv_at hl 0 rfl) ?_
            refine sp_call (W.runV (As := [.null, .ref (ad (9 + i))]) (rest := [.int (x)]) ⟨hx, hb, hml, hown, hts⟩ (c_X4_isTooLong l D ad cy pm rj σ (none : Option Nat) (by intro j hj; first | (cases hj; done) | (cases hj; omega)) i (by omega)) (cwV 2 hts gX4_errorsByKinds_X4_isTooLong rfl rfl rfl (by decide +kernel) ⟨Nat.le_of_ble_eq_true rfl, Nat.le_of_ble_eq_true rfl⟩) (sp_preV hK hP (κ := 430) (by decide) cE_proof rfl) rfl rfl hl.1 rfl (lv_room (Nat.le_of_ble_eq_true rfl)) dX4_errorsByKinds_52 ⟨Nat.le_of_ble_eq_true rfl, Nat.le_of_ble_eq_true rfl⟩) ?_
            refine W.eq (g2 := F0 m 55 ls [.int (b2i (f_tooLong σ (none : Option Nat) i)), .int (x)]) rfl ?_
            refine lv_if_eq (tgt := 62) hx hb dX4_errorsByKinds_55 (by decide) (fun c_17 => ?_) (fun c_17 => ?_)
            · rw [b2i_eq0] at c_17
              refine lv_iconst (v := 0) hx hb dX4_errorsByKinds_62 (by decide) ?_
              refine lv_iadd hx hb dX4_errorsByKinds_63 ?_
              refine lv_istore_n (lv' := [(2, .int (x + 0)), (6, .ref (ad (9 + i))), (5, .int (nI i)), (4, .int (30)), (3, .ref (ad (2))), (0, .ref (ad (430))), (1, .int (t))]) hx hb dX4_errorsByKinds_64 rfl hl (by decide) rfl (fun ls hl => ?_)
              refine lv_iinc (v := nI (i + 1)) (lv' := [(5, .int (nI (i + 1))), (2, .int (x + 0)), (6, .ref (ad (9 + i))), (4, .int (30)), (3, .ref (ad (2))), (0, .ref (ad (430))), (1, .int (t))]) hx hb dX4_errorsByKinds_65 hl (k := 2) rfl (nI_1 _) (by decide) rfl (fun ls hl => ?_)
              refine lv_goto (tgt := 17) hx hb dX4_errorsByKinds_68 (by decide) ?_
              exact ih (i + 1) (x + 0) (by omega) (by omega) (by rw [foldI_succ, ← hi_0]; simp [b2i, F_k1, F_k2, F_k3, c_14, q_15, c_17]) ls (lv_sub hl [0, 3, 4, 1, 5, 6] rfl)
            · rw [b2i_eq0] at c_17
              refine lv_iconst (v := 1) hx hb dX4_errorsByKinds_58 (by decide) ?_
              refine lv_goto (tgt := 63) hx hb dX4_errorsByKinds_59 (by decide) ?_
              refine lv_iadd hx hb dX4_errorsByKinds_63 ?_
              refine lv_istore_n (lv' := [(2, .int (x + 1)), (6, .ref (ad (9 + i))), (5, .int (nI i)), (4, .int (30)), (3, .ref (ad (2))), (0, .ref (ad (430))), (1, .int (t))]) hx hb dX4_errorsByKinds_64 rfl hl (by decide) rfl (fun ls hl => ?_)
              refine lv_iinc (v := nI (i + 1)) (lv' := [(5, .int (nI (i + 1))), (2, .int (x + 1)), (6, .ref (ad (9 + i))), (4, .int (30)), (3, .ref (ad (2))), (0, .ref (ad (430))), (1, .int (t))]) hx hb dX4_errorsByKinds_65 hl (k := 2) rfl (nI_1 _) (by decide) rfl (fun ls hl => ?_)
              refine lv_goto (tgt := 17) hx hb dX4_errorsByKinds_68 (by decide) ?_
              exact ih (i + 1) (x + 1) (by omega) (by omega) (by rw [foldI_succ, ← hi_0]; simp [b2i, F_k1, F_k2, F_k3, c_14, q_15, c_17]) ls (lv_sub hl [0, 3, 4, 1, 5, 6] rfl)
          · have hj_16 := f_before_lt q_15
            refine W.eq (g2 := F0 m 50 ls [.ref (ad (9 + j_16)), .ref (ad (430)), .int (x)]) rfl ?_
            refine lv_aload hx hb dX4_errorsByKinds_50 (lv_at hl 0 rfl) ?_
            refine sp_call (W.runV (As := [.ref (ad (9 + j_16)), .ref (ad (9 + i))]) (rest := [.int (x)]) ⟨hx, hb, hml, hown, hts⟩ (c_X4_isTooLong l D ad cy pm rj σ (some (j_16)) (by intro j hj; first | (cases hj; done) | (cases hj; omega)) i (by omega)) (cwV 2 hts gX4_errorsByKinds_X4_isTooLong rfl rfl rfl (by decide +kernel) ⟨Nat.le_of_ble_eq_true rfl, Nat.le_of_ble_eq_true rfl⟩) (sp_preV hK hP (κ := 430) (by decide) cE_proof rfl) rfl rfl hl.1 rfl (lv_room (Nat.le_of_ble_eq_true rfl)) dX4_errorsByKinds_52 ⟨Nat.le_of_ble_eq_true rfl, Nat.le_of_ble_eq_true rfl⟩) ?_
            refine W.eq (g2 := F0 m 55 ls [.int (b2i (f_tooLong σ (some (j_16)) i)), .int (x)]) rfl ?_
            refine lv_if_eq (tgt := 62) hx hb dX4_errorsByKinds_55 (by decide) (fun c_18 => ?_) (fun c_18 => ?_)
            · rw [b2i_eq0] at c_18
              refine lv_iconst (v := 0) hx hb dX4_errorsByKinds_62 (by decide) ?_
              refine lv_iadd hx hb dX4_errorsByKinds_63 ?_
              refine lv_istore_n (lv' := [(2, .int (x + 0)), (6, .ref (ad (9 + i))), (5, .int (nI i)), (4, .int (30)), (3, .ref (ad (2))), (0, .ref (ad (430))), (1, .int (t))]) hx hb dX4_errorsByKinds_64 rfl hl (by decide) rfl (fun ls hl => ?_)
              refine lv_iinc (v := nI (i + 1)) (lv' := [(5, .int (nI (i + 1))), (2, .int (x + 0)), (6, .ref (ad (9 + i))), (4, .int (30)), (3, .ref (ad (2))), (0, .ref (ad (430))), (1, .int (t))]) hx hb dX4_errorsByKinds_65 hl (k := 2) rfl (nI_1 _) (by decide) rfl (fun ls hl => ?_)
              refine lv_goto (tgt := 17) hx hb dX4_errorsByKinds_68 (by decide) ?_
              exact ih (i + 1) (x + 0) (by omega) (by omega) (by rw [foldI_succ, ← hi_0]; simp [b2i, F_k1, F_k2, F_k3, c_14, q_15, c_18]) ls (lv_sub hl [0, 3, 4, 1, 5, 6] rfl)
            · rw [b2i_eq0] at c_18
              refine lv_iconst (v := 1) hx hb dX4_errorsByKinds_58 (by decide) ?_
              refine lv_goto (tgt := 63) hx hb dX4_errorsByKinds_59 (by decide) ?_
              refine lv_iadd hx hb dX4_errorsByKinds_63 ?_
              refine lv_istore_n (lv' := [(2, .int (x + 1)), (6, .ref (ad (9 + i))), (5, .int (nI i)), (4, .int (30)), (3, .ref (ad (2))), (0, .ref (ad (430))), (1, .int (t))]) hx hb dX4_errorsByKinds_64 rfl hl (by decide) rfl (fun ls hl => ?_)
              refine lv_iinc (v := nI (i + 1)) (lv' := [(5, .int (nI (i + 1))), (2, .int (x + 1)), (6, .ref (ad (9 + i))), (4, .int (30)), (3, .ref (ad (2))), (0, .ref (ad (430))), (1, .int (t))]) hx hb dX4_errorsByKinds_65 hl (k := 2) rfl (nI_1 _) (by decide) rfl (fun ls hl => ?_)
              refine lv_goto (tgt := 17) hx hb dX4_errorsByKinds_68 (by decide) ?_
              exact ih (i + 1) (x + 1) (by omega) (by omega) (by rw [foldI_succ, ← hi_0]; simp [b2i, F_k1, F_k2, F_k3, c_14, q_15, c_18]) ls (lv_sub hl [0, 3, 4, 1, 5, 6] rfl)
  exact loop_17 (30 + 1) (0) (0)  (by omega) (by omega) (rfl) ls (lv_sub hl [0, 1, 2, 3, 4, 5] rfl)

theorem wi_X4_lengthByDirections_X4 : ∀ w ∈ wsX40, w ∈ wsX4_lengthByDirections := by decide +kernel
theorem wi_X4_lengthByDirections_X0 : ∀ w ∈ wsX00, w ∈ wsX4_lengthByDirections := by decide +kernel
theorem wi_X4_lengthByDirections_X8 : ∀ w ∈ wsX80, w ∈ wsX4_lengthByDirections := by decide +kernel
theorem wi_X4_lengthByDirections_X3 : ∀ w ∈ wsX30, w ∈ wsX4_lengthByDirections := by decide +kernel
set_option maxHeartbeats 4000000 in
set_option maxRecDepth 100000 in
theorem c_X4_lengthByDirections (l : Launch) (D : va_G) (ad : Nat → Nat) (cy : Nat → ClassId) (pm : Nat → Nat) (rj : Option Nat) (σ : Nat → Nat → Int32) (k : Nat) (hk : k < 6) : Met l yX4_lengthByDirections wsX4_lengthByDirections ({ frames := 2, cells := 0, slots := 0, locals := 47 } : Room) (sp_Pc D (tyG cy) [.ref (ad (430)), .ref (ad (3 + k))] (cW ad cy pm rj σ)) (sp_S (some (.int (f_lenD σ k)))) 0 0 (fun _ => False) := by
  refine Met.ofW (cc := cX4_lengthByDirections) (maxL := 9) (ret := (some .int)) (by decide) rfl ?_
  intro p e s m args below meth c s₁ B hml hv
  obtain ⟨rfl, hP, hK⟩ := hv
  have hx := B.exec
  have hb := B.bytes
  have hr := B.returns
  have hts := atoms_spec (ws := wsX4_lengthByDirections) B.pre
  have hown : s.vm.findClass RX4 = some m.cls := findClass_of_methodNamed B.named
  have hlocks := B.notSynchronized
  have hl := lv_entry ([.ref (ad (430)), .ref (ad (3 + k))]) (n := 9) (Nat.le_of_ble_eq_true rfl)
  refine W.eq (lg_entry_eq _ ([.ref (ad (430)), .ref (ad (3 + k))]) _) ?_
  generalize (lg_sl ([.ref (ad (430)), .ref (ad (3 + k))]) ++ List.replicate (9 - (lg_sl ([.ref (ad (430)), .ref (ad (3 + k))])).length) Slot.unset).toArray = ls at hl ⊢
  have hl : lv_has ls 9 [(0, .ref (ad (430))), (1, .ref (ad (3 + k)))] := hl
  refine lv_iconst (v := 0) hx hb dX4_lengthByDirections_0 (by decide) ?_
  refine lv_istore_n (lv' := [(2, .int (0)), (0, .ref (ad (430))), (1, .ref (ad (3 + k)))]) hx hb dX4_lengthByDirections_1 rfl hl (by decide) rfl (fun ls hl => ?_)
  refine lv_iconst (v := 0) hx hb dX4_lengthByDirections_2 (by decide) ?_
  refine lv_istore_n (lv' := [(3, .int (0)), (2, .int (0)), (0, .ref (ad (430))), (1, .ref (ad (3 + k)))]) hx hb dX4_lengthByDirections_3 rfl hl (by decide) rfl (fun ls hl => ?_)
  refine lv_aload_n hx hb dX4_lengthByDirections_4 rfl (lv_at hl 2 rfl) ?_
  refine sp_get hx hb hts wi_X4_lengthByDirections_X4 hown hK hP (κ := 430) (by decide) cE_proof rfl 0 (by decide) (hts _ (List.mem_of_getElem? (i := 1) rfl)) (fun _ h => h) rfl dX4_lengthByDirections_5 ?_
  refine sp_get hx hb hts wi_X4_lengthByDirections_X0 hown hK hP (κ := 0) (by omega) (cE_beach (by omega) (by omega)) rfl 1 (by decide) (hts _ (List.mem_of_getElem? (i := 2) rfl)) (fun _ h => h) rfl dX4_lengthByDirections_8 ?_
  refine lv_astore (lv' := [(4, .ref (ad (2))), (3, .int (0)), (2, .int (0)), (0, .ref (ad (430))), (1, .ref (ad (3 + k)))]) hx hb dX4_lengthByDirections_11 hl (by decide) rfl (fun ls hl => ?_)
  refine lv_aload hx hb dX4_lengthByDirections_13 (lv_at hl 0 rfl) ?_
  refine sp_alen hx hb hK hP (κ := 2) (by omega) 4 (cE_prints (by omega) (by omega)) rfl (v := 30) rfl dX4_lengthByDirections_15 ?_
  refine lv_istore (lv' := [(5, .int (30)), (4, .ref (ad (2))), (3, .int (0)), (2, .int (0)), (0, .ref (ad (430))), (1, .ref (ad (3 + k)))]) hx hb dX4_lengthByDirections_16 hl (by decide) rfl (fun ls hl => ?_)
  refine lv_iconst (v := 0) hx hb dX4_lengthByDirections_18 (by decide) ?_
  refine lv_istore (lv' := [(6, .int (0)), (5, .int (30)), (4, .ref (ad (2))), (3, .int (0)), (2, .int (0)), (0, .ref (ad (430))), (1, .ref (ad (3 + k)))]) hx hb dX4_lengthByDirections_19 hl (by decide) rfl (fun ls hl => ?_)
  have loop_21 : ∀ (n i : Nat) (x : Int32) (y : Int32), (i ≤ 30) → (30 - i < n) → (x = foldI (F_dr σ k) 0 i) → (y = foldI (F_dc σ k) 0 i) → ∀ ls : Array Slot, lv_has ls 9 [(6, .int (nI i)), (5, .int (30)), (4, .ref (ad (2))), (3, .int (y)), (2, .int (x)), (0, .ref (ad (430))), (1, .ref (ad (3 + k)))] → W p l e (headSpec wsX4_lengthByDirections ({ frames := 2, cells := 0, slots := 0, locals := 47 } : Room)).room s m ([.ref (ad (430)), .ref (ad (3 + k))] : List Value).toArray below meth c s.heap [] 0 0 (MQ below (sp_S (some (.int (f_lenD σ k)))) ([.ref (ad (430)), .ref (ad (3 + k))] : List Value).toArray s 0 0 (fun _ => False)) (F0 m 21 ls []) := by
    intro n
    induction n with
    | zero => intro i x y hle hlt hi_0 hi_1 ls hl; exact absurd hlt (Nat.not_lt_zero _)
    | succ n ih =>
      intro i x y hle hlt hi_0 hi_1 ls hl
      refine lv_iload hx hb dX4_lengthByDirections_21 (lv_at hl 0 rfl) ?_
      refine lv_iload hx hb dX4_lengthByDirections_23 (lv_at hl 1 rfl) ?_
      refine lv_icmp_ge (tgt := 107) hx hb dX4_lengthByDirections_25 (by decide) (fun c_1 => ?_) (fun c_1 => ?_)
      · skip
        have c_1d := Int32.not_lt.mpr c_1
        have hx_i : i = 30 := by have := (nI_leI (a := 30) (b := i) (by omega) (by omega)).mp c_1; omega
        try rw [hx_i] at hi_0
        try rw [hx_i] at hi_1
        refine lv_iload_n hx hb dX4_lengthByDirections_107 rfl (lv_at hl 4 rfl) ?_
        refine lv_iload_n hx hb dX4_lengthByDirections_108 rfl (lv_at hl 3 rfl) ?_
        refine lv_iadd hx hb dX4_lengthByDirections_109 ?_
        exact W.iret (v := x + y) hx hb hr (fun T9 hT9 _ => ⟨by rw [show (x + y : Int32) = f_lenD σ k from (by unfold f_lenD; rw [← hi_0, ← hi_1])], hT9⟩) (fun _ h => by cases h) dX4_lengthByDirections_110
      · skip
        have c_1d := Int32.not_le.mp c_1
        have hb_i : i < 30 := Nat.lt_of_not_le (fun z => c_1 (nI_le z (by omega)))
        refine lv_aload hx hb dX4_lengthByDirections_28 (lv_at hl 2 rfl) ?_
        refine lv_iload hx hb dX4_lengthByDirections_30 (lv_at hl 0 rfl) ?_
        refine sp_aald hx hb hK hP (κ := 2) (by omega) 4 (cE_prints (by omega) (by omega)) rfl i rfl (by omega) (by decide) (q := ad (9 + i)) rfl dX4_lengthByDirections_32 ?_
        refine lv_astore (lv' := [(7, .ref (ad (9 + i))), (6, .int (nI i)), (5, .int (30)), (4, .ref (ad (2))), (3, .int (y)), (2, .int (x)), (0, .ref (ad (430))), (1, .ref (ad (3 + k)))]) hx hb dX4_lengthByDirections_33 hl (by decide) rfl (fun ls hl => ?_)
        refine lv_aload hx hb dX4_lengthByDirections_35 (lv_at hl 0 rfl) ?_
        refine lv_aload_n hx hb dX4_lengthByDirections_37 rfl (lv_at hl 7 rfl) ?_
        refine sp_get hx hb hts wi_X4_lengthByDirections_X8 hown hK hP (κ := 3 + k) (by omega) (cE_track (by omega) (by omega)) rfl 1 (by decide) (hts _ (List.mem_of_getElem? (i := 3) rfl)) (fun _ h => h) rfl dX4_lengthByDirections_38 ?_
        refine sp_call (W.runV (As := [.int (σ (3 + k) 1)]) (rest := []) ⟨hx, hb, hml, hown, hts⟩ (c_X3_isOn l D ad cy pm rj σ (9 + i) (by omega) (by omega) (σ (3 + k) 1)) (cwV 1 hts gX4_lengthByDirections_X3_isOn rfl rfl rfl (by decide +kernel) ⟨Nat.le_of_ble_eq_true rfl, Nat.le_of_ble_eq_true rfl⟩) (sp_preV hK hP (κ := 9 + i) (by omega) (cE_print (by omega) (by omega)) rfl) rfl rfl hl.1 rfl (lv_room (Nat.le_of_ble_eq_true rfl)) dX4_lengthByDirections_41 ⟨Nat.le_of_ble_eq_true rfl, Nat.le_of_ble_eq_true rfl⟩) ?_
        refine W.eq (g2 := F0 m 44 ls [.int (b2i (f_isOn σ (9 + i) (σ (3 + k) 1)))]) rfl ?_
        refine lv_if_eq (tgt := 59) hx hb dX4_lengthByDirections_44 (by decide) (fun c_2 => ?_) (fun c_2 => ?_)
        · rw [b2i_eq0] at c_2
          refine lv_null hx hb dX4_lengthByDirections_59 ?_
          refine lv_astoreN (lv' := [(8, .null), (7, .ref (ad (9 + i))), (6, .int (nI i)), (5, .int (30)), (4, .ref (ad (2))), (3, .int (y)), (2, .int (x)), (0, .ref (ad (430))), (1, .ref (ad (3 + k)))]) hx hb dX4_lengthByDirections_60 hl (by decide) rfl (fun ls hl => ?_)
          refine lv_aloadN hx hb dX4_lengthByDirections_62 (lv_at hl 0 rfl) ?_
          refine lv_ifnullN (tgt := 101) hx hb dX4_lengthByDirections_64 (by decide) ?_
          refine lv_iinc (v := nI (i + 1)) (lv' := [(6, .int (nI (i + 1))), (8, .null), (7, .ref (ad (9 + i))), (5, .int (30)), (4, .ref (ad (2))), (3, .int (y)), (2, .int (x)), (0, .ref (ad (430))), (1, .ref (ad (3 + k)))]) hx hb dX4_lengthByDirections_101 hl (k := 2) rfl (nI_1 _) (by decide) rfl (fun ls hl => ?_)
          refine lv_goto (tgt := 21) hx hb dX4_lengthByDirections_104 (by decide) ?_
          exact ih (i + 1) x y (by omega) (by omega) (by rw [foldI_succ, ← hi_0]; simp [b2i, F_dr, F_dc, c_2]) (by rw [foldI_succ, ← hi_1]; simp [b2i, F_dr, F_dc, c_2]) ls (lv_sub hl [0, 3, 4, 5, 6, 7, 8] rfl)
        · rw [b2i_eq0] at c_2
          refine lv_aload_n hx hb dX4_lengthByDirections_47 rfl (lv_at hl 6 rfl) ?_
          refine sp_get hx hb hts wi_X4_lengthByDirections_X4 hown hK hP (κ := 430) (by decide) cE_proof rfl 0 (by decide) (hts _ (List.mem_of_getElem? (i := 1) rfl)) (fun _ h => h) rfl dX4_lengthByDirections_48 ?_
          refine lv_aload hx hb dX4_lengthByDirections_51 (lv_at hl 0 rfl) ?_
          refine sp_call (W.runV (As := [.ref (ad (9 + i))]) (rest := []) ⟨hx, hb, hml, hown, hts⟩ (c_X0_before l D ad cy pm rj σ i (by omega)) (cwV 1 hts gX4_lengthByDirections_X0_before rfl rfl rfl (by decide +kernel) ⟨Nat.le_of_ble_eq_true rfl, Nat.le_of_ble_eq_true rfl⟩) (sp_preV hK hP (κ := 0) (by omega) (cE_beach (by omega) (by omega)) rfl) rfl rfl hl.1 rfl (lv_room (Nat.le_of_ble_eq_true rfl)) dX4_lengthByDirections_53 ⟨Nat.le_of_ble_eq_true rfl, Nat.le_of_ble_eq_true rfl⟩) ?_
          rcases q_3 : f_before σ i with _ | j_4
          · refine W.eq (g2 := F0 m 56 ls [.null]) rfl ?_
            refine lv_goto (tgt := 60) hx hb dX4_lengthByDirections_56 (by decide) ?_
            refine lv_astoreN (lv' := [(8, .null), (7, .ref (ad (9 + i))), (6, .int (nI i)), (5, .int (30)), (4, .ref (ad (2))), (3, .int (y)), (2, .int (x)), (0, .ref (ad (430))), (1, .ref (ad (3 + k)))]) hx hb dX4_lengthByDirections_60 hl (by decide) rfl (fun ls hl => ?_)
            refine lv_aloadN hx hb dX4_lengthByDirections_62 (lv_at hl 0 rfl) ?_
            refine lv_ifnullN (tgt := 101) hx hb dX4_lengthByDirections_64 (by decide) ?_
            refine lv_iinc (v := nI (i + 1)) (lv' := [(6, .int (nI (i + 1))), (8, .null), (7, .ref (ad (9 + i))), (5, .int (30)), (4, .ref (ad (2))), (3, .int (y)), (2, .int (x)), (0, .ref (ad (430))), (1, .ref (ad (3 + k)))]) hx hb dX4_lengthByDirections_101 hl (k := 2) rfl (nI_1 _) (by decide) rfl (fun ls hl => ?_)
            refine lv_goto (tgt := 21) hx hb dX4_lengthByDirections_104 (by decide) ?_
            exact ih (i + 1) x y (by omega) (by omega) (by rw [foldI_succ, ← hi_0]; simp [b2i, F_dr, F_dc, c_2, q_3]) (by rw [foldI_succ, ← hi_1]; simp [b2i, F_dr, F_dc, c_2, q_3]) ls (lv_sub hl [0, 3, 4, 5, 6, 7, 8] rfl)
          · have hj_4 := f_before_lt q_3
            refine W.eq (g2 := F0 m 56 ls [.ref (ad (9 + j_4))]) rfl ?_
            refine lv_goto (tgt := 60) hx hb dX4_lengthByDirections_56 (by decide) ?_
            refine lv_astore (lv' := [(8, .ref (ad (9 + j_4))), (7, .ref (ad (9 + i))), (6, .int (nI i)), (5, .int (30)), (4, .ref (ad (2))), (3, .int (y)), (2, .int (x)), (0, .ref (ad (430))), (1, .ref (ad (3 + k)))]) hx hb dX4_lengthByDirections_60 hl (by decide) rfl (fun ls hl => ?_)
            refine lv_aload hx hb dX4_lengthByDirections_62 (lv_at hl 0 rfl) ?_
            refine lv_ifnull hx hb dX4_lengthByDirections_64 ?_
            refine lv_iload_n hx hb dX4_lengthByDirections_67 rfl (lv_at hl 6 rfl) ?_
            refine lv_aload hx hb dX4_lengthByDirections_68 (lv_at hl 1 rfl) ?_
            refine sp_get hx hb hts wi_X4_lengthByDirections_X3 hown hK hP (κ := 9 + i) (by omega) (cE_print (by omega) (by omega)) rfl 4 (by decide) (hts _ (List.mem_of_getElem? (i := 4) rfl)) (fun _ h => h) rfl dX4_lengthByDirections_70 ?_
            refine lv_aload hx hb dX4_lengthByDirections_73 (lv_at hl 0 rfl) ?_
            refine sp_get hx hb hts wi_X4_lengthByDirections_X3 hown hK hP (κ := 9 + j_4) (by omega) (cE_print (by omega) (by omega)) rfl 4 (by decide) (hts _ (List.mem_of_getElem? (i := 4) rfl)) (fun _ h => h) rfl dX4_lengthByDirections_75 ?_
            refine lv_isub hx hb dX4_lengthByDirections_78 ?_
            refine va_mabs hx hb (by rw [hml]; exact hl.1.symm) hown (hts _ (List.mem_of_getElem? (i := 5) rfl)) (hts _ (List.mem_of_getElem? (i := 6) rfl)) (hts _ (List.mem_of_getElem? (i := 7) rfl)) (hts _ (List.mem_of_getElem? (i := 8) rfl)) (Nat.le_of_ble_eq_true rfl) (Nat.le_of_ble_eq_true rfl) (Nat.le_of_ble_eq_true rfl) (Nat.le_of_ble_eq_true rfl) dX4_lengthByDirections_79 ?_
            refine W.eq (g2 := F0 m 82 ls [.int (iabs ((σ (9 + i) 4) - (σ (9 + j_4) 4))), .int (x)]) rfl ?_
            refine lv_iadd hx hb dX4_lengthByDirections_82 ?_
            refine lv_istore_n (lv' := [(2, .int (x + (iabs ((σ (9 + i) 4) - (σ (9 + j_4) 4))))), (8, .ref (ad (9 + j_4))), (7, .ref (ad (9 + i))), (6, .int (nI i)), (5, .int (30)), (4, .ref (ad (2))), (3, .int (y)), (0, .ref (ad (430))), (1, .ref (ad (3 + k)))]) hx hb dX4_lengthByDirections_83 rfl hl (by decide) rfl (fun ls hl => ?_)
            refine lv_iload_n hx hb dX4_lengthByDirections_84 rfl (lv_at hl 6 rfl) ?_
            refine lv_aload hx hb dX4_lengthByDirections_85 (lv_at hl 2 rfl) ?_
            refine sp_get hx hb hts wi_X4_lengthByDirections_X3 hown hK hP (κ := 9 + i) (by omega) (cE_print (by omega) (by omega)) rfl 5 (by decide) (hts _ (List.mem_of_getElem? (i := 9) rfl)) (fun _ h => h) rfl dX4_lengthByDirections_87 ?_
            refine lv_aload hx hb dX4_lengthByDirections_90 (lv_at hl 1 rfl) ?_
            refine sp_get hx hb hts wi_X4_lengthByDirections_X3 hown hK hP (κ := 9 + j_4) (by omega) (cE_print (by omega) (by omega)) rfl 5 (by decide) (hts _ (List.mem_of_getElem? (i := 9) rfl)) (fun _ h => h) rfl dX4_lengthByDirections_92 ?_
            refine lv_isub hx hb dX4_lengthByDirections_95 ?_
            refine va_mabs hx hb (by rw [hml]; exact hl.1.symm) hown (hts _ (List.mem_of_getElem? (i := 5) rfl)) (hts _ (List.mem_of_getElem? (i := 6) rfl)) (hts _ (List.mem_of_getElem? (i := 7) rfl)) (hts _ (List.mem_of_getElem? (i := 8) rfl)) (Nat.le_of_ble_eq_true rfl) (Nat.le_of_ble_eq_true rfl) (Nat.le_of_ble_eq_true rfl) (Nat.le_of_ble_eq_true rfl) dX4_lengthByDirections_96 ?_
            refine W.eq (g2 := F0 m 99 ls [.int (iabs ((σ (9 + i) 5) - (σ (9 + j_4) 5))), .int (y)]) rfl ?_
            refine lv_iadd hx hb dX4_lengthByDirections_99 ?_
            refine lv_istore_n (lv' := [(3, .int (y + (iabs ((σ (9 + i) 5) - (σ (9 + j_4) 5))))), (2, .int (x + (iabs ((σ (9 + i) 4) - (σ (9 + j_4) 4))))), (8, .ref (ad (9 + j_4))), (7, .ref (ad (9 + i))), (6, .int (nI i)), (5, .int (30)), (4, .ref (ad (2))), (0, .ref (ad (430))), (1, .ref (ad (3 + k)))]) hx hb dX4_lengthByDirections_100 rfl hl (by decide) rfl (fun ls hl => ?_)
            refine lv_iinc (v := nI (i + 1)) (lv' := [(6, .int (nI (i + 1))), (3, .int (y + (iabs ((σ (9 + i) 5) - (σ (9 + j_4) 5))))), (2, .int (x + (iabs ((σ (9 + i) 4) - (σ (9 + j_4) 4))))), (8, .ref (ad (9 + j_4))), (7, .ref (ad (9 + i))), (5, .int (30)), (4, .ref (ad (2))), (0, .ref (ad (430))), (1, .ref (ad (3 + k)))]) hx hb dX4_lengthByDirections_101 hl (k := 4) rfl (nI_1 _) (by decide) rfl (fun ls hl => ?_)
            refine lv_goto (tgt := 21) hx hb dX4_lengthByDirections_104 (by decide) ?_
            exact ih (i + 1) (x + (iabs ((σ (9 + i) 4) - (σ (9 + j_4) 4)))) (y + (iabs ((σ (9 + i) 5) - (σ (9 + j_4) 5)))) (by omega) (by omega) (by rw [foldI_succ, ← hi_0]; simp [b2i, F_dr, F_dc, c_2, q_3]) (by rw [foldI_succ, ← hi_1]; simp [b2i, F_dr, F_dc, c_2, q_3]) ls (lv_sub hl [0, 5, 6, 1, 2, 7, 8] rfl)
  exact loop_21 (30 + 1) (0) (0) (0)  (by omega) (by omega) (rfl) (rfl) ls (lv_sub hl [0, 1, 2, 3, 4, 5, 6] rfl)
