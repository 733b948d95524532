/-! writing, and running commands -/
theorem f_appO_0 {σ : Nat → Nat → Int32} {x : Int32} (h : 0 ≤ σ 436 1) : 0 ≤ f_appO σ x 436 1 := by
  unfold f_appO
  by_cases h1 : σ 436 1 < 90
  · rw [if_pos h1, sp_st_s]
    have h2 : tn (σ 436 1) < 90 := tn_lt (b := 90) h (by decide) h1
    rw [← nI_tn h, nI_1]
    exact Int32.not_lt.mp (nI_pos (by omega))
  · rw [if_neg h1]; exact h
def f_wrD (τ : Nat → Nat → Int32) (k : Nat) : Nat → Nat → Int32 := if 0 < τ (9 + k) 8 then f_appO τ 63 else τ
def f_wrE (τ : Nat → Nat → Int32) (k : Nat) : Nat → Nat → Int32 := if f_hasError τ k = true then f_appO τ 33 else τ
def f_wrP (σ : Nat → Nat → Int32) (x : Option Nat) : Nat → Nat → Int32 := match x with
  | none => σ
  | some k => f_wrE (f_wrD (f_appO σ (if σ (9 + k) 6 = 0 then 82 else 76)) k) k
theorem f_wrP_0 {σ : Nat → Nat → Int32} (x : Option Nat) (h : 0 ≤ σ 436 1) : 0 ≤ f_wrP σ x 436 1 := by
  rcases x with _ | k
  · exact h
  · have h1 : ∀ (τ : Nat → Nat → Int32), 0 ≤ τ 436 1 → 0 ≤ f_wrD τ k 436 1 := fun τ ht => by
      unfold f_wrD
      by_cases hc : 0 < τ (9 + k) 8
      · rw [if_pos hc]; exact f_appO_0 ht
      · rw [if_neg hc]; exact ht
    have h2 : ∀ (τ : Nat → Nat → Int32), 0 ≤ τ 436 1 → 0 ≤ f_wrE τ k 436 1 := fun τ ht => by
      unfold f_wrE
      by_cases hc : f_hasError τ k = true
      · rw [if_pos hc]; exact f_appO_0 ht
      · rw [if_neg hc]; exact ht
    exact h2 _ (h1 _ (f_appO_0 h))
def S_wr (k : Nat) (τ : Nat → Nat → Int32) (i : Nat) : Nat → Nat → Int32 := f_wrP τ (f_inPlace τ k (nI i))
def f_wrT (σ : Nat → Nat → Int32) (k i : Nat) : Nat → Nat → Int32 := foldI (S_wr k) (sp_st σ 436 1 0) i
def f_wrTn (σ : Nat → Nat → Int32) (k : Nat) : Nat → Nat → Int32 := f_wrT σ k (tn (f_countPrints (sp_st σ 436 1 0) k))
theorem f_wrT_0 (σ : Nat → Nat → Int32) (k : Nat) : ∀ i : Nat, 0 ≤ f_wrT σ k i 436 1
  | 0 => by show 0 ≤ sp_st σ 436 1 0 436 1; rw [sp_st_s]; decide
  | i + 1 => f_wrP_0 _ (f_wrT_0 σ k i)
theorem f_wrT_s {σ : Nat → Nat → Int32} {k i : Nat} {x : Option Nat} (h : f_inPlace (f_wrT σ k i) k (nI i) = x) : f_wrP (f_wrT σ k i) x = f_wrT σ k (i + 1) := by subst h; rfl
def f_signOf (σ : Nat → Nat → Int32) (r c1 : Int32) : Int32 := if f_under σ r = true then 126 else match f_inCell σ r c1 with
  | none => 46
  | some k => cz (48 + (σ (9 + k) 1 - σ (9 + k) 1 / 10 * 10))
def S_row (r : Int32) (τ : Nat → Nat → Int32) (i : Nat) : Nat → Nat → Int32 := f_appO τ (f_signOf τ r (nI i))
def f_wrR (σ : Nat → Nat → Int32) (r : Int32) (i : Nat) : Nat → Nat → Int32 := foldI (S_row r) (sp_st σ 436 1 0) i
theorem f_wrR_0 (σ : Nat → Nat → Int32) (r : Int32) : ∀ i : Nat, 0 ≤ f_wrR σ r i 436 1
  | 0 => by show 0 ≤ sp_st σ 436 1 0 436 1; rw [sp_st_s]; decide
  | i + 1 => f_appO_0 (f_wrR_0 σ r i)
theorem wi_X9_writePrint_X9 : ∀ w ∈ wsX90, w ∈ wsX9_writePrint := by decide +kernel
theorem wi_X9_writePrint_X3 : ∀ w ∈ wsX30, w ∈ wsX9_writePrint := by decide +kernel
set_option maxHeartbeats 4000000 in
set_option maxRecDepth 100000 in
theorem c_X9_writePrint (l : Launch) (D : va_G) (ad : Nat → Nat) (cy : Nat → ClassId) (pm : Nat → Nat) (rj : Option Nat) (σ : Nat → Nat → Int32) (sz : Nat) (hi : sp_inj ad 459) (x : Option Nat) (hx0 : ∀ j, x = some j → j < 30) (h0 : 0 ≤ σ 436 1) : Met l yX9_writePrint wsX9_writePrint ({ frames := 5, cells := 0, slots := 0, locals := 109 } : Room) (sp_Pm D (tyG cy) sz [.ref (ad (429)), va_rf (x.map (fun i => ad (9 + i)))] (cW ad cy pm rj σ)) (sp_Q D (none) (cW ad cy (pm) (rj) (f_wrP σ x)) (sp_A ad 459 sz)) 0 0 (sp_A ad 459 sz) := by
  refine Met.ofW (cc := cX9_writePrint) (maxL := 2) (ret := none) (by decide) rfl ?_
  intro p e s m args below meth c s₁ B hml hv
  obtain ⟨rfl, hsz, hP, hK⟩ := hv
  have hx := B.exec
  have hb := B.bytes
  have hr := B.returns
  have hts := atoms_spec (ws := wsX9_writePrint) B.pre
  have hown : s.vm.findClass RX9 = some m.cls := findClass_of_methodNamed B.named
  have hlocks := B.notSynchronized
  subst hsz
  have hS : va_S (sp_A ad 459 s.heap.size) s.heap s.heap [] := va_S.rf
  have hAk : ∀ k, k < 459 → (sp_A ad 459 s.heap.size) (ad k) := fun k hk => Or.inl ⟨k, hk, rfl⟩
  skip
  rcases x with _ | k
  · skip
    have hl := lv_entry ([.ref (ad (429)), .null]) (n := 2) (Nat.le_of_ble_eq_true rfl)
    refine W.eq (lg_entry_eq _ ([.ref (ad (429)), .null]) _) ?_
    generalize (lg_sl ([.ref (ad (429)), .null]) ++ List.replicate (2 - (lg_sl ([.ref (ad (429)), .null])).length) Slot.unset).toArray = ls at hl ⊢
    have hl : lv_has ls 2 [(0, .ref (ad (429))), (1, .null)] := hl
    refine lv_aload_nN hx hb dX9_writePrint_0 rfl (lv_at hl 1 rfl) ?_
    refine lv_ifnonnullN hx hb dX9_writePrint_1 ?_
    have hE9 : cW ad cy (pm) (rj) (σ) = cW ad cy (pm) (rj) (f_wrP σ none) := by exact cW_eq rfl (by first | (simp only [f_wrP]; done) | (simp only [f_wrP, f_wrE, f_wrD]; simp [b2i]; done))
    have hP : va_P D vwCl (cW ad cy (pm) (rj) (f_wrP σ none)) s.heap := by rw [← hE9]; exact hP
    exact W.vret hx hb hr (fun T9 hT9 _ => ⟨rfl, by rw [hT9]; exact hP, hS.F hT9⟩) hS.2.2 dX9_writePrint_4
  · skip
    have hk : k < 30 := hx0 k rfl
    have hl := lv_entry ([.ref (ad (429)), .ref (ad (9 + k))]) (n := 2) (Nat.le_of_ble_eq_true rfl)
    refine W.eq (lg_entry_eq _ ([.ref (ad (429)), .ref (ad (9 + k))]) _) ?_
    generalize (lg_sl ([.ref (ad (429)), .ref (ad (9 + k))]) ++ List.replicate (2 - (lg_sl ([.ref (ad (429)), .ref (ad (9 + k))])).length) Slot.unset).toArray = ls at hl ⊢
    have hl : lv_has ls 2 [(0, .ref (ad (429))), (1, .ref (ad (9 + k)))] := hl
    refine lv_aload_n hx hb dX9_writePrint_0 rfl (lv_at hl 1 rfl) ?_
    refine lv_ifnonnull (tgt := 5) hx hb dX9_writePrint_1 (by decide) ?_
    refine lv_aload_n hx hb dX9_writePrint_5 rfl (lv_at hl 0 rfl) ?_
    refine sp_get hx hb hts wi_X9_writePrint_X9 hown hK hP (κ := 429) (by decide) cE_sp rfl 7 (by decide) (hts _ (List.mem_of_getElem? (i := 1) rfl)) (fun _ h => h) rfl dX9_writePrint_6 ?_
    refine lv_aload_n hx hb dX9_writePrint_9 rfl (lv_at hl 1 rfl) ?_
    refine sp_get hx hb hts wi_X9_writePrint_X3 hown hK hP (κ := 9 + k) (by omega) (cE_print (by omega) (by omega)) rfl 6 (by decide) (hts _ (List.mem_of_getElem? (i := 2) rfl)) (fun _ h => h) rfl dX9_writePrint_10 ?_
    refine lv_if_eq (tgt := 21) hx hb dX9_writePrint_13 (by decide) (fun c_1 => ?_) (fun c_1 => ?_)
    · rw [bz_eq0] at c_1
      refine lv_bipush (v := 82) hx hb dX9_writePrint_21 (by decide) ?_
      refine sp_callm (va_runV (As := [.int (82)]) (rest := []) ⟨hx, hb, hml, hown, hts⟩ (c_X7_append_436 l D ad cy pm rj σ _ hi (by first | exact h0 | exact f_appO_0 h0 | exact f_appO_0 (f_appO_0 h0)) 82) (cwV 1 hts gX9_writePrint_X7_append rfl rfl rfl (by decide +kernel) ⟨Nat.le_of_ble_eq_true rfl, Nat.le_of_ble_eq_true rfl⟩) (sp_preVm hK hP (κ := 436) (by decide) cE_out rfl) rfl rfl hl.1 rfl (lv_room (Nat.le_of_ble_eq_true rfl)) dX9_writePrint_23 ⟨Nat.le_of_ble_eq_true rfl, Nat.le_of_ble_eq_true rfl⟩) hS (fun q h1 h2 => sp_Alt h1 h2) (sp_Ale hS.1) (fun H locs hP hle hfr hS => ?_)
      refine W.eq (g2 := F0 m 26 ls []) rfl ?_
      refine lv_aload_n hx hb dX9_writePrint_26 rfl (lv_at hl 1 rfl) ?_
      refine sp_get hx hb hts wi_X9_writePrint_X3 hown hK hP (κ := 9 + k) (by omega) (cE_print (by omega) (by omega)) rfl 8 (by decide) (hts _ (List.mem_of_getElem? (i := 3) rfl)) (fun _ h => h) rfl dX9_writePrint_27 ?_
      refine lv_if_le (tgt := 42) hx hb dX9_writePrint_30 (by decide) (fun c_2 => ?_) (fun c_2 => ?_)
      · skip
        have c_2d := Int32.not_lt.mpr c_2
        refine lv_aload_n hx hb dX9_writePrint_42 rfl (lv_at hl 0 rfl) ?_
        refine sp_get hx hb hts wi_X9_writePrint_X9 hown hK hP (κ := 429) (by decide) cE_sp rfl 1 (by decide) (hts _ (List.mem_of_getElem? (i := 4) rfl)) (fun _ h => h) rfl dX9_writePrint_43 ?_
        refine lv_aload_n hx hb dX9_writePrint_46 rfl (lv_at hl 1 rfl) ?_
        refine sp_call (W.runV (As := [.ref (ad (9 + k))]) (rest := []) ⟨hx, hb, hml, hown, hts⟩ (c_X4_hasError l D ad cy pm rj (f_appO σ 82) k (by omega)) (cwV 1 hts gX9_writePrint_X4_hasError rfl rfl rfl (by decide +kernel) ⟨Nat.le_of_ble_eq_true rfl, Nat.le_of_ble_eq_true rfl⟩) (sp_preV hK hP (κ := 430) (by decide) cE_proof rfl) rfl rfl hl.1 rfl (lv_room (Nat.le_of_ble_eq_true rfl)) dX9_writePrint_47 ⟨Nat.le_of_ble_eq_true rfl, Nat.le_of_ble_eq_true rfl⟩) ?_
        refine W.eq (g2 := F0 m 50 ls [.int (b2i (f_hasError (f_appO σ 82) k))]) rfl ?_
        refine lv_if_eq (tgt := 62) hx hb dX9_writePrint_50 (by decide) (fun c_3 => ?_) (fun c_3 => ?_)
        · rw [b2i_eq0] at c_3
          have hE9 : cW ad cy (pm) (rj) (f_appO σ 82) = cW ad cy (pm) (rj) (f_wrP σ (some k)) := by exact cW_eq rfl (by first | (simp only [f_wrP]; done) | (simp only [f_wrP, f_wrE, f_wrD]; simp [b2i, c_1, c_2, c_2d, c_3]; done))
          have hP : va_P D vwCl (cW ad cy (pm) (rj) (f_wrP σ (some k))) H := by rw [← hE9]; exact hP
          exact W.vret hx hb hr (fun T9 hT9 _ => ⟨rfl, by rw [hT9]; exact hP, hS.F hT9⟩) hS.2.2 dX9_writePrint_62
        · rw [b2i_eq0] at c_3
          refine lv_aload_n hx hb dX9_writePrint_53 rfl (lv_at hl 0 rfl) ?_
          refine sp_get hx hb hts wi_X9_writePrint_X9 hown hK hP (κ := 429) (by decide) cE_sp rfl 7 (by decide) (hts _ (List.mem_of_getElem? (i := 1) rfl)) (fun _ h => h) rfl dX9_writePrint_54 ?_
          refine lv_bipush (v := 33) hx hb dX9_writePrint_57 (by decide) ?_
          refine sp_callm (va_runV (As := [.int (33)]) (rest := []) ⟨hx, hb, hml, hown, hts⟩ (c_X7_append_436 l D ad cy pm rj (f_appO σ 82) _ hi (by first | exact h0 | exact f_appO_0 h0 | exact f_appO_0 (f_appO_0 h0)) 33) (cwV 1 hts gX9_writePrint_X7_append rfl rfl rfl (by decide +kernel) ⟨Nat.le_of_ble_eq_true rfl, Nat.le_of_ble_eq_true rfl⟩) (sp_preVm hK hP (κ := 436) (by decide) cE_out rfl) rfl rfl hl.1 rfl (lv_room (Nat.le_of_ble_eq_true rfl)) dX9_writePrint_59 ⟨Nat.le_of_ble_eq_true rfl, Nat.le_of_ble_eq_true rfl⟩) hS (fun q h1 h2 => sp_Alt h1 h2) (sp_Ale hS.1) (fun H locs hP hle hfr hS => ?_)
          refine W.eq (g2 := F0 m 62 ls []) rfl ?_
          have hE9 : cW ad cy (pm) (rj) (f_appO (f_appO σ 82) 33) = cW ad cy (pm) (rj) (f_wrP σ (some k)) := by exact cW_eq rfl (by first | (simp only [f_wrP]; done) | (simp only [f_wrP, f_wrE, f_wrD]; simp [b2i, c_1, c_2, c_2d, c_3]; done))
          have hP : va_P D vwCl (cW ad cy (pm) (rj) (f_wrP σ (some k))) H := by rw [← hE9]; exact hP
          exact W.vret hx hb hr (fun T9 hT9 _ => ⟨rfl, by rw [hT9]; exact hP, hS.F hT9⟩) hS.2.2 dX9_writePrint_62
      · skip
        have c_2d := Int32.not_le.mp c_2
        refine lv_aload_n hx hb dX9_writePrint_33 rfl (lv_at hl 0 rfl) ?_
        refine sp_get hx hb hts wi_X9_writePrint_X9 hown hK hP (κ := 429) (by decide) cE_sp rfl 7 (by decide) (hts _ (List.mem_of_getElem? (i := 1) rfl)) (fun _ h => h) rfl dX9_writePrint_34 ?_
        refine lv_bipush (v := 63) hx hb dX9_writePrint_37 (by decide) ?_
        refine sp_callm (va_runV (As := [.int (63)]) (rest := []) ⟨hx, hb, hml, hown, hts⟩ (c_X7_append_436 l D ad cy pm rj (f_appO σ 82) _ hi (by first | exact h0 | exact f_appO_0 h0 | exact f_appO_0 (f_appO_0 h0)) 63) (cwV 1 hts gX9_writePrint_X7_append rfl rfl rfl (by decide +kernel) ⟨Nat.le_of_ble_eq_true rfl, Nat.le_of_ble_eq_true rfl⟩) (sp_preVm hK hP (κ := 436) (by decide) cE_out rfl) rfl rfl hl.1 rfl (lv_room (Nat.le_of_ble_eq_true rfl)) dX9_writePrint_39 ⟨Nat.le_of_ble_eq_true rfl, Nat.le_of_ble_eq_true rfl⟩) hS (fun q h1 h2 => sp_Alt h1 h2) (sp_Ale hS.1) (fun H locs hP hle hfr hS => ?_)
        refine W.eq (g2 := F0 m 42 ls []) rfl ?_
        refine lv_aload_n hx hb dX9_writePrint_42 rfl (lv_at hl 0 rfl) ?_
        refine sp_get hx hb hts wi_X9_writePrint_X9 hown hK hP (κ := 429) (by decide) cE_sp rfl 1 (by decide) (hts _ (List.mem_of_getElem? (i := 4) rfl)) (fun _ h => h) rfl dX9_writePrint_43 ?_
        refine lv_aload_n hx hb dX9_writePrint_46 rfl (lv_at hl 1 rfl) ?_
        refine sp_call (W.runV (As := [.ref (ad (9 + k))]) (rest := []) ⟨hx, hb, hml, hown, hts⟩ (c_X4_hasError l D ad cy pm rj (f_appO (f_appO σ 82) 63) k (by omega)) (cwV 1 hts gX9_writePrint_X4_hasError rfl rfl rfl (by decide +kernel) ⟨Nat.le_of_ble_eq_true rfl, Nat.le_of_ble_eq_true rfl⟩) (sp_preV hK hP (κ := 430) (by decide) cE_proof rfl) rfl rfl hl.1 rfl (lv_room (Nat.le_of_ble_eq_true rfl)) dX9_writePrint_47 ⟨Nat.le_of_ble_eq_true rfl, Nat.le_of_ble_eq_true rfl⟩) ?_
        refine W.eq (g2 := F0 m 50 ls [.int (b2i (f_hasError (f_appO (f_appO σ 82) 63) k))]) rfl ?_
        refine lv_if_eq (tgt := 62) hx hb dX9_writePrint_50 (by decide) (fun c_4 => ?_) (fun c_4 => ?_)
        · rw [b2i_eq0] at c_4
          have hE9 : cW ad cy (pm) (rj) (f_appO (f_appO σ 82) 63) = cW ad cy (pm) (rj) (f_wrP σ (some k)) := by exact cW_eq rfl (by first | (simp only [f_wrP]; done) | (simp only [f_wrP, f_wrE, f_wrD]; simp [b2i, c_1, c_2, c_2d, c_4]; done))
          have hP : va_P D vwCl (cW ad cy (pm) (rj) (f_wrP σ (some k))) H := by rw [← hE9]; exact hP
          exact W.vret hx hb hr (fun T9 hT9 _ => ⟨rfl, by rw [hT9]; exact hP, hS.F hT9⟩) hS.2.2 dX9_writePrint_62
        · rw [b2i_eq0] at c_4
          refine lv_aload_n hx hb dX9_writePrint_53 rfl (lv_at hl 0 rfl) ?_
          refine sp_get hx hb hts wi_X9_writePrint_X9 hown hK hP (κ := 429) (by decide) cE_sp rfl 7 (by decide) (hts _ (List.mem_of_getElem? (i := 1) rfl)) (fun _ h => h) rfl dX9_writePrint_54 ?_
          refine lv_bipush (v := 33) hx hb dX9_writePrint_57 (by decide) ?_
          refine sp_callm (va_runV (As := [.int (33)]) (rest := []) ⟨hx, hb, hml, hown, hts⟩ (c_X7_append_436 l D ad cy pm rj (f_appO (f_appO σ 82) 63) _ hi (by first | exact h0 | exact f_appO_0 h0 | exact f_appO_0 (f_appO_0 h0)) 33) (cwV 1 hts gX9_writePrint_X7_append rfl rfl rfl (by decide +kernel) ⟨Nat.le_of_ble_eq_true rfl, Nat.le_of_ble_eq_true rfl⟩) (sp_preVm hK hP (κ := 436) (by decide) cE_out rfl) rfl rfl hl.1 rfl (lv_room (Nat.le_of_ble_eq_true rfl)) dX9_writePrint_59 ⟨Nat.le_of_ble_eq_true rfl, Nat.le_of_ble_eq_true rfl⟩) hS (fun q h1 h2 => sp_Alt h1 h2) (sp_Ale hS.1) (fun H locs hP hle hfr hS => ?_)
          refine W.eq (g2 := F0 m 62 ls []) rfl ?_
          have hE9 : cW ad cy (pm) (rj) (f_appO (f_appO (f_appO σ 82) 63) 33) = cW ad cy (pm) (rj) (f_wrP σ (some k)) := by exact cW_eq rfl (by first | (simp only [f_wrP]; done) | (simp only [f_wrP, f_wrE, f_wrD]; simp [b2i, c_1, c_2, c_2d, c_4]; done))
          have hP : va_P D vwCl (cW ad cy (pm) (rj) (f_wrP σ (some k))) H := by rw [← hE9]; exact hP
          exact W.vret hx hb hr (fun T9 hT9 _ => ⟨rfl, by rw [hT9]; exact hP, hS.F hT9⟩) hS.2.2 dX9_writePrint_62
    · rw [bz_eq0] at c_1
      refine lv_bipush (v := 76) hx hb dX9_writePrint_16 (by decide) ?_
      refine lv_goto (tgt := 23) hx hb dX9_writePrint_18 (by decide) ?_
      refine sp_callm (va_runV (As := [.int (76)]) (rest := []) ⟨hx, hb, hml, hown, hts⟩ (c_X7_append_436 l D ad cy pm rj σ _ hi (by first | exact h0 | exact f_appO_0 h0 | exact f_appO_0 (f_appO_0 h0)) 76) (cwV 1 hts gX9_writePrint_X7_append rfl rfl rfl (by decide +kernel) ⟨Nat.le_of_ble_eq_true rfl, Nat.le_of_ble_eq_true rfl⟩) (sp_preVm hK hP (κ := 436) (by decide) cE_out rfl) rfl rfl hl.1 rfl (lv_room (Nat.le_of_ble_eq_true rfl)) dX9_writePrint_23 ⟨Nat.le_of_ble_eq_true rfl, Nat.le_of_ble_eq_true rfl⟩) hS (fun q h1 h2 => sp_Alt h1 h2) (sp_Ale hS.1) (fun H locs hP hle hfr hS => ?_)
      refine W.eq (g2 := F0 m 26 ls []) rfl ?_
      refine lv_aload_n hx hb dX9_writePrint_26 rfl (lv_at hl 1 rfl) ?_
      refine sp_get hx hb hts wi_X9_writePrint_X3 hown hK hP (κ := 9 + k) (by omega) (cE_print (by omega) (by omega)) rfl 8 (by decide) (hts _ (List.mem_of_getElem? (i := 3) rfl)) (fun _ h => h) rfl dX9_writePrint_27 ?_
      refine lv_if_le (tgt := 42) hx hb dX9_writePrint_30 (by decide) (fun c_5 => ?_) (fun c_5 => ?_)
      · skip
        have c_5d := Int32.not_lt.mpr c_5
        refine lv_aload_n hx hb dX9_writePrint_42 rfl (lv_at hl 0 rfl) ?_
        refine sp_get hx hb hts wi_X9_writePrint_X9 hown hK hP (κ := 429) (by decide) cE_sp rfl 1 (by decide) (hts _ (List.mem_of_getElem? (i := 4) rfl)) (fun _ h => h) rfl dX9_writePrint_43 ?_
        refine lv_aload_n hx hb dX9_writePrint_46 rfl (lv_at hl 1 rfl) ?_
        refine sp_call (W.runV (As := [.ref (ad (9 + k))]) (rest := []) ⟨hx, hb, hml, hown, hts⟩ (c_X4_hasError l D ad cy pm rj (f_appO σ 76) k (by omega)) (cwV 1 hts gX9_writePrint_X4_hasError rfl rfl rfl (by decide +kernel) ⟨Nat.le_of_ble_eq_true rfl, Nat.le_of_ble_eq_true rfl⟩) (sp_preV hK hP (κ := 430) (by decide) cE_proof rfl) rfl rfl hl.1 rfl (lv_room (Nat.le_of_ble_eq_true rfl)) dX9_writePrint_47 ⟨Nat.le_of_ble_eq_true rfl, Nat.le_of_ble_eq_true rfl⟩) ?_
        refine W.eq (g2 := F0 m 50 ls [.int (b2i (f_hasError (f_appO σ 76) k))]) rfl ?_
        refine lv_if_eq (tgt := 62) hx hb dX9_writePrint_50 (by decide) (fun c_6 => ?_) (fun c_6 => ?_)
        · rw [b2i_eq0] at c_6
          have hE9 : cW ad cy (pm) (rj) (f_appO σ 76) = cW ad cy (pm) (rj) (f_wrP σ (some k)) := by exact cW_eq rfl (by first | (simp only [f_wrP]; done) | (simp only [f_wrP, f_wrE, f_wrD]; simp [b2i, c_1, c_5, c_5d, c_6]; done))
          have hP : va_P D vwCl (cW ad cy (pm) (rj) (f_wrP σ (some k))) H := by rw [← hE9]; exact hP
          exact W.vret hx hb hr (fun T9 hT9 _ => ⟨rfl, by rw [hT9]; exact hP, hS.F hT9⟩) hS.2.2 dX9_writePrint_62
        · rw [b2i_eq0] at c_6
          refine lv_aload_n hx hb dX9_writePrint_53 rfl (lv_at hl 0 rfl) ?_
          refine sp_get hx hb hts wi_X9_writePrint_X9 hown hK hP (κ := 429) (by decide) cE_sp rfl 7 (by decide) (hts _ (List.mem_of_getElem? (i := 1) rfl)) (fun _ h => h) rfl dX9_writePrint_54 ?_
          refine lv_bipush (v := 33) hx hb dX9_writePrint_57 (by decide) ?_
          refine sp_callm (va_runV (As := [.int (33)]) (rest := []) ⟨hx, hb, hml, hown, hts⟩ (c_X7_append_436 l D ad cy pm rj (f_appO σ 76) _ hi (by first | exact h0 | exact f_appO_0 h0 | exact f_appO_0 (f_appO_0 h0)) 33) (cwV 1 hts gX9_writePrint_X7_append rfl rfl rfl (by decide +kernel) ⟨Nat.le_of_ble_eq_true rfl, Nat.le_of_ble_eq_true rfl⟩) (sp_preVm hK hP (κ := 436) (by decide) cE_out rfl) rfl rfl hl.1 rfl (lv_room (Nat.le_of_ble_eq_true rfl)) dX9_writePrint_59 ⟨Nat.le_of_ble_eq_true rfl, Nat.le_of_ble_eq_true rfl⟩) hS (fun q h1 h2 => sp_Alt h1 h2) (sp_Ale hS.1) (fun H locs hP hle hfr hS => ?_)
          refine W.eq (g2 := F0 m 62 ls []) rfl ?_
          have hE9 : cW ad cy (pm) (rj) (f_appO (f_appO σ 76) 33) = cW ad cy (pm) (rj) (f_wrP σ (some k)) := by exact cW_eq rfl (by first | (simp only [f_wrP]; done) | (simp only [f_wrP, f_wrE, f_wrD]; simp [b2i, c_1, c_5, c_5d, c_6]; done))
          have hP : va_P D vwCl (cW ad cy (pm) (rj) (f_wrP σ (some k))) H := by rw [← hE9]; exact hP
          exact W.vret hx hb hr (fun T9 hT9 _ => ⟨rfl, by rw [hT9]; exact hP, hS.F hT9⟩) hS.2.2 dX9_writePrint_62
      · skip
        have c_5d := Int32.not_le.mp c_5
        refine lv_aload_n hx hb dX9_writePrint_33 rfl (lv_at hl 0 rfl) ?_
        refine sp_get hx hb hts wi_X9_writePrint_X9 hown hK hP (κ := 429) (by decide) cE_sp rfl 7 (by decide) (hts _ (List.mem_of_getElem? (i := 1) rfl)) (fun _ h => h) rfl dX9_writePrint_34 ?_
        refine lv_bipush (v := 63) hx hb dX9_writePrint_37 (by decide) ?_
        refine sp_callm (va_runV (As := [.int (63)]) (rest := []) ⟨hx, hb, hml, hown, hts⟩ (c_X7_append_436 l D ad cy pm rj (f_appO σ 76) _ hi (by first | exact h0 | exact f_appO_0 h0 | exact f_appO_0 (f_appO_0 h0)) 63) (cwV 1 hts gX9_writePrint_X7_append rfl rfl rfl (by decide +kernel) ⟨Nat.le_of_ble_eq_true rfl, Nat.le_of_ble_eq_true rfl⟩) (sp_preVm hK hP (κ := 436) (by decide) cE_out rfl) rfl rfl hl.1 rfl (lv_room (Nat.le_of_ble_eq_true rfl)) dX9_writePrint_39 ⟨Nat.le_of_ble_eq_true rfl, Nat.le_of_ble_eq_true rfl⟩) hS (fun q h1 h2 => sp_Alt h1 h2) (sp_Ale hS.1) (fun H locs hP hle hfr hS => ?_)
        refine W.eq (g2 := F0 m 42 ls []) rfl ?_
        refine lv_aload_n hx hb dX9_writePrint_42 rfl (lv_at hl 0 rfl) ?_
        refine sp_get hx hb hts wi_X9_writePrint_X9 hown hK hP (κ := 429) (by decide) cE_sp rfl 1 (by decide) (hts _ (List.mem_of_getElem? (i := 4) rfl)) (fun _ h => h) rfl dX9_writePrint_43 ?_
        refine lv_aload_n hx hb dX9_writePrint_46 rfl (lv_at hl 1 rfl) ?_
        refine sp_call (W.runV (As := [.ref (ad (9 + k))]) (rest := []) ⟨hx, hb, hml, hown, hts⟩ (c_X4_hasError l D ad cy pm rj (f_appO (f_appO σ 76) 63) k (by omega)) (cwV 1 hts gX9_writePrint_X4_hasError rfl rfl rfl (by decide +kernel) ⟨Nat.le_of_ble_eq_true rfl, Nat.le_of_ble_eq_true rfl⟩) (sp_preV hK hP (κ := 430) (by decide) cE_proof rfl) rfl rfl hl.1 rfl (lv_room (Nat.le_of_ble_eq_true rfl)) dX9_writePrint_47 ⟨Nat.le_of_ble_eq_true rfl, Nat.le_of_ble_eq_true rfl⟩) ?_
        refine W.eq (g2 := F0 m 50 ls [.int (b2i (f_hasError (f_appO (f_appO σ 76) 63) k))]) rfl ?_
        refine lv_if_eq (tgt := 62) hx hb dX9_writePrint_50 (by decide) (fun c_7 => ?_) (fun c_7 => ?_)
        · rw [b2i_eq0] at c_7
          have hE9 : cW ad cy (pm) (rj) (f_appO (f_appO σ 76) 63) = cW ad cy (pm) (rj) (f_wrP σ (some k)) := by exact cW_eq rfl (by first | (simp only [f_wrP]; done) | (simp only [f_wrP, f_wrE, f_wrD]; simp [b2i, c_1, c_5, c_5d, c_7]; done))
          have hP : va_P D vwCl (cW ad cy (pm) (rj) (f_wrP σ (some k))) H := by rw [← hE9]; exact hP
          exact W.vret hx hb hr (fun T9 hT9 _ => ⟨rfl, by rw [hT9]; exact hP, hS.F hT9⟩) hS.2.2 dX9_writePrint_62
        · rw [b2i_eq0] at c_7
          refine lv_aload_n hx hb dX9_writePrint_53 rfl (lv_at hl 0 rfl) ?_
          refine sp_get hx hb hts wi_X9_writePrint_X9 hown hK hP (κ := 429) (by decide) cE_sp rfl 7 (by decide) (hts _ (List.mem_of_getElem? (i := 1) rfl)) (fun _ h => h) rfl dX9_writePrint_54 ?_
          refine lv_bipush (v := 33) hx hb dX9_writePrint_57 (by decide) ?_
          refine sp_callm (va_runV (As := [.int (33)]) (rest := []) ⟨hx, hb, hml, hown, hts⟩ (c_X7_append_436 l D ad cy pm rj (f_appO (f_appO σ 76) 63) _ hi (by first | exact h0 | exact f_appO_0 h0 | exact f_appO_0 (f_appO_0 h0)) 33) (cwV 1 hts gX9_writePrint_X7_append rfl rfl rfl (by decide +kernel) ⟨Nat.le_of_ble_eq_true rfl, Nat.le_of_ble_eq_true rfl⟩) (sp_preVm hK hP (κ := 436) (by decide) cE_out rfl) rfl rfl hl.1 rfl (lv_room (Nat.le_of_ble_eq_true rfl)) dX9_writePrint_59 ⟨Nat.le_of_ble_eq_true rfl, Nat.le_of_ble_eq_true rfl⟩) hS (fun q h1 h2 => sp_Alt h1 h2) (sp_Ale hS.1) (fun H locs hP hle hfr hS => ?_)
          refine W.eq (g2 := F0 m 62 ls []) rfl ?_
          have hE9 : cW ad cy (pm) (rj) (f_appO (f_appO (f_appO σ 76) 63) 33) = cW ad cy (pm) (rj) (f_wrP σ (some k)) := by exact cW_eq rfl (by first | (simp only [f_wrP]; done) | (simp only [f_wrP, f_wrE, f_wrD]; simp [b2i, c_1, c_5, c_5d, c_7]; done))
          have hP : va_P D vwCl (cW ad cy (pm) (rj) (f_wrP σ (some k))) H := by rw [← hE9]; exact hP
          exact W.vret hx hb hr (fun T9 hT9 _ => ⟨rfl, by rw [hT9]; exact hP, hS.F hT9⟩) hS.2.2 dX9_writePrint_62

theorem wi_X9_signOf_X9 : ∀ w ∈ wsX90, w ∈ wsX9_signOf := by decide +kernel
theorem wi_X9_signOf_X3 : ∀ w ∈ wsX30, w ∈ wsX9_signOf := by decide +kernel
set_option maxHeartbeats 4000000 in
set_option maxRecDepth 100000 in
theorem c_X9_signOf (l : Launch) (D : va_G) (ad : Nat → Nat) (cy : Nat → ClassId) (pm : Nat → Nat) (rj : Option Nat) (σ : Nat → Nat → Int32) (r : Int32) (c1 : Int32) : Met l yX9_signOf wsX9_signOf ({ frames := 1, cells := 0, slots := 0, locals := 26 } : Room) (sp_Pc D (tyG cy) [.ref (ad (429)), .int (r), .int (c1)] (cW ad cy pm rj σ)) (sp_S (some (.int (f_signOf σ r c1)))) 0 0 (fun _ => False) := by
  refine Met.ofW (cc := cX9_signOf) (maxL := 4) (ret := (some .char)) (by decide) rfl ?_
  intro p e s m args below meth c s₁ B hml hv
  obtain ⟨rfl, hP, hK⟩ := hv
  have hx := B.exec
  have hb := B.bytes
  have hr := B.returns
  have hts := atoms_spec (ws := wsX9_signOf) B.pre
  have hown : s.vm.findClass RX9 = some m.cls := findClass_of_methodNamed B.named
  have hlocks := B.notSynchronized
  have hl := lv_entry ([.ref (ad (429)), .int (r), .int (c1)]) (n := 4) (Nat.le_of_ble_eq_true rfl)
  refine W.eq (lg_entry_eq _ ([.ref (ad (429)), .int (r), .int (c1)]) _) ?_
  generalize (lg_sl ([.ref (ad (429)), .int (r), .int (c1)]) ++ List.replicate (4 - (lg_sl ([.ref (ad (429)), .int (r), .int (c1)])).length) Slot.unset).toArray = ls at hl ⊢
  have hl : lv_has ls 4 [(0, .ref (ad (429))), (1, .int (r)), (2, .int (c1))] := hl
  refine lv_aload_n hx hb dX9_signOf_0 rfl (lv_at hl 0 rfl) ?_
  refine sp_get hx hb hts wi_X9_signOf_X9 hown hK hP (κ := 429) (by decide) cE_sp rfl 0 (by decide) (hts _ (List.mem_of_getElem? (i := 1) rfl)) (fun _ h => h) rfl dX9_signOf_1 ?_
  refine lv_iload_n hx hb dX9_signOf_4 rfl (lv_at hl 1 rfl) ?_
  refine sp_call (W.runV (As := [.int (r)]) (rest := []) ⟨hx, hb, hml, hown, hts⟩ (c_X0_isUnderWater l D ad cy pm rj σ r) (cwV 1 hts gX9_signOf_X0_isUnderWater rfl rfl rfl (by decide +kernel) ⟨Nat.le_of_ble_eq_true rfl, Nat.le_of_ble_eq_true rfl⟩) (sp_preV hK hP (κ := 0) (by omega) (cE_beach (by omega) (by omega)) rfl) rfl rfl hl.1 rfl (lv_room (Nat.le_of_ble_eq_true rfl)) dX9_signOf_5 ⟨Nat.le_of_ble_eq_true rfl, Nat.le_of_ble_eq_true rfl⟩) ?_
  refine W.eq (g2 := F0 m 8 ls [.int (b2i (f_under σ r))]) rfl ?_
  refine lv_if_eq (tgt := 14) hx hb dX9_signOf_8 (by decide) (fun c_1 => ?_) (fun c_1 => ?_)
  · rw [b2i_eq0] at c_1
    refine lv_aload_n hx hb dX9_signOf_14 rfl (lv_at hl 0 rfl) ?_
    refine sp_get hx hb hts wi_X9_signOf_X9 hown hK hP (κ := 429) (by decide) cE_sp rfl 0 (by decide) (hts _ (List.mem_of_getElem? (i := 1) rfl)) (fun _ h => h) rfl dX9_signOf_15 ?_
    refine lv_iload_n hx hb dX9_signOf_18 rfl (lv_at hl 1 rfl) ?_
    refine lv_iload_n hx hb dX9_signOf_19 rfl (lv_at hl 2 rfl) ?_
    refine sp_call (W.runV (As := [.int (r), .int (c1)]) (rest := []) ⟨hx, hb, hml, hown, hts⟩ (c_X0_inCell l D ad cy pm rj σ r c1) (cwV 2 hts gX9_signOf_X0_inCell rfl rfl rfl (by decide +kernel) ⟨Nat.le_of_ble_eq_true rfl, Nat.le_of_ble_eq_true rfl⟩) (sp_preV hK hP (κ := 0) (by omega) (cE_beach (by omega) (by omega)) rfl) rfl rfl hl.1 rfl (lv_room (Nat.le_of_ble_eq_true rfl)) dX9_signOf_20 ⟨Nat.le_of_ble_eq_true rfl, Nat.le_of_ble_eq_true rfl⟩) ?_
    rcases q_2 : f_inCell σ r c1 with _ | j_3
    · refine W.eq (g2 := F0 m 23 ls [.null]) rfl ?_
      refine lv_astore_nN (lv' := [(3, .null), (0, .ref (ad (429))), (1, .int (r)), (2, .int (c1))]) hx hb dX9_signOf_23 rfl hl (by decide) rfl (fun ls hl => ?_)
      refine lv_aload_nN hx hb dX9_signOf_24 rfl (lv_at hl 0 rfl) ?_
      refine lv_ifnonnullN hx hb dX9_signOf_25 ?_
      refine lv_bipush (v := 46) hx hb dX9_signOf_28 (by decide) ?_
      refine lv_goto (tgt := 44) hx hb dX9_signOf_30 (by decide) ?_
      exact W.zret (v := 46) hx hb hr (by decide) (fun T9 hT9 _ => ⟨congrArg (fun z9 => Outcome.returned (some (Value.int z9))) (show (46 : Int32) = f_signOf σ r c1 from (by first | rfl | (simp [f_signOf, b2i, c_1, q_2]; done))), hT9⟩) (fun _ h => by cases h) dX9_signOf_44
    · have hj_3 := f_inCell_lt q_2
      refine W.eq (g2 := F0 m 23 ls [.ref (ad (9 + j_3))]) rfl ?_
      refine lv_astore_n (lv' := [(3, .ref (ad (9 + j_3))), (0, .ref (ad (429))), (1, .int (r)), (2, .int (c1))]) hx hb dX9_signOf_23 rfl hl (by decide) rfl (fun ls hl => ?_)
      refine lv_aload_n hx hb dX9_signOf_24 rfl (lv_at hl 0 rfl) ?_
      refine lv_ifnonnull (tgt := 33) hx hb dX9_signOf_25 (by decide) ?_
      refine lv_bipush (v := 48) hx hb dX9_signOf_33 (by decide) ?_
      refine lv_aload_n hx hb dX9_signOf_35 rfl (lv_at hl 0 rfl) ?_
      refine sp_get hx hb hts wi_X9_signOf_X3 hown hK hP (κ := 9 + j_3) (by omega) (cE_print (by omega) (by omega)) rfl 1 (by decide) (hts _ (List.mem_of_getElem? (i := 2) rfl)) (fun _ h => h) rfl dX9_signOf_36 ?_
      refine lv_bipush (v := 10) hx hb dX9_signOf_39 (by decide) ?_
      refine lv_irem hx hb dX9_signOf_41 (by decide) ?_
      refine lv_iadd hx hb dX9_signOf_42 ?_
      refine lv_i2c hx hb dX9_signOf_43 rfl ?_
      refine W.eq (g2 := F0 m 44 ls [.int (cz (48 + ((σ (9 + j_3) 1) - (σ (9 + j_3) 1) / 10 * 10)))]) rfl ?_
      exact W.zret (v := cz (48 + ((σ (9 + j_3) 1) - (σ (9 + j_3) 1) / 10 * 10))) hx hb hr (pk_nc _) (fun T9 hT9 _ => ⟨congrArg (fun z9 => Outcome.returned (some (Value.int z9))) (show (cz (48 + ((σ (9 + j_3) 1) - (σ (9 + j_3) 1) / 10 * 10)) : Int32) = f_signOf σ r c1 from (by first | rfl | (simp [f_signOf, b2i, c_1, q_2]; done))), hT9⟩) (fun _ h => by cases h) dX9_signOf_44
  · rw [b2i_eq0] at c_1
    refine lv_bipush (v := 126) hx hb dX9_signOf_11 (by decide) ?_
    exact W.zret (v := 126) hx hb hr (by decide) (fun T9 hT9 _ => ⟨congrArg (fun z9 => Outcome.returned (some (Value.int z9))) (show (126 : Int32) = f_signOf σ r c1 from (by first | rfl | (simp [f_signOf, b2i, c_1]; done))), hT9⟩) (fun _ h => by cases h) dX9_signOf_13
