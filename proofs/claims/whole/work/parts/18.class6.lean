
/-! reading the input -/
theorem tab_out {x : Int32} {lo : Int} (n : Nat) (h : ∀ k : Nat, k < n → ¬ x = Int32.ofInt (lo + k)) : x.toInt < lo ∨ lo + ((n : Int) - 1) < x.toInt := by
  by_cases h1 : x.toInt < lo
  · exact Or.inl h1
  · by_cases h2 : lo + ((n : Int) - 1) < x.toInt
    · exact Or.inr h2
    · refine absurd ?_ (h (x.toInt - lo).toNat (by omega))
      rw [show lo + (((x.toInt - lo).toNat : Nat) : Int) = x.toInt by omega, Int32.ofInt_toInt]
theorem sp_st_self (σ : Nat → Nat → Int32) (k j : Nat) : sp_st σ k j (σ k j) = σ := by
  funext a b
  rw [sp_st_at]
  by_cases h : a = k ∧ b = j
  · rw [if_pos h, h.1, h.2]
  · rw [if_neg h]
theorem sp_st_st (σ : Nat → Nat → Int32) (k j : Nat) (v w : Int32) : sp_st (sp_st σ k j v) k j w = sp_st σ k j w := by
  funext a b
  simp only [sp_st_at]
  by_cases h : a = k ∧ b = j <;> simp [h]
theorem f_signI_st {σ : Nat → Nat → Int32} {j : Nat} {v i : Int32} : f_signI (sp_st σ 433 j v) i = f_signI σ i := by
  unfold f_signI f_reachI
  rw [sp_st_k _ _ _ _ _ _ (by decide), sp_st_k _ _ _ _ _ _ (by decide)]
theorem f_signI_cz (σ : Nat → Nat → Int32) (i : Int32) : cz (f_signI σ i) = f_signI σ i := by
  unfold f_signI
  by_cases h : f_reachI σ i = true
  · rw [if_pos h, cz_cz]
  · rw [if_neg h]; decide
def f_rdSign (σ : Nat → Nat → Int32) (x : Int32) : Nat → Nat → Int32 := if f_signI σ (σ 433 3) = x then sp_st (sp_st σ 433 4 0) 433 3 (σ 433 3 + 1) else sp_st (sp_st σ 433 4 1) 433 3 (σ 433 3 + 0)
def S_num (σ : Nat → Nat → Int32) (t : Int32 × Int32 × Int32) (i : Nat) : Int32 × Int32 × Int32 := if t.2.1 = nI i ∧ 48 ≤ f_signI σ t.2.2 ∧ f_signI σ t.2.2 ≤ 57 then (10 * t.1 + (f_signI σ t.2.2 - 48), t.2.1 + 1, t.2.2 + 1) else t
def f_num (σ : Nat → Nat → Int32) (n : Nat) : Int32 × Int32 × Int32 := foldI (S_num σ) (0, 0, σ 433 3) n
def f_rdNum (σ : Nat → Nat → Int32) (n : Nat) : Nat → Nat → Int32 := sp_st (sp_st σ 433 3 (foldI (S_num σ) (0, 0, σ 433 3) n).2.2) 433 4 (b2i ((foldI (S_num σ) (0, 0, σ 433 3) n).2.1 == 0))
def f_rdNumV (σ : Nat → Nat → Int32) (n : Nat) : Int32 := (foldI (S_num σ) (0, 0, σ 433 3) n).1
def f_rdPart (σ : Nat → Nat → Int32) (x : Int32) (i : Nat) : Nat → Nat → Int32 :=
  if x = 99 then sp_st (f_rdNum σ 3) (439 + i) 4 (f_rdNumV σ 3)
  else if x = 100 then sp_st (f_rdNum σ 1) (439 + i) 6 (f_rdNumV σ 1)
  else if x = 102 then (if f_signI σ (σ 433 3) = 76 then f_rdSign (sp_st σ (439 + i) 5 1) 76 else f_rdSign (sp_st σ (439 + i) 5 0) 82)
  else if x = 105 then sp_st (f_rdNum σ 3) (439 + i) 1 (f_rdNumV σ 3)
  else if x = 114 then sp_st (f_rdNum σ 3) (439 + i) 3 (f_rdNumV σ 3)
  else if x = 116 then sp_st (f_rdNum σ 3) (439 + i) 2 (f_rdNumV σ 3)
  else f_rdSign σ x
def f_parts (x : Int32) : Nat := if x = 84 ∨ x = 87 then 0 else if x = 80 then 1 else if x = 72 then 2 else if x = 67 ∨ x = 68 ∨ x = 70 ∨ x = 88 then 3 else 4
theorem f_parts_lt (x : Int32) : f_parts x < 5 := by
  unfold f_parts; split; decide; split; decide; split; decide; split; decide; decide
/-- a command's letter read: its parts are to be read if it has any -/
def f_cmd0 (σ : Nat → Nat → Int32) (i : Nat) : Nat → Nat → Int32 :=
  if exL.getD (f_parts (f_signI σ (σ 433 3))) 0 = 0 then sp_st (sp_st (sp_st σ (439 + i) 0 (f_signI σ (σ 433 3))) 433 4 (b2i (exL.getD (f_parts (f_signI σ (σ 433 3))) 0 == 0))) 433 3 (σ 433 3 + 0)
  else sp_st (sp_st (sp_st σ (439 + i) 0 (f_signI σ (σ 433 3))) 433 4 (b2i (exL.getD (f_parts (f_signI σ (σ 433 3))) 0 == 0))) 433 3 (σ 433 3 + 1)
def S_cmd (f i : Nat) (τ : Nat → Nat → Int32) (j : Nat) : Nat → Nat → Int32 := if τ 433 4 = 0 then f_rdPart τ (exC f j) i else τ
def f_cmdF (σ : Nat → Nat → Int32) (i j : Nat) : Nat → Nat → Int32 := foldI (S_cmd (f_parts (f_signI σ (σ 433 3))) i) (f_cmd0 σ i) j
def f_rdCmd (σ : Nat → Nat → Int32) (i : Nat) : Nat → Nat → Int32 := f_cmdF σ i (exL.getD (f_parts (f_signI σ (σ 433 3))) 0)
theorem cmd_0 {σ τ : Nat → Nat → Int32} {i : Nat} (h : τ = f_cmd0 σ i) : τ = f_cmdF σ i 0 := h
theorem cmd_s {σ : Nat → Nat → Int32} {i j : Nat} (h : f_cmdF σ i j 433 4 = 0) : f_rdPart (f_cmdF σ i j) (exC (f_parts (f_signI σ (σ 433 3))) j) i = f_cmdF σ i (j + 1) := by
  show _ = foldI (S_cmd (f_parts (f_signI σ (σ 433 3))) i) (f_cmd0 σ i) (j + 1)
  rw [foldI_succ]
  show _ = S_cmd _ i (f_cmdF σ i j) j
  unfold S_cmd
  rw [if_pos h]
theorem cmd_stay {σ : Nat → Nat → Int32} {i j n : Nat} (h : ¬ f_cmdF σ i j 433 4 = 0) (hn : j ≤ n) : f_cmdF σ i j = f_cmdF σ i n := by
  obtain ⟨m, rfl⟩ := Nat.exists_eq_add_of_le hn
  clear hn
  induction m with
  | zero => rfl
  | succ m ih =>
    rw [ih]
    show _ = foldI (S_cmd (f_parts (f_signI σ (σ 433 3))) i) (f_cmd0 σ i) (j + m + 1)
    rw [foldI_succ]
    show _ = S_cmd _ i (f_cmdF σ i (j + m)) (j + m)
    unfold S_cmd
    rw [if_neg (by rw [← ih]; exact h)]
def f_par0 (σ : Nat → Nat → Int32) : Nat → Nat → Int32 := sp_st (sp_st (sp_st σ 433 3 0) 433 4 0) 433 2 0
def S_parse (t : Int32 × (Nat → Nat → Int32)) (i : Nat) : Int32 × (Nat → Nat → Int32) :=
  if t.1 = 0 then t
  else if f_rdCmd t.2 i 433 4 = 0 ∧ f_signI (f_rdCmd t.2 i) (f_rdCmd t.2 i 433 3) = 59 then (1, sp_st (sp_st (f_rdCmd t.2 i) 433 2 (f_rdCmd t.2 i 433 2 + 1)) 433 3 (f_rdCmd t.2 i 433 3 + 1))
  else (0, sp_st (sp_st (f_rdCmd t.2 i) 433 2 (f_rdCmd t.2 i 433 2 + 1)) 433 3 (f_rdCmd t.2 i 433 3 + 0))
def f_parse (σ : Nat → Nat → Int32) : Nat → Nat → Int32 := (foldI S_parse (1, f_par0 σ) 20).2
def f_parseV (σ : Nat → Nat → Int32) : Int32 :=
  if ¬ (foldI S_parse (1, f_par0 σ) 20).2 433 4 = 0 ∨ ¬ (foldI S_parse (1, f_par0 σ) 20).1 = 0 ∨ (foldI S_parse (1, f_par0 σ) 20).2 433 3 < (foldI S_parse (1, f_par0 σ) 20).2 434 1 then (foldI S_parse (1, f_par0 σ) 20).2 433 3 else -1
theorem par_stay {σ τ : Nat → Nat → Int32} {x : Int32} {i : Nat} (h : (x, τ) = foldI S_parse (1, f_par0 σ) i) (hx : x = 0) (hn : i ≤ 20) : (x, τ) = foldI S_parse (1, f_par0 σ) 20 := by
  obtain ⟨m, hm⟩ := Nat.exists_eq_add_of_le hn
  rw [hm]
  clear hm hn
  induction m with
  | zero => exact h
  | succ m ih =>
    show _ = foldI S_parse (1, f_par0 σ) (i + m + 1)
    rw [foldI_succ, ← ih]
    unfold S_parse
    rw [if_pos hx]
theorem wi_X6_readSign_X6 : ∀ w ∈ wsX60, w ∈ wsX6_readSign := by decide +kernel
set_option maxHeartbeats 4000000 in
set_option maxRecDepth 100000 in
theorem c_X6_readSign (l : Launch) (D : va_G) (ad : Nat → Nat) (cy : Nat → ClassId) (pm : Nat → Nat) (rj : Option Nat) (σ : Nat → Nat → Int32) (sz : Nat) (hi : sp_inj ad 459) (x : Int32) : Met l yX6_readSign wsX6_readSign ({ frames := 2, cells := 0, slots := 0, locals := 42 } : Room) (sp_Pm D (tyG cy) sz [.ref (ad (433)), .int (x)] (cW ad cy pm rj σ)) (sp_Q D (none) (cW ad cy (pm) (rj) (f_rdSign σ x)) (sp_A ad 459 sz)) 0 0 (sp_A ad 459 sz) := by
  refine Met.ofW (cc := cX6_readSign) (maxL := 2) (ret := none) (by decide) rfl ?_
  intro p e s m args below meth c s₁ B hml hv
  obtain ⟨rfl, hsz, hP, hK⟩ := hv
  have hx := B.exec
  have hb := B.bytes
  have hr := B.returns
  have hts := atoms_spec (ws := wsX6_readSign) B.pre
  have hown : s.vm.findClass RX6 = some m.cls := findClass_of_methodNamed B.named
  have hlocks := B.notSynchronized
  subst hsz
  have hS : va_S (sp_A ad 459 s.heap.size) s.heap s.heap [] := va_S.rf
  have hAk : ∀ k, k < 459 → (sp_A ad 459 s.heap.size) (ad k) := fun k hk => Or.inl ⟨k, hk, rfl⟩
  skip
  have hl := lv_entry ([.ref (ad (433)), .int (x)]) (n := 2) (Nat.le_of_ble_eq_true rfl)
  refine W.eq (lg_entry_eq _ ([.ref (ad (433)), .int (x)]) _) ?_
  generalize (lg_sl ([.ref (ad (433)), .int (x)]) ++ List.replicate (2 - (lg_sl ([.ref (ad (433)), .int (x)])).length) Slot.unset).toArray = ls at hl ⊢
  have hl : lv_has ls 2 [(0, .ref (ad (433))), (1, .int (x))] := hl
  refine lv_aload_n hx hb dX6_readSign_0 rfl (lv_at hl 0 rfl) ?_
  refine lv_aload_n hx hb dX6_readSign_1 rfl (lv_at hl 0 rfl) ?_
  refine sp_get hx hb hts wi_X6_readSign_X6 hown hK hP (κ := 433) (by decide) cE_script rfl 0 (by decide) (hts _ (List.mem_of_getElem? (i := 1) rfl)) (fun _ h => h) rfl dX6_readSign_2 ?_
  refine lv_aload_n hx hb dX6_readSign_5 rfl (lv_at hl 0 rfl) ?_
  refine sp_get hx hb hts wi_X6_readSign_X6 hown hK hP (κ := 433) (by decide) cE_script rfl 3 (by decide) (hts _ (List.mem_of_getElem? (i := 2) rfl)) (fun _ h => h) rfl dX6_readSign_6 ?_
  refine sp_call (W.runV (As := [.int (σ 433 3)]) (rest := [.ref (ad (433))]) ⟨hx, hb, hml, hown, hts⟩ (c_X7_signAt_434 l D ad cy pm rj σ (σ 433 3)) (cwV 1 hts gX6_readSign_X7_signAt rfl rfl rfl (by decide +kernel) ⟨Nat.le_of_ble_eq_true rfl, Nat.le_of_ble_eq_true rfl⟩) (sp_preV hK hP (κ := 434) (by decide) cE_in rfl) rfl rfl hl.1 rfl (lv_room (Nat.le_of_ble_eq_true rfl)) dX6_readSign_9 ⟨Nat.le_of_ble_eq_true rfl, Nat.le_of_ble_eq_true rfl⟩) ?_
  refine W.eq (g2 := F0 m 12 ls [.int (f_signI σ (σ 433 3)), .ref (ad (433))]) rfl ?_
  refine lv_iload_n hx hb dX6_readSign_12 rfl (lv_at hl 1 rfl) ?_
  refine lv_icmp_eq (tgt := 20) hx hb dX6_readSign_13 (by decide) (fun c_1 => ?_) (fun c_1 => ?_)
  · skip
    refine lv_iconst (v := 0) hx hb dX6_readSign_20 (by decide) ?_
    refine sp_put hx hb hts wi_X6_readSign_X6 tyX6 tyX6_ok nmX6 hown hK hP hi hAk hS (κ := 433) (by decide) cE_script rfl 4 (by decide) (hts _ (List.mem_of_getElem? (i := 3) rfl)) (fun _ h => h) rfl (ty := tyX6 4) (by decide +kernel) (nz_of (show bz 0 = 0 by decide)) (Nat.le_of_ble_eq_true rfl) (r1 := upd (σ 433) 4 0) (cE_of cE_script (by simp [upd, (show bz 0 = 0 by decide)])) dX6_readSign_21 (fun H locs hP hS => ?_)
    have hP : va_P D vwCl (cW ad cy pm rj (sp_st σ 433 4 0)) H := hP
    refine lv_aload_n hx hb dX6_readSign_24 rfl (lv_at hl 0 rfl) ?_
    refine lv_dup hx hb dX6_readSign_25 rfl ?_
    refine sp_get hx hb hts wi_X6_readSign_X6 hown hK hP (κ := 433) (by decide) cE_script rfl 3 (by decide) (hts _ (List.mem_of_getElem? (i := 2) rfl)) (fun _ h => h) rfl dX6_readSign_26 ?_
    refine W.eq (g2 := F0 m 29 ls [.int (σ 433 3), .ref (ad (433))]) (by rw [sp_st_j _ _ _ _ _ _ (by decide)]) ?_
    refine lv_aload_n hx hb dX6_readSign_29 rfl (lv_at hl 0 rfl) ?_
    refine sp_get hx hb hts wi_X6_readSign_X6 hown hK hP (κ := 433) (by decide) cE_script rfl 4 (by decide) (hts _ (List.mem_of_getElem? (i := 3) rfl)) (fun _ h => h) rfl dX6_readSign_30 ?_
    refine W.eq (g2 := F0 m 33 ls [.int (0), .int (σ 433 3), .ref (ad (433))]) (by rw [sp_st_s, (show bz 0 = 0 by decide)]) ?_
    refine lv_if_eq (tgt := 40) hx hb dX6_readSign_33 (by decide) (fun c_2 => ?_) (fun c_2 => ?_)
    · skip
      refine lv_iconst (v := 1) hx hb dX6_readSign_40 (by decide) ?_
      refine lv_iadd hx hb dX6_readSign_41 ?_
      refine sp_put hx hb hts wi_X6_readSign_X6 tyX6 tyX6_ok nmX6 hown hK hP hi hAk hS (κ := 433) (by decide) cE_script rfl 3 (by decide) (hts _ (List.mem_of_getElem? (i := 2) rfl)) (fun _ h => h) rfl (ty := tyX6 3) (by decide +kernel) ⟨rfl, rfl⟩ (Nat.le_of_ble_eq_true rfl) (r1 := upd ((sp_st σ 433 4 0) 433) 3 ((σ 433 3) + 1)) (cE_of cE_script (by simp [upd])) dX6_readSign_42 (fun H locs hP hS => ?_)
      have hP : va_P D vwCl (cW ad cy pm rj (sp_st (sp_st σ 433 4 0) 433 3 ((σ 433 3) + 1))) H := hP
      have hE9 : cW ad cy (pm) (rj) (sp_st (sp_st σ 433 4 0) 433 3 ((σ 433 3) + 1)) = cW ad cy (pm) (rj) (f_rdSign σ x) := by exact cW_eq rfl (by simp only [f_rdSign]; simp [b2i, c_1])
      have hP : va_P D vwCl (cW ad cy (pm) (rj) (f_rdSign σ x)) H := by rw [← hE9]; exact hP
      exact W.vret hx hb hr (fun T9 hT9 _ => ⟨rfl, by rw [hT9]; exact hP, hS.F hT9⟩) hS.2.2 dX6_readSign_45
    · exact absurd (by decide) c_2
  · skip
    refine lv_iconst (v := 1) hx hb dX6_readSign_16 (by decide) ?_
    refine lv_goto (tgt := 21) hx hb dX6_readSign_17 (by decide) ?_
    refine sp_put hx hb hts wi_X6_readSign_X6 tyX6 tyX6_ok nmX6 hown hK hP hi hAk hS (κ := 433) (by decide) cE_script rfl 4 (by decide) (hts _ (List.mem_of_getElem? (i := 3) rfl)) (fun _ h => h) rfl (ty := tyX6 4) (by decide +kernel) (nz_of (show bz 1 = 1 by decide)) (Nat.le_of_ble_eq_true rfl) (r1 := upd (σ 433) 4 1) (cE_of cE_script (by simp [upd, (show bz 1 = 1 by decide)])) dX6_readSign_21 (fun H locs hP hS => ?_)
    have hP : va_P D vwCl (cW ad cy pm rj (sp_st σ 433 4 1)) H := hP
    refine lv_aload_n hx hb dX6_readSign_24 rfl (lv_at hl 0 rfl) ?_
    refine lv_dup hx hb dX6_readSign_25 rfl ?_
    refine sp_get hx hb hts wi_X6_readSign_X6 hown hK hP (κ := 433) (by decide) cE_script rfl 3 (by decide) (hts _ (List.mem_of_getElem? (i := 2) rfl)) (fun _ h => h) rfl dX6_readSign_26 ?_
    refine W.eq (g2 := F0 m 29 ls [.int (σ 433 3), .ref (ad (433))]) (by rw [sp_st_j _ _ _ _ _ _ (by decide)]) ?_
    refine lv_aload_n hx hb dX6_readSign_29 rfl (lv_at hl 0 rfl) ?_
    refine sp_get hx hb hts wi_X6_readSign_X6 hown hK hP (κ := 433) (by decide) cE_script rfl 4 (by decide) (hts _ (List.mem_of_getElem? (i := 3) rfl)) (fun _ h => h) rfl dX6_readSign_30 ?_
    refine W.eq (g2 := F0 m 33 ls [.int (1), .int (σ 433 3), .ref (ad (433))]) (by rw [sp_st_s, (show bz 1 = 1 by decide)]) ?_
    refine lv_if_eq (tgt := 40) hx hb dX6_readSign_33 (by decide) (fun c_3 => ?_) (fun c_3 => ?_)
    · exact absurd c_3 (by decide)
    · skip
      refine lv_iconst (v := 0) hx hb dX6_readSign_36 (by decide) ?_
      refine lv_goto (tgt := 41) hx hb dX6_readSign_37 (by decide) ?_
      refine lv_iadd hx hb dX6_readSign_41 ?_
      refine sp_put hx hb hts wi_X6_readSign_X6 tyX6 tyX6_ok nmX6 hown hK hP hi hAk hS (κ := 433) (by decide) cE_script rfl 3 (by decide) (hts _ (List.mem_of_getElem? (i := 2) rfl)) (fun _ h => h) rfl (ty := tyX6 3) (by decide +kernel) ⟨rfl, rfl⟩ (Nat.le_of_ble_eq_true rfl) (r1 := upd ((sp_st σ 433 4 1) 433) 3 ((σ 433 3) + 0)) (cE_of cE_script (by simp [upd])) dX6_readSign_42 (fun H locs hP hS => ?_)
      have hP : va_P D vwCl (cW ad cy pm rj (sp_st (sp_st σ 433 4 1) 433 3 ((σ 433 3) + 0))) H := hP
      have hE9 : cW ad cy (pm) (rj) (sp_st (sp_st σ 433 4 1) 433 3 ((σ 433 3) + 0)) = cW ad cy (pm) (rj) (f_rdSign σ x) := by exact cW_eq rfl (by simp only [f_rdSign]; simp [b2i, c_1])
      have hP : va_P D vwCl (cW ad cy (pm) (rj) (f_rdSign σ x)) H := by rw [← hE9]; exact hP
      exact W.vret hx hb hr (fun T9 hT9 _ => ⟨rfl, by rw [hT9]; exact hP, hS.F hT9⟩) hS.2.2 dX6_readSign_45

theorem wi_X6_readNumber_X6 : ∀ w ∈ wsX60, w ∈ wsX6_readNumber := by decide +kernel
set_option maxHeartbeats 4000000 in
set_option maxRecDepth 100000 in
theorem c_X6_readNumber (l : Launch) (D : va_G) (ad : Nat → Nat) (cy : Nat → ClassId) (pm : Nat → Nat) (rj : Option Nat) (σ : Nat → Nat → Int32) (sz : Nat) (hi : sp_inj ad 459) (z : Int32) (n0 : Nat) (hz : z = nI n0) (hn0 : n0 ≤ 3) : Met l yX6_readNumber wsX6_readNumber ({ frames := 2, cells := 0, slots := 0, locals := 42 } : Room) (sp_Pm D (tyG cy) sz [.ref (ad (433)), .int (z)] (cW ad cy pm rj σ)) (sp_Q D (some (.int (f_rdNumV σ n0))) (cW ad cy (pm) (rj) (f_rdNum σ n0)) (sp_A ad 459 sz)) 0 0 (sp_A ad 459 sz) := by
  refine Met.ofW (cc := cX6_readNumber) (maxL := 6) (ret := (some .int)) (by decide) rfl ?_
  intro p e s m args below meth c s₁ B hml hv
  obtain ⟨rfl, hsz, hP, hK⟩ := hv
  have hx := B.exec
  have hb := B.bytes
  have hr := B.returns
  have hts := atoms_spec (ws := wsX6_readNumber) B.pre
  have hown : s.vm.findClass RX6 = some m.cls := findClass_of_methodNamed B.named
  have hlocks := B.notSynchronized
  subst hsz
  have hS : va_S (sp_A ad 459 s.heap.size) s.heap s.heap [] := va_S.rf
  have hAk : ∀ k, k < 459 → (sp_A ad 459 s.heap.size) (ad k) := fun k hk => Or.inl ⟨k, hk, rfl⟩
  skip
  have hl := lv_entry ([.ref (ad (433)), .int (z)]) (n := 6) (Nat.le_of_ble_eq_true rfl)
  refine W.eq (lg_entry_eq _ ([.ref (ad (433)), .int (z)]) _) ?_
  generalize (lg_sl ([.ref (ad (433)), .int (z)]) ++ List.replicate (6 - (lg_sl ([.ref (ad (433)), .int (z)])).length) Slot.unset).toArray = ls at hl ⊢
  have hl : lv_has ls 6 [(0, .ref (ad (433))), (1, .int (z))] := hl
  refine lv_iconst (v := 0) hx hb dX6_readNumber_0 (by decide) ?_
  refine lv_istore_n (lv' := [(2, .int (0)), (0, .ref (ad (433))), (1, .int (z))]) hx hb dX6_readNumber_1 rfl hl (by decide) rfl (fun ls hl => ?_)
  refine lv_iconst (v := 0) hx hb dX6_readNumber_2 (by decide) ?_
  refine lv_istore_n (lv' := [(3, .int (0)), (2, .int (0)), (0, .ref (ad (433))), (1, .int (z))]) hx hb dX6_readNumber_3 rfl hl (by decide) rfl (fun ls hl => ?_)
  refine lv_iconst (v := 0) hx hb dX6_readNumber_4 (by decide) ?_
  refine lv_istore (lv' := [(4, .int (0)), (3, .int (0)), (2, .int (0)), (0, .ref (ad (433))), (1, .int (z))]) hx hb dX6_readNumber_5 hl (by decide) rfl (fun ls hl => ?_)
  have loop_7 : ∀ (n i : Nat) (x : Int32) (y : Int32) (a : Int32) (H : Heap) (locs : List Loc), (i ≤ n0) → (n0 - i < n) → ((x, y, a) = foldI (S_num σ) (0, 0, σ 433 3) i) → (va_P D vwCl (cW ad cy pm rj (sp_st σ 433 3 a)) H) → (va_S (sp_A ad 459 s.heap.size) s.heap H locs) → ∀ ls : Array Slot, lv_has ls 6 [(4, .int (nI i)), (3, .int (y)), (2, .int (x)), (0, .ref (ad (433))), (1, .int (z))] → W p l e (headSpec wsX6_readNumber ({ frames := 2, cells := 0, slots := 0, locals := 42 } : Room)).room s m ([.ref (ad (433)), .int (z)] : List Value).toArray below meth c H locs 0 0 (MQ below (sp_Q D (some (.int (f_rdNumV σ n0))) (cW ad cy (pm) (rj) (f_rdNum σ n0)) (sp_A ad 459 s.heap.size)) ([.ref (ad (433)), .int (z)] : List Value).toArray s 0 0 (sp_A ad 459 s.heap.size)) (F0 m 7 ls []) := by
    intro n
    induction n with
    | zero => intro i x y a H locs hle hlt hi_0 hP hS ls hl; exact absurd hlt (Nat.not_lt_zero _)
    | succ n ih =>
      intro i x y a H locs hle hlt hi_0 hP hS ls hl
      refine lv_iload hx hb dX6_readNumber_7 (lv_at hl 0 rfl) ?_
      refine lv_iload_n hx hb dX6_readNumber_9 rfl (lv_at hl 4 rfl) ?_
      refine lv_icmp_ge (tgt := 76) hx hb dX6_readNumber_10 (by decide) (fun c_1 => ?_) (fun c_1 => ?_)
      · skip
        have c_1d := Int32.not_lt.mpr c_1
        rw [hz] at c_1
        have hx_i : i = n0 := by have := (nI_leI (a := n0) (b := i) (by omega) (by omega)).mp c_1; omega
        try rw [hx_i] at hi_0
        refine lv_aload_n hx hb dX6_readNumber_76 rfl (lv_at hl 3 rfl) ?_
        refine lv_iload_n hx hb dX6_readNumber_77 rfl (lv_at hl 1 rfl) ?_
        refine lv_if_ne (tgt := 85) hx hb dX6_readNumber_78 (by decide) (fun c_2 => ?_) (fun c_2 => ?_)
        · skip
          refine lv_iconst (v := 0) hx hb dX6_readNumber_85 (by decide) ?_
          refine sp_put hx hb hts wi_X6_readNumber_X6 tyX6 tyX6_ok nmX6 hown hK hP hi hAk hS (κ := 433) (by decide) cE_script rfl 4 (by decide) (hts _ (List.mem_of_getElem? (i := 3) rfl)) (fun _ h => h) rfl (ty := tyX6 4) (by decide +kernel) (nz_of (show bz 0 = 0 by decide)) (Nat.le_of_ble_eq_true rfl) (r1 := upd ((sp_st σ 433 3 a) 433) 4 0) (cE_of cE_script (by simp [upd, (show bz 0 = 0 by decide)])) dX6_readNumber_86 (fun H locs hP hS => ?_)
          have hP : va_P D vwCl (cW ad cy pm rj (sp_st (sp_st σ 433 3 a) 433 4 0)) H := hP
          refine lv_iload_n hx hb dX6_readNumber_89 rfl (lv_at hl 2 rfl) ?_
          have hE9 : cW ad cy (pm) (rj) (sp_st (sp_st σ 433 3 a) 433 4 0) = cW ad cy (pm) (rj) (f_rdNum σ n0) := by exact cW_eq rfl (by unfold f_rdNum; rw [← hi_0]; simp [b2i, b2i, c_2])
          have hP : va_P D vwCl (cW ad cy (pm) (rj) (f_rdNum σ n0)) H := by rw [← hE9]; exact hP
          exact W.iret (v := x) hx hb hr (fun T9 hT9 _ => ⟨congrArg (fun z9 => Outcome.returned (some (Value.int z9))) (show (x : Int32) = f_rdNumV σ n0 from (by unfold f_rdNumV; rw [← hi_0])), by rw [hT9]; exact hP, hS.F hT9⟩) hS.2.2 dX6_readNumber_90
        · skip
          refine lv_iconst (v := 1) hx hb dX6_readNumber_81 (by decide) ?_
          refine lv_goto (tgt := 86) hx hb dX6_readNumber_82 (by decide) ?_
          refine sp_put hx hb hts wi_X6_readNumber_X6 tyX6 tyX6_ok nmX6 hown hK hP hi hAk hS (κ := 433) (by decide) cE_script rfl 4 (by decide) (hts _ (List.mem_of_getElem? (i := 3) rfl)) (fun _ h => h) rfl (ty := tyX6 4) (by decide +kernel) (nz_of (show bz 1 = 1 by decide)) (Nat.le_of_ble_eq_true rfl) (r1 := upd ((sp_st σ 433 3 a) 433) 4 1) (cE_of cE_script (by simp [upd, (show bz 1 = 1 by decide)])) dX6_readNumber_86 (fun H locs hP hS => ?_)
          have hP : va_P D vwCl (cW ad cy pm rj (sp_st (sp_st σ 433 3 a) 433 4 1)) H := hP
          refine lv_iload_n hx hb dX6_readNumber_89 rfl (lv_at hl 2 rfl) ?_
          have hE9 : cW ad cy (pm) (rj) (sp_st (sp_st σ 433 3 a) 433 4 1) = cW ad cy (pm) (rj) (f_rdNum σ n0) := by exact cW_eq rfl (by unfold f_rdNum; rw [← hi_0]; simp [b2i, b2i, c_2])
          have hP : va_P D vwCl (cW ad cy (pm) (rj) (f_rdNum σ n0)) H := by rw [← hE9]; exact hP
          exact W.iret (v := x) hx hb hr (fun T9 hT9 _ => ⟨congrArg (fun z9 => Outcome.returned (some (Value.int z9))) (show (x : Int32) = f_rdNumV σ n0 from (by unfold f_rdNumV; rw [← hi_0])), by rw [hT9]; exact hP, hS.F hT9⟩) hS.2.2 dX6_readNumber_90
      · skip
        have c_1d := Int32.not_le.mp c_1
        rw [hz] at c_1
        have hb_i : i < n0 := Nat.lt_of_not_le (fun z => c_1 (nI_le z (by omega)))
        refine lv_aload_n hx hb dX6_readNumber_13 rfl (lv_at hl 3 rfl) ?_
        refine sp_get hx hb hts wi_X6_readNumber_X6 hown hK hP (κ := 433) (by decide) cE_script rfl 0 (by decide) (hts _ (List.mem_of_getElem? (i := 1) rfl)) (fun _ h => h) rfl dX6_readNumber_14 ?_
        refine lv_aload_n hx hb dX6_readNumber_17 rfl (lv_at hl 3 rfl) ?_
        refine sp_get hx hb hts wi_X6_readNumber_X6 hown hK hP (κ := 433) (by decide) cE_script rfl 3 (by decide) (hts _ (List.mem_of_getElem? (i := 2) rfl)) (fun _ h => h) rfl dX6_readNumber_18 ?_
        refine W.eq (g2 := F0 m 21 ls [.int (a), .ref (ad (434))]) (by rw [sp_st_s]) ?_
        refine sp_call (W.runV (As := [.int (a)]) (rest := []) ⟨hx, hb, hml, hown, hts⟩ (c_X7_signAt_434 l D ad cy pm rj (sp_st σ 433 3 a) a) (cwV 1 hts gX6_readNumber_X7_signAt rfl rfl rfl (by decide +kernel) ⟨Nat.le_of_ble_eq_true rfl, Nat.le_of_ble_eq_true rfl⟩) (sp_preV hK hP (κ := 434) (by decide) cE_in rfl) rfl rfl hl.1 rfl (lv_room (Nat.le_of_ble_eq_true rfl)) dX6_readNumber_21 ⟨Nat.le_of_ble_eq_true rfl, Nat.le_of_ble_eq_true rfl⟩) ?_
        refine W.eq (g2 := F0 m 24 ls [.int (f_signI (sp_st σ 433 3 a) a)]) rfl ?_
        refine W.eq (g2 := F0 m 24 ls [.int (f_signI σ a)]) (by rw [f_signI_st]) ?_
        refine lv_istore (lv' := [(5, .int (f_signI σ a)), (4, .int (nI i)), (3, .int (y)), (2, .int (x)), (0, .ref (ad (433))), (1, .int (z))]) hx hb dX6_readNumber_24 hl (by decide) rfl (fun ls hl => ?_)
        refine lv_iload_n hx hb dX6_readNumber_26 rfl (lv_at hl 2 rfl) ?_
        refine lv_iload hx hb dX6_readNumber_27 (lv_at hl 1 rfl) ?_
        refine lv_icmp_ne (tgt := 70) hx hb dX6_readNumber_29 (by decide) (fun c_3 => ?_) (fun c_3 => ?_)
        · skip
          refine lv_iinc (v := nI (i + 1)) (lv' := [(4, .int (nI (i + 1))), (5, .int (f_signI σ a)), (3, .int (y)), (2, .int (x)), (0, .ref (ad (433))), (1, .int (z))]) hx hb dX6_readNumber_70 hl (k := 1) rfl (nI_1 _) (by decide) rfl (fun ls hl => ?_)
          refine lv_goto (tgt := 7) hx hb dX6_readNumber_73 (by decide) ?_
          exact ih (i + 1) x y a  _ _ (by omega) (by omega) (by rw [foldI_succ, ← hi_0]; simp [S_num, b2i, c_3]) hP hS ls (lv_sub hl [0, 2, 3, 4, 5] rfl)
        · skip
          refine lv_iload hx hb dX6_readNumber_32 (lv_at hl 0 rfl) ?_
          refine lv_bipush (v := 48) hx hb dX6_readNumber_34 (by decide) ?_
          refine lv_icmp_lt (tgt := 70) hx hb dX6_readNumber_36 (by decide) (fun c_4 => ?_) (fun c_4 => ?_)
          · skip
            have c_4d := Int32.not_le.mpr c_4
            refine lv_iinc (v := nI (i + 1)) (lv' := [(4, .int (nI (i + 1))), (5, .int (f_signI σ a)), (3, .int (y)), (2, .int (x)), (0, .ref (ad (433))), (1, .int (z))]) hx hb dX6_readNumber_70 hl (k := 1) rfl (nI_1 _) (by decide) rfl (fun ls hl => ?_)
            refine lv_goto (tgt := 7) hx hb dX6_readNumber_73 (by decide) ?_
            exact ih (i + 1) x y a  _ _ (by omega) (by omega) (by rw [foldI_succ, ← hi_0]; simp [S_num, b2i, c_3, c_4, c_4d]) hP hS ls (lv_sub hl [0, 2, 3, 4, 5] rfl)
          · skip
            have c_4d := Int32.not_lt.mp c_4
            refine lv_iload hx hb dX6_readNumber_39 (lv_at hl 0 rfl) ?_
            refine lv_bipush (v := 57) hx hb dX6_readNumber_41 (by decide) ?_
            refine lv_icmp_gt (tgt := 70) hx hb dX6_readNumber_43 (by decide) (fun c_5 => ?_) (fun c_5 => ?_)
            · skip
              have c_5d := Int32.not_le.mpr c_5
              refine lv_iinc (v := nI (i + 1)) (lv' := [(4, .int (nI (i + 1))), (5, .int (f_signI σ a)), (3, .int (y)), (2, .int (x)), (0, .ref (ad (433))), (1, .int (z))]) hx hb dX6_readNumber_70 hl (k := 1) rfl (nI_1 _) (by decide) rfl (fun ls hl => ?_)
              refine lv_goto (tgt := 7) hx hb dX6_readNumber_73 (by decide) ?_
              exact ih (i + 1) x y a  _ _ (by omega) (by omega) (by rw [foldI_succ, ← hi_0]; simp [S_num, b2i, c_3, c_4, c_4d, c_5, c_5d]) hP hS ls (lv_sub hl [0, 2, 3, 4, 5] rfl)
            · skip
              have c_5d := Int32.not_lt.mp c_5
              refine lv_bipush (v := 10) hx hb dX6_readNumber_46 (by decide) ?_
              refine lv_iload_n hx hb dX6_readNumber_48 rfl (lv_at hl 3 rfl) ?_
              refine lv_imul hx hb dX6_readNumber_49 ?_
              refine lv_iload hx hb dX6_readNumber_50 (lv_at hl 0 rfl) ?_
              refine lv_bipush (v := 48) hx hb dX6_readNumber_52 (by decide) ?_
              refine lv_isub hx hb dX6_readNumber_54 ?_
              refine lv_iadd hx hb dX6_readNumber_55 ?_
              refine lv_istore_n (lv' := [(2, .int ((10 * x) + ((f_signI σ a) - 48))), (5, .int (f_signI σ a)), (4, .int (nI i)), (3, .int (y)), (0, .ref (ad (433))), (1, .int (z))]) hx hb dX6_readNumber_56 rfl hl (by decide) rfl (fun ls hl => ?_)
              refine lv_iinc (v := y + 1) (lv' := [(3, .int (y + 1)), (2, .int ((10 * x) + ((f_signI σ a) - 48))), (5, .int (f_signI σ a)), (4, .int (nI i)), (0, .ref (ad (433))), (1, .int (z))]) hx hb dX6_readNumber_57 hl (k := 3) rfl rfl (by decide) rfl (fun ls hl => ?_)
              refine lv_aload_n hx hb dX6_readNumber_60 rfl (lv_at hl 4 rfl) ?_
              refine lv_dup hx hb dX6_readNumber_61 rfl ?_
              refine sp_get hx hb hts wi_X6_readNumber_X6 hown hK hP (κ := 433) (by decide) cE_script rfl 3 (by decide) (hts _ (List.mem_of_getElem? (i := 2) rfl)) (fun _ h => h) rfl dX6_readNumber_62 ?_
              refine W.eq (g2 := F0 m 65 ls [.int (a), .ref (ad (433))]) (by rw [sp_st_s]) ?_
              refine lv_iconst (v := 1) hx hb dX6_readNumber_65 (by decide) ?_
              refine lv_iadd hx hb dX6_readNumber_66 ?_
              refine sp_put hx hb hts wi_X6_readNumber_X6 tyX6 tyX6_ok nmX6 hown hK hP hi hAk hS (κ := 433) (by decide) cE_script rfl 3 (by decide) (hts _ (List.mem_of_getElem? (i := 2) rfl)) (fun _ h => h) rfl (ty := tyX6 3) (by decide +kernel) ⟨rfl, rfl⟩ (Nat.le_of_ble_eq_true rfl) (r1 := upd ((sp_st σ 433 3 a) 433) 3 (a + 1)) (cE_of cE_script (by simp [upd])) dX6_readNumber_67 (fun H locs hP hS => ?_)
              have hP : va_P D vwCl (cW ad cy pm rj (sp_st (sp_st σ 433 3 a) 433 3 (a + 1))) H := hP
              refine lv_iinc (v := nI (i + 1)) (lv' := [(4, .int (nI (i + 1))), (3, .int (y + 1)), (2, .int ((10 * x) + ((f_signI σ a) - 48))), (5, .int (f_signI σ a)), (0, .ref (ad (433))), (1, .int (z))]) hx hb dX6_readNumber_70 hl (k := 3) rfl (nI_1 _) (by decide) rfl (fun ls hl => ?_)
              refine lv_goto (tgt := 7) hx hb dX6_readNumber_73 (by decide) ?_
              exact ih (i + 1) ((10 * x) + ((f_signI σ a) - 48)) (y + 1) (a + 1)  _ _ (by omega) (by omega) (by rw [foldI_succ, ← hi_0]; simp [S_num, b2i, c_3, c_4, c_4d, c_5, c_5d]) ((show cW ad cy pm rj (sp_st (sp_st σ 433 3 a) 433 3 (a + 1)) = cW ad cy pm rj (sp_st σ 433 3 (a + 1)) from (by refine cW_eq rfl ?_; exact sp_st_st _ _ _ _ _)) ▸ hP) hS ls (lv_sub hl [0, 1, 2, 4, 5] rfl)
  exact loop_7 (n0 + 1) (0) (0) (0) (σ 433 3)  _ _ (by omega) (by omega) (rfl) ((show cW ad cy pm rj (σ) = cW ad cy pm rj (sp_st σ 433 3 (σ 433 3)) from (by refine cW_eq rfl ?_; exact (sp_st_self σ 433 3).symm)) ▸ hP) hS ls (lv_sub hl [0, 1, 2, 3, 4] rfl)

theorem wi_X6_readPart_X1 : ∀ w ∈ wsX10, w ∈ wsX6_readPart := by decide +kernel
theorem wi_X6_readPart_X6 : ∀ w ∈ wsX60, w ∈ wsX6_readPart := by decide +kernel
set_option maxHeartbeats 4000000 in
set_option maxRecDepth 100000 in
theorem c_X6_readPart (l : Launch) (D : va_G) (ad : Nat → Nat) (cy : Nat → ClassId) (pm : Nat → Nat) (rj : Option Nat) (σ : Nat → Nat → Int32) (sz : Nat) (hi : sp_inj ad 459) (x : Int32) (i : Nat) (hi2 : i < 20) : Met l yX6_readPart wsX6_readPart ({ frames := 3, cells := 0, slots := 0, locals := 67 } : Room) (sp_Pm D (tyG cy) sz [.ref (ad (433)), .int (x), .ref (ad (439 + i))] (cW ad cy pm rj σ)) (sp_Q D (none) (cW ad cy (pm) (rj) (f_rdPart σ x i)) (sp_A ad 459 sz)) 0 0 (sp_A ad 459 sz) := by
  refine Met.ofW (cc := cX6_readPart) (maxL := 3) (ret := none) (by decide) rfl ?_
  intro p e s m args below meth c s₁ B hml hv
  obtain ⟨rfl, hsz, hP, hK⟩ := hv
  have hx := B.exec
  have hb := B.bytes
  have hr := B.returns
  have hts := atoms_spec (ws := wsX6_readPart) B.pre
  have hown : s.vm.findClass RX6 = some m.cls := findClass_of_methodNamed B.named
  have hlocks := B.notSynchronized
  subst hsz
  have hS : va_S (sp_A ad 459 s.heap.size) s.heap s.heap [] := va_S.rf
  have hAk : ∀ k, k < 459 → (sp_A ad 459 s.heap.size) (ad k) := fun k hk => Or.inl ⟨k, hk, rfl⟩
  skip
  have hl := lv_entry ([.ref (ad (433)), .int (x), .ref (ad (439 + i))]) (n := 3) (Nat.le_of_ble_eq_true rfl)
  refine W.eq (lg_entry_eq _ ([.ref (ad (433)), .int (x), .ref (ad (439 + i))]) _) ?_
  generalize (lg_sl ([.ref (ad (433)), .int (x), .ref (ad (439 + i))]) ++ List.replicate (3 - (lg_sl ([.ref (ad (433)), .int (x), .ref (ad (439 + i))])).length) Slot.unset).toArray = ls at hl ⊢
  have hl : lv_has ls 3 [(0, .ref (ad (433))), (1, .int (x)), (2, .ref (ad (439 + i)))] := hl
  refine lv_iload_n hx hb dX6_readPart_0 rfl (lv_at hl 1 rfl) ?_
  by_cases c_1 : x = 99
  · refine lv_tableIn (off := 123) (tgt := 124) hx hb dX6_readPart_1 (by rw [c_1]; decide) (by rw [c_1]; decide) (by rw [c_1]; decide) (by decide) ?_
    refine lv_aload_n hx hb dX6_readPart_124 rfl (lv_at hl 2 rfl) ?_
    refine lv_aload_n hx hb dX6_readPart_125 rfl (lv_at hl 0 rfl) ?_
    refine lv_iconst (v := 3) hx hb dX6_readPart_126 (by decide) ?_
    refine sp_callm (va_runV (As := [.int (3)]) (rest := [.ref (ad (439 + i))]) ⟨hx, hb, hml, hown, hts⟩ (c_X6_readNumber l D ad cy pm rj σ _ hi 3 3 (rfl) (by decide)) (cwV 1 hts gX6_readPart_X6_readNumber rfl rfl rfl (by decide +kernel) ⟨Nat.le_of_ble_eq_true rfl, Nat.le_of_ble_eq_true rfl⟩) (sp_preVm hK hP (κ := 433) (by decide) cE_script rfl) rfl rfl hl.1 rfl (lv_room (Nat.le_of_ble_eq_true rfl)) dX6_readPart_127 ⟨Nat.le_of_ble_eq_true rfl, Nat.le_of_ble_eq_true rfl⟩) hS (fun q h1 h2 => sp_Alt h1 h2) (sp_Ale hS.1) (fun H locs hP hle hfr hS => ?_)
    refine W.eq (g2 := F0 m 130 ls [.int (f_rdNumV σ 3), .ref (ad (439 + i))]) rfl ?_
    refine sp_put hx hb hts wi_X6_readPart_X1 tyX1 tyX1_ok nmX1 hown hK hP hi hAk hS (κ := 439 + i) (by omega) (cE_cmd (by omega)) rfl 4 (by decide) (hts _ (List.mem_of_getElem? (i := 4) rfl)) (fun _ h => h) rfl (ty := tyX1 4) (by decide +kernel) ⟨rfl, rfl⟩ (Nat.le_of_ble_eq_true rfl) (r1 := upd ((f_rdNum σ 3) (439 + i)) 4 (f_rdNumV σ 3)) (cE_of (cE_cmd (by omega)) (by simp [upd])) dX6_readPart_130 (fun H locs hP hS => ?_)
    have hP : va_P D vwCl (cW ad cy pm rj (sp_st (f_rdNum σ 3) (439 + i) 4 (f_rdNumV σ 3))) H := hP
    refine lv_goto (tgt := 199) hx hb dX6_readPart_133 (by decide) ?_
    have hE9 : cW ad cy (pm) (rj) (sp_st (f_rdNum σ 3) (439 + i) 4 (f_rdNumV σ 3)) = cW ad cy (pm) (rj) (f_rdPart σ x i) := by exact cW_eq rfl (by simp only [f_rdPart]; simp [b2i, c_1])
    have hP : va_P D vwCl (cW ad cy (pm) (rj) (f_rdPart σ x i)) H := by rw [← hE9]; exact hP
    exact W.vret hx hb hr (fun T9 hT9 _ => ⟨rfl, by rw [hT9]; exact hP, hS.F hT9⟩) hS.2.2 dX6_readPart_199
  · skip
    by_cases c_2 : x = 100
    · refine lv_tableIn (off := 181) (tgt := 182) hx hb dX6_readPart_1 (by rw [c_2]; decide) (by rw [c_2]; decide) (by rw [c_2]; decide) (by decide) ?_
      refine lv_aload_n hx hb dX6_readPart_182 rfl (lv_at hl 2 rfl) ?_
      refine lv_aload_n hx hb dX6_readPart_183 rfl (lv_at hl 0 rfl) ?_
      refine lv_iconst (v := 1) hx hb dX6_readPart_184 (by decide) ?_
      refine sp_callm (va_runV (As := [.int (1)]) (rest := [.ref (ad (439 + i))]) ⟨hx, hb, hml, hown, hts⟩ (c_X6_readNumber l D ad cy pm rj σ _ hi 1 1 (rfl) (by decide)) (cwV 1 hts gX6_readPart_X6_readNumber rfl rfl rfl (by decide +kernel) ⟨Nat.le_of_ble_eq_true rfl, Nat.le_of_ble_eq_true rfl⟩) (sp_preVm hK hP (κ := 433) (by decide) cE_script rfl) rfl rfl hl.1 rfl (lv_room (Nat.le_of_ble_eq_true rfl)) dX6_readPart_185 ⟨Nat.le_of_ble_eq_true rfl, Nat.le_of_ble_eq_true rfl⟩) hS (fun q h1 h2 => sp_Alt h1 h2) (sp_Ale hS.1) (fun H locs hP hle hfr hS => ?_)
      refine W.eq (g2 := F0 m 188 ls [.int (f_rdNumV σ 1), .ref (ad (439 + i))]) rfl ?_
      refine sp_put hx hb hts wi_X6_readPart_X1 tyX1 tyX1_ok nmX1 hown hK hP hi hAk hS (κ := 439 + i) (by omega) (cE_cmd (by omega)) rfl 6 (by decide) (hts _ (List.mem_of_getElem? (i := 8) rfl)) (fun _ h => h) rfl (ty := tyX1 6) (by decide +kernel) ⟨rfl, rfl⟩ (Nat.le_of_ble_eq_true rfl) (r1 := upd ((f_rdNum σ 1) (439 + i)) 6 (f_rdNumV σ 1)) (cE_of (cE_cmd (by omega)) (by simp [upd])) dX6_readPart_188 (fun H locs hP hS => ?_)
      have hP : va_P D vwCl (cW ad cy pm rj (sp_st (f_rdNum σ 1) (439 + i) 6 (f_rdNumV σ 1))) H := hP
      refine lv_goto (tgt := 199) hx hb dX6_readPart_191 (by decide) ?_
      have hE9 : cW ad cy (pm) (rj) (sp_st (f_rdNum σ 1) (439 + i) 6 (f_rdNumV σ 1)) = cW ad cy (pm) (rj) (f_rdPart σ x i) := by exact cW_eq rfl (by simp only [f_rdPart]; simp [b2i, c_2])
      have hP : va_P D vwCl (cW ad cy (pm) (rj) (f_rdPart σ x i)) H := by rw [← hE9]; exact hP
      exact W.vret hx hb hr (fun T9 hT9 _ => ⟨rfl, by rw [hT9]; exact hP, hS.F hT9⟩) hS.2.2 dX6_readPart_199
    · skip
      by_cases c_3 : x = 101
      · refine lv_tableIn (off := 193) (tgt := 194) hx hb dX6_readPart_1 (by rw [c_3]; decide) (by rw [c_3]; decide) (by rw [c_3]; decide) (by decide) ?_
        refine lv_aload_n hx hb dX6_readPart_194 rfl (lv_at hl 0 rfl) ?_
        refine lv_iload_n hx hb dX6_readPart_195 rfl (lv_at hl 1 rfl) ?_
        refine sp_callm (va_runV (As := [.int (x)]) (rest := []) ⟨hx, hb, hml, hown, hts⟩ (c_X6_readSign l D ad cy pm rj σ _ hi x) (cwV 1 hts gX6_readPart_X6_readSign rfl rfl rfl (by decide +kernel) ⟨Nat.le_of_ble_eq_true rfl, Nat.le_of_ble_eq_true rfl⟩) (sp_preVm hK hP (κ := 433) (by decide) cE_script rfl) rfl rfl hl.1 rfl (lv_room (Nat.le_of_ble_eq_true rfl)) dX6_readPart_196 ⟨Nat.le_of_ble_eq_true rfl, Nat.le_of_ble_eq_true rfl⟩) hS (fun q h1 h2 => sp_Alt h1 h2) (sp_Ale hS.1) (fun H locs hP hle hfr hS => ?_)
        refine W.eq (g2 := F0 m 199 ls []) rfl ?_
        have hE9 : cW ad cy (pm) (rj) (f_rdSign σ x) = cW ad cy (pm) (rj) (f_rdPart σ x i) := by exact cW_eq rfl (by simp only [f_rdPart]; simp [b2i, c_3])
        have hP : va_P D vwCl (cW ad cy (pm) (rj) (f_rdPart σ x i)) H := by rw [← hE9]; exact hP
        exact W.vret hx hb hr (fun T9 hT9 _ => ⟨rfl, by rw [hT9]; exact hP, hS.F hT9⟩) hS.2.2 dX6_readPart_199
      · skip
        by_cases c_4 : x = 102
        · refine lv_tableIn (off := 135) (tgt := 136) hx hb dX6_readPart_1 (by rw [c_4]; decide) (by rw [c_4]; decide) (by rw [c_4]; decide) (by decide) ?_
          refine lv_aload_n hx hb dX6_readPart_136 rfl (lv_at hl 2 rfl) ?_
          refine lv_aload_n hx hb dX6_readPart_137 rfl (lv_at hl 0 rfl) ?_
          refine sp_get hx hb hts wi_X6_readPart_X6 hown hK hP (κ := 433) (by decide) cE_script rfl 0 (by decide) (hts _ (List.mem_of_getElem? (i := 5) rfl)) (fun _ h => h) rfl dX6_readPart_138 ?_
          refine lv_aload_n hx hb dX6_readPart_141 rfl (lv_at hl 0 rfl) ?_
          refine sp_get hx hb hts wi_X6_readPart_X6 hown hK hP (κ := 433) (by decide) cE_script rfl 3 (by decide) (hts _ (List.mem_of_getElem? (i := 6) rfl)) (fun _ h => h) rfl dX6_readPart_142 ?_
          refine sp_call (W.runV (As := [.int (σ 433 3)]) (rest := [.ref (ad (439 + i))]) ⟨hx, hb, hml, hown, hts⟩ (c_X7_signAt_434 l D ad cy pm rj σ (σ 433 3)) (cwV 1 hts gX6_readPart_X7_signAt rfl rfl rfl (by decide +kernel) ⟨Nat.le_of_ble_eq_true rfl, Nat.le_of_ble_eq_true rfl⟩) (sp_preV hK hP (κ := 434) (by decide) cE_in rfl) rfl rfl hl.1 rfl (lv_room (Nat.le_of_ble_eq_true rfl)) dX6_readPart_145 ⟨Nat.le_of_ble_eq_true rfl, Nat.le_of_ble_eq_true rfl⟩) ?_
          refine W.eq (g2 := F0 m 148 ls [.int (f_signI σ (σ 433 3)), .ref (ad (439 + i))]) rfl ?_
          refine lv_bipush (v := 76) hx hb dX6_readPart_148 (by decide) ?_
          refine lv_icmp_ne (tgt := 157) hx hb dX6_readPart_150 (by decide) (fun c_5 => ?_) (fun c_5 => ?_)
          · skip
            refine lv_iconst (v := 0) hx hb dX6_readPart_157 (by decide) ?_
            refine sp_put hx hb hts wi_X6_readPart_X1 tyX1 tyX1_ok nmX1 hown hK hP hi hAk hS (κ := 439 + i) (by omega) (cE_cmd (by omega)) rfl 5 (by decide) (hts _ (List.mem_of_getElem? (i := 7) rfl)) (fun _ h => h) rfl (ty := tyX1 5) (by decide +kernel) (nz_of (show bz 0 = 0 by decide)) (Nat.le_of_ble_eq_true rfl) (r1 := upd (σ (439 + i)) 5 0) (cE_of (cE_cmd (by omega)) (by simp [upd, (show bz 0 = 0 by decide)])) dX6_readPart_158 (fun H locs hP hS => ?_)
            have hP : va_P D vwCl (cW ad cy pm rj (sp_st σ (439 + i) 5 0)) H := hP
            refine lv_aload_n hx hb dX6_readPart_161 rfl (lv_at hl 0 rfl) ?_
            refine lv_aload_n hx hb dX6_readPart_162 rfl (lv_at hl 2 rfl) ?_
            refine sp_get hx hb hts wi_X6_readPart_X1 hown hK hP (κ := 439 + i) (by omega) (cE_cmd (by omega)) rfl 5 (by decide) (hts _ (List.mem_of_getElem? (i := 7) rfl)) (fun _ h => h) rfl dX6_readPart_163 ?_
            refine W.eq (g2 := F0 m 166 ls [.int (0), .ref (ad (433))]) (by rw [sp_st_s, (show bz 0 = 0 by decide)]) ?_
            refine lv_if_eq (tgt := 174) hx hb dX6_readPart_166 (by decide) (fun c_6 => ?_) (fun c_6 => ?_)
            · skip
              refine lv_bipush (v := 82) hx hb dX6_readPart_174 (by decide) ?_
              refine sp_callm (va_runV (As := [.int (82)]) (rest := []) ⟨hx, hb, hml, hown, hts⟩ (c_X6_readSign l D ad cy pm rj (sp_st σ (439 + i) 5 0) _ hi 82) (cwV 1 hts gX6_readPart_X6_readSign rfl rfl rfl (by decide +kernel) ⟨Nat.le_of_ble_eq_true rfl, Nat.le_of_ble_eq_true rfl⟩) (sp_preVm hK hP (κ := 433) (by decide) cE_script rfl) rfl rfl hl.1 rfl (lv_room (Nat.le_of_ble_eq_true rfl)) dX6_readPart_176 ⟨Nat.le_of_ble_eq_true rfl, Nat.le_of_ble_eq_true rfl⟩) hS (fun q h1 h2 => sp_Alt h1 h2) (sp_Ale hS.1) (fun H locs hP hle hfr hS => ?_)
              refine W.eq (g2 := F0 m 179 ls []) rfl ?_
              refine lv_goto (tgt := 199) hx hb dX6_readPart_179 (by decide) ?_
              have hE9 : cW ad cy (pm) (rj) (f_rdSign (sp_st σ (439 + i) 5 0) 82) = cW ad cy (pm) (rj) (f_rdPart σ x i) := by exact cW_eq rfl (by simp only [f_rdPart]; simp [b2i, c_4, c_5])
              have hP : va_P D vwCl (cW ad cy (pm) (rj) (f_rdPart σ x i)) H := by rw [← hE9]; exact hP
              exact W.vret hx hb hr (fun T9 hT9 _ => ⟨rfl, by rw [hT9]; exact hP, hS.F hT9⟩) hS.2.2 dX6_readPart_199
            · exact absurd (by decide) c_6
          · skip
            refine lv_iconst (v := 1) hx hb dX6_readPart_153 (by decide) ?_
            refine lv_goto (tgt := 158) hx hb dX6_readPart_154 (by decide) ?_
            refine sp_put hx hb hts wi_X6_readPart_X1 tyX1 tyX1_ok nmX1 hown hK hP hi hAk hS (κ := 439 + i) (by omega) (cE_cmd (by omega)) rfl 5 (by decide) (hts _ (List.mem_of_getElem? (i := 7) rfl)) (fun _ h => h) rfl (ty := tyX1 5) (by decide +kernel) (nz_of (show bz 1 = 1 by decide)) (Nat.le_of_ble_eq_true rfl) (r1 := upd (σ (439 + i)) 5 1) (cE_of (cE_cmd (by omega)) (by simp [upd, (show bz 1 = 1 by decide)])) dX6_readPart_158 (fun H locs hP hS => ?_)
            have hP : va_P D vwCl (cW ad cy pm rj (sp_st σ (439 + i) 5 1)) H := hP
            refine lv_aload_n hx hb dX6_readPart_161 rfl (lv_at hl 0 rfl) ?_
            refine lv_aload_n hx hb dX6_readPart_162 rfl (lv_at hl 2 rfl) ?_
            refine sp_get hx hb hts wi_X6_readPart_X1 hown hK hP (κ := 439 + i) (by omega) (cE_cmd (by omega)) rfl 5 (by decide) (hts _ (List.mem_of_getElem? (i := 7) rfl)) (fun _ h => h) rfl dX6_readPart_163 ?_
            refine W.eq (g2 := F0 m 166 ls [.int (1), .ref (ad (433))]) (by rw [sp_st_s, (show bz 1 = 1 by decide)]) ?_
            refine lv_if_eq (tgt := 174) hx hb dX6_readPart_166 (by decide) (fun c_7 => ?_) (fun c_7 => ?_)
            · exact absurd c_7 (by decide)
            · skip
              refine lv_bipush (v := 76) hx hb dX6_readPart_169 (by decide) ?_
              refine lv_goto (tgt := 176) hx hb dX6_readPart_171 (by decide) ?_
              refine sp_callm (va_runV (As := [.int (76)]) (rest := []) ⟨hx, hb, hml, hown, hts⟩ (c_X6_readSign l D ad cy pm rj (sp_st σ (439 + i) 5 1) _ hi 76) (cwV 1 hts gX6_readPart_X6_readSign rfl rfl rfl (by decide +kernel) ⟨Nat.le_of_ble_eq_true rfl, Nat.le_of_ble_eq_true rfl⟩) (sp_preVm hK hP (κ := 433) (by decide) cE_script rfl) rfl rfl hl.1 rfl (lv_room (Nat.le_of_ble_eq_true rfl)) dX6_readPart_176 ⟨Nat.le_of_ble_eq_true rfl, Nat.le_of_ble_eq_true rfl⟩) hS (fun q h1 h2 => sp_Alt h1 h2) (sp_Ale hS.1) (fun H locs hP hle hfr hS => ?_)
              refine W.eq (g2 := F0 m 179 ls []) rfl ?_
              refine lv_goto (tgt := 199) hx hb dX6_readPart_179 (by decide) ?_
              have hE9 : cW ad cy (pm) (rj) (f_rdSign (sp_st σ (439 + i) 5 1) 76) = cW ad cy (pm) (rj) (f_rdPart σ x i) := by exact cW_eq rfl (by simp only [f_rdPart]; simp [b2i, c_4, c_5])
              have hP : va_P D vwCl (cW ad cy (pm) (rj) (f_rdPart σ x i)) H := by rw [← hE9]; exact hP
              exact W.vret hx hb hr (fun T9 hT9 _ => ⟨rfl, by rw [hT9]; exact hP, hS.F hT9⟩) hS.2.2 dX6_readPart_199
        · skip
          by_cases c_8 : x = 103
          · refine lv_tableIn (off := 193) (tgt := 194) hx hb dX6_readPart_1 (by rw [c_8]; decide) (by rw [c_8]; decide) (by rw [c_8]; decide) (by decide) ?_
            refine lv_aload_n hx hb dX6_readPart_194 rfl (lv_at hl 0 rfl) ?_
            refine lv_iload_n hx hb dX6_readPart_195 rfl (lv_at hl 1 rfl) ?_
            refine sp_callm (va_runV (As := [.int (x)]) (rest := []) ⟨hx, hb, hml, hown, hts⟩ (c_X6_readSign l D ad cy pm rj σ _ hi x) (cwV 1 hts gX6_readPart_X6_readSign rfl rfl rfl (by decide +kernel) ⟨Nat.le_of_ble_eq_true rfl, Nat.le_of_ble_eq_true rfl⟩) (sp_preVm hK hP (κ := 433) (by decide) cE_script rfl) rfl rfl hl.1 rfl (lv_room (Nat.le_of_ble_eq_true rfl)) dX6_readPart_196 ⟨Nat.le_of_ble_eq_true rfl, Nat.le_of_ble_eq_true rfl⟩) hS (fun q h1 h2 => sp_Alt h1 h2) (sp_Ale hS.1) (fun H locs hP hle hfr hS => ?_)
            refine W.eq (g2 := F0 m 199 ls []) rfl ?_
            have hE9 : cW ad cy (pm) (rj) (f_rdSign σ x) = cW ad cy (pm) (rj) (f_rdPart σ x i) := by exact cW_eq rfl (by simp only [f_rdPart]; simp [b2i, c_8])
            have hP : va_P D vwCl (cW ad cy (pm) (rj) (f_rdPart σ x i)) H := by rw [← hE9]; exact hP
            exact W.vret hx hb hr (fun T9 hT9 _ => ⟨rfl, by rw [hT9]; exact hP, hS.F hT9⟩) hS.2.2 dX6_readPart_199
          · skip
            by_cases c_9 : x = 104
            · refine lv_tableIn (off := 193) (tgt := 194) hx hb dX6_readPart_1 (by rw [c_9]; decide) (by rw [c_9]; decide) (by rw [c_9]; decide) (by decide) ?_
              refine lv_aload_n hx hb dX6_readPart_194 rfl (lv_at hl 0 rfl) ?_
              refine lv_iload_n hx hb dX6_readPart_195 rfl (lv_at hl 1 rfl) ?_
              refine sp_callm (va_runV (As := [.int (x)]) (rest := []) ⟨hx, hb, hml, hown, hts⟩ (c_X6_readSign l D ad cy pm rj σ _ hi x) (cwV 1 hts gX6_readPart_X6_readSign rfl rfl rfl (by decide +kernel) ⟨Nat.le_of_ble_eq_true rfl, Nat.le_of_ble_eq_true rfl⟩) (sp_preVm hK hP (κ := 433) (by decide) cE_script rfl) rfl rfl hl.1 rfl (lv_room (Nat.le_of_ble_eq_true rfl)) dX6_readPart_196 ⟨Nat.le_of_ble_eq_true rfl, Nat.le_of_ble_eq_true rfl⟩) hS (fun q h1 h2 => sp_Alt h1 h2) (sp_Ale hS.1) (fun H locs hP hle hfr hS => ?_)
              refine W.eq (g2 := F0 m 199 ls []) rfl ?_
              have hE9 : cW ad cy (pm) (rj) (f_rdSign σ x) = cW ad cy (pm) (rj) (f_rdPart σ x i) := by exact cW_eq rfl (by simp only [f_rdPart]; simp [b2i, c_9])
              have hP : va_P D vwCl (cW ad cy (pm) (rj) (f_rdPart σ x i)) H := by rw [← hE9]; exact hP
              exact W.vret hx hb hr (fun T9 hT9 _ => ⟨rfl, by rw [hT9]; exact hP, hS.F hT9⟩) hS.2.2 dX6_readPart_199
            · skip
              by_cases c_10 : x = 105
              · refine lv_tableIn (off := 87) (tgt := 88) hx hb dX6_readPart_1 (by rw [c_10]; decide) (by rw [c_10]; decide) (by rw [c_10]; decide) (by decide) ?_
                refine lv_aload_n hx hb dX6_readPart_88 rfl (lv_at hl 2 rfl) ?_
                refine lv_aload_n hx hb dX6_readPart_89 rfl (lv_at hl 0 rfl) ?_
                refine lv_iconst (v := 3) hx hb dX6_readPart_90 (by decide) ?_
                refine sp_callm (va_runV (As := [.int (3)]) (rest := [.ref (ad (439 + i))]) ⟨hx, hb, hml, hown, hts⟩ (c_X6_readNumber l D ad cy pm rj σ _ hi 3 3 (rfl) (by decide)) (cwV 1 hts gX6_readPart_X6_readNumber rfl rfl rfl (by decide +kernel) ⟨Nat.le_of_ble_eq_true rfl, Nat.le_of_ble_eq_true rfl⟩) (sp_preVm hK hP (κ := 433) (by decide) cE_script rfl) rfl rfl hl.1 rfl (lv_room (Nat.le_of_ble_eq_true rfl)) dX6_readPart_91 ⟨Nat.le_of_ble_eq_true rfl, Nat.le_of_ble_eq_true rfl⟩) hS (fun q h1 h2 => sp_Alt h1 h2) (sp_Ale hS.1) (fun H locs hP hle hfr hS => ?_)
                refine W.eq (g2 := F0 m 94 ls [.int (f_rdNumV σ 3), .ref (ad (439 + i))]) rfl ?_
                refine sp_put hx hb hts wi_X6_readPart_X1 tyX1 tyX1_ok nmX1 hown hK hP hi hAk hS (κ := 439 + i) (by omega) (cE_cmd (by omega)) rfl 1 (by decide) (hts _ (List.mem_of_getElem? (i := 1) rfl)) (fun _ h => h) rfl (ty := tyX1 1) (by decide +kernel) ⟨rfl, rfl⟩ (Nat.le_of_ble_eq_true rfl) (r1 := upd ((f_rdNum σ 3) (439 + i)) 1 (f_rdNumV σ 3)) (cE_of (cE_cmd (by omega)) (by simp [upd])) dX6_readPart_94 (fun H locs hP hS => ?_)
                have hP : va_P D vwCl (cW ad cy pm rj (sp_st (f_rdNum σ 3) (439 + i) 1 (f_rdNumV σ 3))) H := hP
                refine lv_goto (tgt := 199) hx hb dX6_readPart_97 (by decide) ?_
                have hE9 : cW ad cy (pm) (rj) (sp_st (f_rdNum σ 3) (439 + i) 1 (f_rdNumV σ 3)) = cW ad cy (pm) (rj) (f_rdPart σ x i) := by exact cW_eq rfl (by simp only [f_rdPart]; simp [b2i, c_10])
                have hP : va_P D vwCl (cW ad cy (pm) (rj) (f_rdPart σ x i)) H := by rw [← hE9]; exact hP
                exact W.vret hx hb hr (fun T9 hT9 _ => ⟨rfl, by rw [hT9]; exact hP, hS.F hT9⟩) hS.2.2 dX6_readPart_199
              · skip
                by_cases c_11 : x = 106
                · refine lv_tableIn (off := 193) (tgt := 194) hx hb dX6_readPart_1 (by rw [c_11]; decide) (by rw [c_11]; decide) (by rw [c_11]; decide) (by decide) ?_
                  refine lv_aload_n hx hb dX6_readPart_194 rfl (lv_at hl 0 rfl) ?_
                  refine lv_iload_n hx hb dX6_readPart_195 rfl (lv_at hl 1 rfl) ?_
                  refine sp_callm (va_runV (As := [.int (x)]) (rest := []) ⟨hx, hb, hml, hown, hts⟩ (c_X6_readSign l D ad cy pm rj σ _ hi x) (cwV 1 hts gX6_readPart_X6_readSign rfl rfl rfl (by decide +kernel) ⟨Nat.le_of_ble_eq_true rfl, Nat.le_of_ble_eq_true rfl⟩) (sp_preVm hK hP (κ := 433) (by decide) cE_script rfl) rfl rfl hl.1 rfl (lv_room (Nat.le_of_ble_eq_true rfl)) dX6_readPart_196 ⟨Nat.le_of_ble_eq_true rfl, Nat.le_of_ble_eq_true rfl⟩) hS (fun q h1 h2 => sp_Alt h1 h2) (sp_Ale hS.1) (fun H locs hP hle hfr hS => ?_)
                  refine W.eq (g2 := F0 m 199 ls []) rfl ?_
                  have hE9 : cW ad cy (pm) (rj) (f_rdSign σ x) = cW ad cy (pm) (rj) (f_rdPart σ x i) := by exact cW_eq rfl (by simp only [f_rdPart]; simp [b2i, c_11])
                  have hP : va_P D vwCl (cW ad cy (pm) (rj) (f_rdPart σ x i)) H := by rw [← hE9]; exact hP
                  exact W.vret hx hb hr (fun T9 hT9 _ => ⟨rfl, by rw [hT9]; exact hP, hS.F hT9⟩) hS.2.2 dX6_readPart_199
                · skip
                  by_cases c_12 : x = 107
                  · refine lv_tableIn (off := 193) (tgt := 194) hx hb dX6_readPart_1 (by rw [c_12]; decide) (by rw [c_12]; decide) (by rw [c_12]; decide) (by decide) ?_
                    refine lv_aload_n hx hb dX6_readPart_194 rfl (lv_at hl 0 rfl) ?_
                    refine lv_iload_n hx hb dX6_readPart_195 rfl (lv_at hl 1 rfl) ?_
                    refine sp_callm (va_runV (As := [.int (x)]) (rest := []) ⟨hx, hb, hml, hown, hts⟩ (c_X6_readSign l D ad cy pm rj σ _ hi x) (cwV 1 hts gX6_readPart_X6_readSign rfl rfl rfl (by decide +kernel) ⟨Nat.le_of_ble_eq_true rfl, Nat.le_of_ble_eq_true rfl⟩) (sp_preVm hK hP (κ := 433) (by decide) cE_script rfl) rfl rfl hl.1 rfl (lv_room (Nat.le_of_ble_eq_true rfl)) dX6_readPart_196 ⟨Nat.le_of_ble_eq_true rfl, Nat.le_of_ble_eq_true rfl⟩) hS (fun q h1 h2 => sp_Alt h1 h2) (sp_Ale hS.1) (fun H locs hP hle hfr hS => ?_)
                    refine W.eq (g2 := F0 m 199 ls []) rfl ?_
                    have hE9 : cW ad cy (pm) (rj) (f_rdSign σ x) = cW ad cy (pm) (rj) (f_rdPart σ x i) := by exact cW_eq rfl (by simp only [f_rdPart]; simp [b2i, c_12])
                    have hP : va_P D vwCl (cW ad cy (pm) (rj) (f_rdPart σ x i)) H := by rw [← hE9]; exact hP
                    exact W.vret hx hb hr (fun T9 hT9 _ => ⟨rfl, by rw [hT9]; exact hP, hS.F hT9⟩) hS.2.2 dX6_readPart_199
                  · skip
                    by_cases c_13 : x = 108
                    · refine lv_tableIn (off := 193) (tgt := 194) hx hb dX6_readPart_1 (by rw [c_13]; decide) (by rw [c_13]; decide) (by rw [c_13]; decide) (by decide) ?_
                      refine lv_aload_n hx hb dX6_readPart_194 rfl (lv_at hl 0 rfl) ?_
                      refine lv_iload_n hx hb dX6_readPart_195 rfl (lv_at hl 1 rfl) ?_
                      refine sp_callm (va_runV (As := [.int (x)]) (rest := []) ⟨hx, hb, hml, hown, hts⟩ (c_X6_readSign l D ad cy pm rj σ _ hi x) (cwV 1 hts gX6_readPart_X6_readSign rfl rfl rfl (by decide +kernel) ⟨Nat.le_of_ble_eq_true rfl, Nat.le_of_ble_eq_true rfl⟩) (sp_preVm hK hP (κ := 433) (by decide) cE_script rfl) rfl rfl hl.1 rfl (lv_room (Nat.le_of_ble_eq_true rfl)) dX6_readPart_196 ⟨Nat.le_of_ble_eq_true rfl, Nat.le_of_ble_eq_true rfl⟩) hS (fun q h1 h2 => sp_Alt h1 h2) (sp_Ale hS.1) (fun H locs hP hle hfr hS => ?_)
                      refine W.eq (g2 := F0 m 199 ls []) rfl ?_
                      have hE9 : cW ad cy (pm) (rj) (f_rdSign σ x) = cW ad cy (pm) (rj) (f_rdPart σ x i) := by exact cW_eq rfl (by simp only [f_rdPart]; simp [b2i, c_13])
                      have hP : va_P D vwCl (cW ad cy (pm) (rj) (f_rdPart σ x i)) H := by rw [← hE9]; exact hP
                      exact W.vret hx hb hr (fun T9 hT9 _ => ⟨rfl, by rw [hT9]; exact hP, hS.F hT9⟩) hS.2.2 dX6_readPart_199
                    · skip
                      by_cases c_14 : x = 109
                      · refine lv_tableIn (off := 193) (tgt := 194) hx hb dX6_readPart_1 (by rw [c_14]; decide) (by rw [c_14]; decide) (by rw [c_14]; decide) (by decide) ?_
                        refine lv_aload_n hx hb dX6_readPart_194 rfl (lv_at hl 0 rfl) ?_
                        refine lv_iload_n hx hb dX6_readPart_195 rfl (lv_at hl 1 rfl) ?_
                        refine sp_callm (va_runV (As := [.int (x)]) (rest := []) ⟨hx, hb, hml, hown, hts⟩ (c_X6_readSign l D ad cy pm rj σ _ hi x) (cwV 1 hts gX6_readPart_X6_readSign rfl rfl rfl (by decide +kernel) ⟨Nat.le_of_ble_eq_true rfl, Nat.le_of_ble_eq_true rfl⟩) (sp_preVm hK hP (κ := 433) (by decide) cE_script rfl) rfl rfl hl.1 rfl (lv_room (Nat.le_of_ble_eq_true rfl)) dX6_readPart_196 ⟨Nat.le_of_ble_eq_true rfl, Nat.le_of_ble_eq_true rfl⟩) hS (fun q h1 h2 => sp_Alt h1 h2) (sp_Ale hS.1) (fun H locs hP hle hfr hS => ?_)
                        refine W.eq (g2 := F0 m 199 ls []) rfl ?_
                        have hE9 : cW ad cy (pm) (rj) (f_rdSign σ x) = cW ad cy (pm) (rj) (f_rdPart σ x i) := by exact cW_eq rfl (by simp only [f_rdPart]; simp [b2i, c_14])
                        have hP : va_P D vwCl (cW ad cy (pm) (rj) (f_rdPart σ x i)) H := by rw [← hE9]; exact hP
                        exact W.vret hx hb hr (fun T9 hT9 _ => ⟨rfl, by rw [hT9]; exact hP, hS.F hT9⟩) hS.2.2 dX6_readPart_199
                      · skip
                        by_cases c_15 : x = 110
                        · refine lv_tableIn (off := 193) (tgt := 194) hx hb dX6_readPart_1 (by rw [c_15]; decide) (by rw [c_15]; decide) (by rw [c_15]; decide) (by decide) ?_
                          refine lv_aload_n hx hb dX6_readPart_194 rfl (lv_at hl 0 rfl) ?_
                          refine lv_iload_n hx hb dX6_readPart_195 rfl (lv_at hl 1 rfl) ?_
                          refine sp_callm (va_runV (As := [.int (x)]) (rest := []) ⟨hx, hb, hml, hown, hts⟩ (c_X6_readSign l D ad cy pm rj σ _ hi x) (cwV 1 hts gX6_readPart_X6_readSign rfl rfl rfl (by decide +kernel) ⟨Nat.le_of_ble_eq_true rfl, Nat.le_of_ble_eq_true rfl⟩) (sp_preVm hK hP (κ := 433) (by decide) cE_script rfl) rfl rfl hl.1 rfl (lv_room (Nat.le_of_ble_eq_true rfl)) dX6_readPart_196 ⟨Nat.le_of_ble_eq_true rfl, Nat.le_of_ble_eq_true rfl⟩) hS (fun q h1 h2 => sp_Alt h1 h2) (sp_Ale hS.1) (fun H locs hP hle hfr hS => ?_)
                          refine W.eq (g2 := F0 m 199 ls []) rfl ?_
                          have hE9 : cW ad cy (pm) (rj) (f_rdSign σ x) = cW ad cy (pm) (rj) (f_rdPart σ x i) := by exact cW_eq rfl (by simp only [f_rdPart]; simp [b2i, c_15])
                          have hP : va_P D vwCl (cW ad cy (pm) (rj) (f_rdPart σ x i)) H := by rw [← hE9]; exact hP
                          exact W.vret hx hb hr (fun T9 hT9 _ => ⟨rfl, by rw [hT9]; exact hP, hS.F hT9⟩) hS.2.2 dX6_readPart_199
                        · skip
                          by_cases c_16 : x = 111
                          · refine lv_tableIn (off := 193) (tgt := 194) hx hb dX6_readPart_1 (by rw [c_16]; decide) (by rw [c_16]; decide) (by rw [c_16]; decide) (by decide) ?_
                            refine lv_aload_n hx hb dX6_readPart_194 rfl (lv_at hl 0 rfl) ?_
                            refine lv_iload_n hx hb dX6_readPart_195 rfl (lv_at hl 1 rfl) ?_
                            refine sp_callm (va_runV (As := [.int (x)]) (rest := []) ⟨hx, hb, hml, hown, hts⟩ (c_X6_readSign l D ad cy pm rj σ _ hi x) (cwV 1 hts gX6_readPart_X6_readSign rfl rfl rfl (by decide +kernel) ⟨Nat.le_of_ble_eq_true rfl, Nat.le_of_ble_eq_true rfl⟩) (sp_preVm hK hP (κ := 433) (by decide) cE_script rfl) rfl rfl hl.1 rfl (lv_room (Nat.le_of_ble_eq_true rfl)) dX6_readPart_196 ⟨Nat.le_of_ble_eq_true rfl, Nat.le_of_ble_eq_true rfl⟩) hS (fun q h1 h2 => sp_Alt h1 h2) (sp_Ale hS.1) (fun H locs hP hle hfr hS => ?_)
                            refine W.eq (g2 := F0 m 199 ls []) rfl ?_
                            have hE9 : cW ad cy (pm) (rj) (f_rdSign σ x) = cW ad cy (pm) (rj) (f_rdPart σ x i) := by exact cW_eq rfl (by simp only [f_rdPart]; simp [b2i, c_16])
                            have hP : va_P D vwCl (cW ad cy (pm) (rj) (f_rdPart σ x i)) H := by rw [← hE9]; exact hP
                            exact W.vret hx hb hr (fun T9 hT9 _ => ⟨rfl, by rw [hT9]; exact hP, hS.F hT9⟩) hS.2.2 dX6_readPart_199
                          · skip
                            by_cases c_17 : x = 112
                            · refine lv_tableIn (off := 193) (tgt := 194) hx hb dX6_readPart_1 (by rw [c_17]; decide) (by rw [c_17]; decide) (by rw [c_17]; decide) (by decide) ?_
                              refine lv_aload_n hx hb dX6_readPart_194 rfl (lv_at hl 0 rfl) ?_
                              refine lv_iload_n hx hb dX6_readPart_195 rfl (lv_at hl 1 rfl) ?_
                              refine sp_callm (va_runV (As := [.int (x)]) (rest := []) ⟨hx, hb, hml, hown, hts⟩ (c_X6_readSign l D ad cy pm rj σ _ hi x) (cwV 1 hts gX6_readPart_X6_readSign rfl rfl rfl (by decide +kernel) ⟨Nat.le_of_ble_eq_true rfl, Nat.le_of_ble_eq_true rfl⟩) (sp_preVm hK hP (κ := 433) (by decide) cE_script rfl) rfl rfl hl.1 rfl (lv_room (Nat.le_of_ble_eq_true rfl)) dX6_readPart_196 ⟨Nat.le_of_ble_eq_true rfl, Nat.le_of_ble_eq_true rfl⟩) hS (fun q h1 h2 => sp_Alt h1 h2) (sp_Ale hS.1) (fun H locs hP hle hfr hS => ?_)
                              refine W.eq (g2 := F0 m 199 ls []) rfl ?_
                              have hE9 : cW ad cy (pm) (rj) (f_rdSign σ x) = cW ad cy (pm) (rj) (f_rdPart σ x i) := by exact cW_eq rfl (by simp only [f_rdPart]; simp [b2i, c_17])
                              have hP : va_P D vwCl (cW ad cy (pm) (rj) (f_rdPart σ x i)) H := by rw [← hE9]; exact hP
                              exact W.vret hx hb hr (fun T9 hT9 _ => ⟨rfl, by rw [hT9]; exact hP, hS.F hT9⟩) hS.2.2 dX6_readPart_199
                            · skip
                              by_cases c_18 : x = 113
                              · refine lv_tableIn (off := 193) (tgt := 194) hx hb dX6_readPart_1 (by rw [c_18]; decide) (by rw [c_18]; decide) (by rw [c_18]; decide) (by decide) ?_
                                refine lv_aload_n hx hb dX6_readPart_194 rfl (lv_at hl 0 rfl) ?_
                                refine lv_iload_n hx hb dX6_readPart_195 rfl (lv_at hl 1 rfl) ?_
                                refine sp_callm (va_runV (As := [.int (x)]) (rest := []) ⟨hx, hb, hml, hown, hts⟩ (c_X6_readSign l D ad cy pm rj σ _ hi x) (cwV 1 hts gX6_readPart_X6_readSign rfl rfl rfl (by decide +kernel) ⟨Nat.le_of_ble_eq_true rfl, Nat.le_of_ble_eq_true rfl⟩) (sp_preVm hK hP (κ := 433) (by decide) cE_script rfl) rfl rfl hl.1 rfl (lv_room (Nat.le_of_ble_eq_true rfl)) dX6_readPart_196 ⟨Nat.le_of_ble_eq_true rfl, Nat.le_of_ble_eq_true rfl⟩) hS (fun q h1 h2 => sp_Alt h1 h2) (sp_Ale hS.1) (fun H locs hP hle hfr hS => ?_)
                                refine W.eq (g2 := F0 m 199 ls []) rfl ?_
                                have hE9 : cW ad cy (pm) (rj) (f_rdSign σ x) = cW ad cy (pm) (rj) (f_rdPart σ x i) := by exact cW_eq rfl (by simp only [f_rdPart]; simp [b2i, c_18])
                                have hP : va_P D vwCl (cW ad cy (pm) (rj) (f_rdPart σ x i)) H := by rw [← hE9]; exact hP
                                exact W.vret hx hb hr (fun T9 hT9 _ => ⟨rfl, by rw [hT9]; exact hP, hS.F hT9⟩) hS.2.2 dX6_readPart_199
                              · skip
                                by_cases c_19 : x = 114
                                · refine lv_tableIn (off := 111) (tgt := 112) hx hb dX6_readPart_1 (by rw [c_19]; decide) (by rw [c_19]; decide) (by rw [c_19]; decide) (by decide) ?_
                                  refine lv_aload_n hx hb dX6_readPart_112 rfl (lv_at hl 2 rfl) ?_
                                  refine lv_aload_n hx hb dX6_readPart_113 rfl (lv_at hl 0 rfl) ?_
                                  refine lv_iconst (v := 3) hx hb dX6_readPart_114 (by decide) ?_
                                  refine sp_callm (va_runV (As := [.int (3)]) (rest := [.ref (ad (439 + i))]) ⟨hx, hb, hml, hown, hts⟩ (c_X6_readNumber l D ad cy pm rj σ _ hi 3 3 (rfl) (by decide)) (cwV 1 hts gX6_readPart_X6_readNumber rfl rfl rfl (by decide +kernel) ⟨Nat.le_of_ble_eq_true rfl, Nat.le_of_ble_eq_true rfl⟩) (sp_preVm hK hP (κ := 433) (by decide) cE_script rfl) rfl rfl hl.1 rfl (lv_room (Nat.le_of_ble_eq_true rfl)) dX6_readPart_115 ⟨Nat.le_of_ble_eq_true rfl, Nat.le_of_ble_eq_true rfl⟩) hS (fun q h1 h2 => sp_Alt h1 h2) (sp_Ale hS.1) (fun H locs hP hle hfr hS => ?_)
                                  refine W.eq (g2 := F0 m 118 ls [.int (f_rdNumV σ 3), .ref (ad (439 + i))]) rfl ?_
                                  refine sp_put hx hb hts wi_X6_readPart_X1 tyX1 tyX1_ok nmX1 hown hK hP hi hAk hS (κ := 439 + i) (by omega) (cE_cmd (by omega)) rfl 3 (by decide) (hts _ (List.mem_of_getElem? (i := 3) rfl)) (fun _ h => h) rfl (ty := tyX1 3) (by decide +kernel) ⟨rfl, rfl⟩ (Nat.le_of_ble_eq_true rfl) (r1 := upd ((f_rdNum σ 3) (439 + i)) 3 (f_rdNumV σ 3)) (cE_of (cE_cmd (by omega)) (by simp [upd])) dX6_readPart_118 (fun H locs hP hS => ?_)
                                  have hP : va_P D vwCl (cW ad cy pm rj (sp_st (f_rdNum σ 3) (439 + i) 3 (f_rdNumV σ 3))) H := hP
                                  refine lv_goto (tgt := 199) hx hb dX6_readPart_121 (by decide) ?_
                                  have hE9 : cW ad cy (pm) (rj) (sp_st (f_rdNum σ 3) (439 + i) 3 (f_rdNumV σ 3)) = cW ad cy (pm) (rj) (f_rdPart σ x i) := by exact cW_eq rfl (by simp only [f_rdPart]; simp [b2i, c_19])
                                  have hP : va_P D vwCl (cW ad cy (pm) (rj) (f_rdPart σ x i)) H := by rw [← hE9]; exact hP
                                  exact W.vret hx hb hr (fun T9 hT9 _ => ⟨rfl, by rw [hT9]; exact hP, hS.F hT9⟩) hS.2.2 dX6_readPart_199
                                · skip
                                  by_cases c_20 : x = 115
                                  · refine lv_tableIn (off := 193) (tgt := 194) hx hb dX6_readPart_1 (by rw [c_20]; decide) (by rw [c_20]; decide) (by rw [c_20]; decide) (by decide) ?_
                                    refine lv_aload_n hx hb dX6_readPart_194 rfl (lv_at hl 0 rfl) ?_
                                    refine lv_iload_n hx hb dX6_readPart_195 rfl (lv_at hl 1 rfl) ?_
                                    refine sp_callm (va_runV (As := [.int (x)]) (rest := []) ⟨hx, hb, hml, hown, hts⟩ (c_X6_readSign l D ad cy pm rj σ _ hi x) (cwV 1 hts gX6_readPart_X6_readSign rfl rfl rfl (by decide +kernel) ⟨Nat.le_of_ble_eq_true rfl, Nat.le_of_ble_eq_true rfl⟩) (sp_preVm hK hP (κ := 433) (by decide) cE_script rfl) rfl rfl hl.1 rfl (lv_room (Nat.le_of_ble_eq_true rfl)) dX6_readPart_196 ⟨Nat.le_of_ble_eq_true rfl, Nat.le_of_ble_eq_true rfl⟩) hS (fun q h1 h2 => sp_Alt h1 h2) (sp_Ale hS.1) (fun H locs hP hle hfr hS => ?_)
                                    refine W.eq (g2 := F0 m 199 ls []) rfl ?_
                                    have hE9 : cW ad cy (pm) (rj) (f_rdSign σ x) = cW ad cy (pm) (rj) (f_rdPart σ x i) := by exact cW_eq rfl (by simp only [f_rdPart]; simp [b2i, c_20])
                                    have hP : va_P D vwCl (cW ad cy (pm) (rj) (f_rdPart σ x i)) H := by rw [← hE9]; exact hP
                                    exact W.vret hx hb hr (fun T9 hT9 _ => ⟨rfl, by rw [hT9]; exact hP, hS.F hT9⟩) hS.2.2 dX6_readPart_199
                                  · skip
                                    by_cases c_21 : x = 116
                                    · refine lv_tableIn (off := 99) (tgt := 100) hx hb dX6_readPart_1 (by rw [c_21]; decide) (by rw [c_21]; decide) (by rw [c_21]; decide) (by decide) ?_
                                      refine lv_aload_n hx hb dX6_readPart_100 rfl (lv_at hl 2 rfl) ?_
                                      refine lv_aload_n hx hb dX6_readPart_101 rfl (lv_at hl 0 rfl) ?_
                                      refine lv_iconst (v := 3) hx hb dX6_readPart_102 (by decide) ?_
                                      refine sp_callm (va_runV (As := [.int (3)]) (rest := [.ref (ad (439 + i))]) ⟨hx, hb, hml, hown, hts⟩ (c_X6_readNumber l D ad cy pm rj σ _ hi 3 3 (rfl) (by decide)) (cwV 1 hts gX6_readPart_X6_readNumber rfl rfl rfl (by decide +kernel) ⟨Nat.le_of_ble_eq_true rfl, Nat.le_of_ble_eq_true rfl⟩) (sp_preVm hK hP (κ := 433) (by decide) cE_script rfl) rfl rfl hl.1 rfl (lv_room (Nat.le_of_ble_eq_true rfl)) dX6_readPart_103 ⟨Nat.le_of_ble_eq_true rfl, Nat.le_of_ble_eq_true rfl⟩) hS (fun q h1 h2 => sp_Alt h1 h2) (sp_Ale hS.1) (fun H locs hP hle hfr hS => ?_)
                                      refine W.eq (g2 := F0 m 106 ls [.int (f_rdNumV σ 3), .ref (ad (439 + i))]) rfl ?_
                                      refine sp_put hx hb hts wi_X6_readPart_X1 tyX1 tyX1_ok nmX1 hown hK hP hi hAk hS (κ := 439 + i) (by omega) (cE_cmd (by omega)) rfl 2 (by decide) (hts _ (List.mem_of_getElem? (i := 2) rfl)) (fun _ h => h) rfl (ty := tyX1 2) (by decide +kernel) ⟨rfl, rfl⟩ (Nat.le_of_ble_eq_true rfl) (r1 := upd ((f_rdNum σ 3) (439 + i)) 2 (f_rdNumV σ 3)) (cE_of (cE_cmd (by omega)) (by simp [upd])) dX6_readPart_106 (fun H locs hP hS => ?_)
                                      have hP : va_P D vwCl (cW ad cy pm rj (sp_st (f_rdNum σ 3) (439 + i) 2 (f_rdNumV σ 3))) H := hP
                                      refine lv_goto (tgt := 199) hx hb dX6_readPart_109 (by decide) ?_
                                      have hE9 : cW ad cy (pm) (rj) (sp_st (f_rdNum σ 3) (439 + i) 2 (f_rdNumV σ 3)) = cW ad cy (pm) (rj) (f_rdPart σ x i) := by exact cW_eq rfl (by simp only [f_rdPart]; simp [b2i, c_21])
                                      have hP : va_P D vwCl (cW ad cy (pm) (rj) (f_rdPart σ x i)) H := by rw [← hE9]; exact hP
                                      exact W.vret hx hb hr (fun T9 hT9 _ => ⟨rfl, by rw [hT9]; exact hP, hS.F hT9⟩) hS.2.2 dX6_readPart_199
                                    · skip
                                      have c_1T := lv_neT (a := 99) c_1 rfl
                                      have c_2T := lv_neT (a := 100) c_2 rfl
                                      have c_3T := lv_neT (a := 101) c_3 rfl
                                      have c_4T := lv_neT (a := 102) c_4 rfl
                                      have c_8T := lv_neT (a := 103) c_8 rfl
                                      have c_9T := lv_neT (a := 104) c_9 rfl
                                      have c_10T := lv_neT (a := 105) c_10 rfl
                                      have c_11T := lv_neT (a := 106) c_11 rfl
                                      have c_12T := lv_neT (a := 107) c_12 rfl
                                      have c_13T := lv_neT (a := 108) c_13 rfl
                                      have c_14T := lv_neT (a := 109) c_14 rfl
                                      have c_15T := lv_neT (a := 110) c_15 rfl
                                      have c_16T := lv_neT (a := 111) c_16 rfl
                                      have c_17T := lv_neT (a := 112) c_17 rfl
                                      have c_18T := lv_neT (a := 113) c_18 rfl
                                      have c_19T := lv_neT (a := 114) c_19 rfl
                                      have c_20T := lv_neT (a := 115) c_20 rfl
                                      have c_21T := lv_neT (a := 116) c_21 rfl
                                      refine lv_tableOut (tgt := 194) hx hb dX6_readPart_1 (by omega) (by decide) ?_
                                      refine lv_aload_n hx hb dX6_readPart_194 rfl (lv_at hl 0 rfl) ?_
                                      refine lv_iload_n hx hb dX6_readPart_195 rfl (lv_at hl 1 rfl) ?_
                                      refine sp_callm (va_runV (As := [.int (x)]) (rest := []) ⟨hx, hb, hml, hown, hts⟩ (c_X6_readSign l D ad cy pm rj σ _ hi x) (cwV 1 hts gX6_readPart_X6_readSign rfl rfl rfl (by decide +kernel) ⟨Nat.le_of_ble_eq_true rfl, Nat.le_of_ble_eq_true rfl⟩) (sp_preVm hK hP (κ := 433) (by decide) cE_script rfl) rfl rfl hl.1 rfl (lv_room (Nat.le_of_ble_eq_true rfl)) dX6_readPart_196 ⟨Nat.le_of_ble_eq_true rfl, Nat.le_of_ble_eq_true rfl⟩) hS (fun q h1 h2 => sp_Alt h1 h2) (sp_Ale hS.1) (fun H locs hP hle hfr hS => ?_)
                                      refine W.eq (g2 := F0 m 199 ls []) rfl ?_
                                      have hE9 : cW ad cy (pm) (rj) (f_rdSign σ x) = cW ad cy (pm) (rj) (f_rdPart σ x i) := by exact cW_eq rfl (by simp only [f_rdPart]; simp [b2i, c_1, c_2, c_3, c_4, c_8, c_9, c_10, c_11, c_12, c_13, c_14, c_15, c_16, c_17, c_18, c_19, c_20, c_21])
                                      have hP : va_P D vwCl (cW ad cy (pm) (rj) (f_rdPart σ x i)) H := by rw [← hE9]; exact hP
                                      exact W.vret hx hb hr (fun T9 hT9 _ => ⟨rfl, by rw [hT9]; exact hP, hS.F hT9⟩) hS.2.2 dX6_readPart_199

set_option maxHeartbeats 4000000 in
set_option maxRecDepth 100000 in
theorem c_X6_partsBehind (l : Launch) (D : va_G) (ad : Nat → Nat) (cy : Nat → ClassId) (pm : Nat → Nat) (rj : Option Nat) (σ : Nat → Nat → Int32) (xq : Nat → Nat) (x : Int32) : Met l yX6_partsBehind wsX6_partsBehind ({ frames := 0, cells := 0, slots := 0, locals := 0 } : Room) (sp_Px xq ad 459 D (tyG cy) [.int (x)] (cW ad cy pm rj σ)) (sp_S (some (.ref (xq (f_parts x))))) 0 0 (fun _ => False) := by
  refine Met.ofW (cc := cX6_partsBehind) (maxL := 1) (ret := (some (.object "java/lang/String"))) (by decide) rfl ?_
  intro p e s m args below meth c s₁ B hml hv
  obtain ⟨rfl, hP, hK, hE⟩ := hv
  have hx := B.exec
  have hb := B.bytes
  have hr := B.returns
  have hts := atoms_spec (ws := wsX6_partsBehind) B.pre
  have hown : s.vm.findClass RX6 = some m.cls := findClass_of_methodNamed B.named
  have hlocks := B.notSynchronized
  have hS : va_S (sp_A ad 459 s.heap.size) s.heap s.heap [] := va_S.rf
  have hl := lv_entry ([.int (x)]) (n := 1) (Nat.le_of_ble_eq_true rfl)
  refine W.eq (lg_entry_eq _ ([.int (x)]) _) ?_
  generalize (lg_sl ([.int (x)]) ++ List.replicate (1 - (lg_sl ([.int (x)])).length) Slot.unset).toArray = ls at hl ⊢
  have hl : lv_has ls 1 [(0, .int (x))] := hl
  refine lv_iload_n hx hb dX6_partsBehind_0 rfl (lv_at hl 0 rfl) ?_
  by_cases c_1 : x = 67
  · refine lv_tableIn (off := 112) (tgt := 113) hx hb dX6_partsBehind_1 (by rw [c_1]; decide) (by rw [c_1]; decide) (by rw [c_1]; decide) (by decide) ?_
    refine va_ldcS hx hb hown (hE.str 3 rfl) dX6_partsBehind_113 ?_
    exact W.aret (v := .ref (xq 3)) (rt := (.object "java/lang/String")) hx hb hr (Or.inl ⟨_, rfl⟩) (Or.inr ⟨_, rfl⟩) (fun T9 hT9 _ => ⟨by rw [show f_parts x = 3 from (by first | rfl | (simp [f_parts, b2i, c_1]; done))], hT9⟩) (fun _ h => by cases h) dX6_partsBehind_115
  · skip
    by_cases c_2 : x = 68
    · refine lv_tableIn (off := 112) (tgt := 113) hx hb dX6_partsBehind_1 (by rw [c_2]; decide) (by rw [c_2]; decide) (by rw [c_2]; decide) (by decide) ?_
      refine va_ldcS hx hb hown (hE.str 3 rfl) dX6_partsBehind_113 ?_
      exact W.aret (v := .ref (xq 3)) (rt := (.object "java/lang/String")) hx hb hr (Or.inl ⟨_, rfl⟩) (Or.inr ⟨_, rfl⟩) (fun T9 hT9 _ => ⟨by rw [show f_parts x = 3 from (by first | rfl | (simp [f_parts, b2i, c_2]; done))], hT9⟩) (fun _ h => by cases h) dX6_partsBehind_115
    · skip
      by_cases c_3 : x = 69
      · refine lv_tableIn (off := 115) (tgt := 116) hx hb dX6_partsBehind_1 (by rw [c_3]; decide) (by rw [c_3]; decide) (by rw [c_3]; decide) (by decide) ?_
        refine va_ldcS hx hb hown (hE.str 4 rfl) dX6_partsBehind_116 ?_
        exact W.aret (v := .ref (xq 4)) (rt := (.object "java/lang/String")) hx hb hr (Or.inl ⟨_, rfl⟩) (Or.inr ⟨_, rfl⟩) (fun T9 hT9 _ => ⟨by rw [show f_parts x = 4 from (by first | rfl | (simp [f_parts, b2i, c_3]; done))], hT9⟩) (fun _ h => by cases h) dX6_partsBehind_118
      · skip
        by_cases c_4 : x = 70
        · refine lv_tableIn (off := 112) (tgt := 113) hx hb dX6_partsBehind_1 (by rw [c_4]; decide) (by rw [c_4]; decide) (by rw [c_4]; decide) (by decide) ?_
          refine va_ldcS hx hb hown (hE.str 3 rfl) dX6_partsBehind_113 ?_
          exact W.aret (v := .ref (xq 3)) (rt := (.object "java/lang/String")) hx hb hr (Or.inl ⟨_, rfl⟩) (Or.inr ⟨_, rfl⟩) (fun T9 hT9 _ => ⟨by rw [show f_parts x = 3 from (by first | rfl | (simp [f_parts, b2i, c_4]; done))], hT9⟩) (fun _ h => by cases h) dX6_partsBehind_115
        · skip
          by_cases c_5 : x = 71
          · refine lv_tableIn (off := 115) (tgt := 116) hx hb dX6_partsBehind_1 (by rw [c_5]; decide) (by rw [c_5]; decide) (by rw [c_5]; decide) (by decide) ?_
            refine va_ldcS hx hb hown (hE.str 4 rfl) dX6_partsBehind_116 ?_
            exact W.aret (v := .ref (xq 4)) (rt := (.object "java/lang/String")) hx hb hr (Or.inl ⟨_, rfl⟩) (Or.inr ⟨_, rfl⟩) (fun T9 hT9 _ => ⟨by rw [show f_parts x = 4 from (by first | rfl | (simp [f_parts, b2i, c_5]; done))], hT9⟩) (fun _ h => by cases h) dX6_partsBehind_118
          · skip
            by_cases c_6 : x = 72
            · refine lv_tableIn (off := 109) (tgt := 110) hx hb dX6_partsBehind_1 (by rw [c_6]; decide) (by rw [c_6]; decide) (by rw [c_6]; decide) (by decide) ?_
              refine va_ldcS hx hb hown (hE.str 2 rfl) dX6_partsBehind_110 ?_
              exact W.aret (v := .ref (xq 2)) (rt := (.object "java/lang/String")) hx hb hr (Or.inl ⟨_, rfl⟩) (Or.inr ⟨_, rfl⟩) (fun T9 hT9 _ => ⟨by rw [show f_parts x = 2 from (by first | rfl | (simp [f_parts, b2i, c_6]; done))], hT9⟩) (fun _ h => by cases h) dX6_partsBehind_112
            · skip
              by_cases c_7 : x = 73
              · refine lv_tableIn (off := 115) (tgt := 116) hx hb dX6_partsBehind_1 (by rw [c_7]; decide) (by rw [c_7]; decide) (by rw [c_7]; decide) (by decide) ?_
                refine va_ldcS hx hb hown (hE.str 4 rfl) dX6_partsBehind_116 ?_
                exact W.aret (v := .ref (xq 4)) (rt := (.object "java/lang/String")) hx hb hr (Or.inl ⟨_, rfl⟩) (Or.inr ⟨_, rfl⟩) (fun T9 hT9 _ => ⟨by rw [show f_parts x = 4 from (by first | rfl | (simp [f_parts, b2i, c_7]; done))], hT9⟩) (fun _ h => by cases h) dX6_partsBehind_118
              · skip
                by_cases c_8 : x = 74
                · refine lv_tableIn (off := 115) (tgt := 116) hx hb dX6_partsBehind_1 (by rw [c_8]; decide) (by rw [c_8]; decide) (by rw [c_8]; decide) (by decide) ?_
                  refine va_ldcS hx hb hown (hE.str 4 rfl) dX6_partsBehind_116 ?_
                  exact W.aret (v := .ref (xq 4)) (rt := (.object "java/lang/String")) hx hb hr (Or.inl ⟨_, rfl⟩) (Or.inr ⟨_, rfl⟩) (fun T9 hT9 _ => ⟨by rw [show f_parts x = 4 from (by first | rfl | (simp [f_parts, b2i, c_8]; done))], hT9⟩) (fun _ h => by cases h) dX6_partsBehind_118
                · skip
                  by_cases c_9 : x = 75
                  · refine lv_tableIn (off := 115) (tgt := 116) hx hb dX6_partsBehind_1 (by rw [c_9]; decide) (by rw [c_9]; decide) (by rw [c_9]; decide) (by decide) ?_
                    refine va_ldcS hx hb hown (hE.str 4 rfl) dX6_partsBehind_116 ?_
                    exact W.aret (v := .ref (xq 4)) (rt := (.object "java/lang/String")) hx hb hr (Or.inl ⟨_, rfl⟩) (Or.inr ⟨_, rfl⟩) (fun T9 hT9 _ => ⟨by rw [show f_parts x = 4 from (by first | rfl | (simp [f_parts, b2i, c_9]; done))], hT9⟩) (fun _ h => by cases h) dX6_partsBehind_118
                  · skip
                    by_cases c_10 : x = 76
                    · refine lv_tableIn (off := 115) (tgt := 116) hx hb dX6_partsBehind_1 (by rw [c_10]; decide) (by rw [c_10]; decide) (by rw [c_10]; decide) (by decide) ?_
                      refine va_ldcS hx hb hown (hE.str 4 rfl) dX6_partsBehind_116 ?_
                      exact W.aret (v := .ref (xq 4)) (rt := (.object "java/lang/String")) hx hb hr (Or.inl ⟨_, rfl⟩) (Or.inr ⟨_, rfl⟩) (fun T9 hT9 _ => ⟨by rw [show f_parts x = 4 from (by first | rfl | (simp [f_parts, b2i, c_10]; done))], hT9⟩) (fun _ h => by cases h) dX6_partsBehind_118
                    · skip
                      by_cases c_11 : x = 77
                      · refine lv_tableIn (off := 115) (tgt := 116) hx hb dX6_partsBehind_1 (by rw [c_11]; decide) (by rw [c_11]; decide) (by rw [c_11]; decide) (by decide) ?_
                        refine va_ldcS hx hb hown (hE.str 4 rfl) dX6_partsBehind_116 ?_
                        exact W.aret (v := .ref (xq 4)) (rt := (.object "java/lang/String")) hx hb hr (Or.inl ⟨_, rfl⟩) (Or.inr ⟨_, rfl⟩) (fun T9 hT9 _ => ⟨by rw [show f_parts x = 4 from (by first | rfl | (simp [f_parts, b2i, c_11]; done))], hT9⟩) (fun _ h => by cases h) dX6_partsBehind_118
                      · skip
                        by_cases c_12 : x = 78
                        · refine lv_tableIn (off := 115) (tgt := 116) hx hb dX6_partsBehind_1 (by rw [c_12]; decide) (by rw [c_12]; decide) (by rw [c_12]; decide) (by decide) ?_
                          refine va_ldcS hx hb hown (hE.str 4 rfl) dX6_partsBehind_116 ?_
                          exact W.aret (v := .ref (xq 4)) (rt := (.object "java/lang/String")) hx hb hr (Or.inl ⟨_, rfl⟩) (Or.inr ⟨_, rfl⟩) (fun T9 hT9 _ => ⟨by rw [show f_parts x = 4 from (by first | rfl | (simp [f_parts, b2i, c_12]; done))], hT9⟩) (fun _ h => by cases h) dX6_partsBehind_118
                        · skip
                          by_cases c_13 : x = 79
                          · refine lv_tableIn (off := 115) (tgt := 116) hx hb dX6_partsBehind_1 (by rw [c_13]; decide) (by rw [c_13]; decide) (by rw [c_13]; decide) (by decide) ?_
                            refine va_ldcS hx hb hown (hE.str 4 rfl) dX6_partsBehind_116 ?_
                            exact W.aret (v := .ref (xq 4)) (rt := (.object "java/lang/String")) hx hb hr (Or.inl ⟨_, rfl⟩) (Or.inr ⟨_, rfl⟩) (fun T9 hT9 _ => ⟨by rw [show f_parts x = 4 from (by first | rfl | (simp [f_parts, b2i, c_13]; done))], hT9⟩) (fun _ h => by cases h) dX6_partsBehind_118
                          · skip
                            by_cases c_14 : x = 80
                            · refine lv_tableIn (off := 106) (tgt := 107) hx hb dX6_partsBehind_1 (by rw [c_14]; decide) (by rw [c_14]; decide) (by rw [c_14]; decide) (by decide) ?_
                              refine va_ldcS hx hb hown (hE.str 1 rfl) dX6_partsBehind_107 ?_
                              exact W.aret (v := .ref (xq 1)) (rt := (.object "java/lang/String")) hx hb hr (Or.inl ⟨_, rfl⟩) (Or.inr ⟨_, rfl⟩) (fun T9 hT9 _ => ⟨by rw [show f_parts x = 1 from (by first | rfl | (simp [f_parts, b2i, c_14]; done))], hT9⟩) (fun _ h => by cases h) dX6_partsBehind_109
                            · skip
                              by_cases c_15 : x = 81
                              · refine lv_tableIn (off := 115) (tgt := 116) hx hb dX6_partsBehind_1 (by rw [c_15]; decide) (by rw [c_15]; decide) (by rw [c_15]; decide) (by decide) ?_
                                refine va_ldcS hx hb hown (hE.str 4 rfl) dX6_partsBehind_116 ?_
                                exact W.aret (v := .ref (xq 4)) (rt := (.object "java/lang/String")) hx hb hr (Or.inl ⟨_, rfl⟩) (Or.inr ⟨_, rfl⟩) (fun T9 hT9 _ => ⟨by rw [show f_parts x = 4 from (by first | rfl | (simp [f_parts, b2i, c_15]; done))], hT9⟩) (fun _ h => by cases h) dX6_partsBehind_118
                              · skip
                                by_cases c_16 : x = 82
                                · refine lv_tableIn (off := 115) (tgt := 116) hx hb dX6_partsBehind_1 (by rw [c_16]; decide) (by rw [c_16]; decide) (by rw [c_16]; decide) (by decide) ?_
                                  refine va_ldcS hx hb hown (hE.str 4 rfl) dX6_partsBehind_116 ?_
                                  exact W.aret (v := .ref (xq 4)) (rt := (.object "java/lang/String")) hx hb hr (Or.inl ⟨_, rfl⟩) (Or.inr ⟨_, rfl⟩) (fun T9 hT9 _ => ⟨by rw [show f_parts x = 4 from (by first | rfl | (simp [f_parts, b2i, c_16]; done))], hT9⟩) (fun _ h => by cases h) dX6_partsBehind_118
                                · skip
                                  by_cases c_17 : x = 83
                                  · refine lv_tableIn (off := 115) (tgt := 116) hx hb dX6_partsBehind_1 (by rw [c_17]; decide) (by rw [c_17]; decide) (by rw [c_17]; decide) (by decide) ?_
                                    refine va_ldcS hx hb hown (hE.str 4 rfl) dX6_partsBehind_116 ?_
                                    exact W.aret (v := .ref (xq 4)) (rt := (.object "java/lang/String")) hx hb hr (Or.inl ⟨_, rfl⟩) (Or.inr ⟨_, rfl⟩) (fun T9 hT9 _ => ⟨by rw [show f_parts x = 4 from (by first | rfl | (simp [f_parts, b2i, c_17]; done))], hT9⟩) (fun _ h => by cases h) dX6_partsBehind_118
                                  · skip
                                    by_cases c_18 : x = 84
                                    · refine lv_tableIn (off := 103) (tgt := 104) hx hb dX6_partsBehind_1 (by rw [c_18]; decide) (by rw [c_18]; decide) (by rw [c_18]; decide) (by decide) ?_
                                      refine va_ldcS hx hb hown (hE.str 0 rfl) dX6_partsBehind_104 ?_
                                      exact W.aret (v := .ref (xq 0)) (rt := (.object "java/lang/String")) hx hb hr (Or.inl ⟨_, rfl⟩) (Or.inr ⟨_, rfl⟩) (fun T9 hT9 _ => ⟨by rw [show f_parts x = 0 from (by first | rfl | (simp [f_parts, b2i, c_18]; done))], hT9⟩) (fun _ h => by cases h) dX6_partsBehind_106
                                    · skip
                                      by_cases c_19 : x = 85
                                      · refine lv_tableIn (off := 115) (tgt := 116) hx hb dX6_partsBehind_1 (by rw [c_19]; decide) (by rw [c_19]; decide) (by rw [c_19]; decide) (by decide) ?_
                                        refine va_ldcS hx hb hown (hE.str 4 rfl) dX6_partsBehind_116 ?_
                                        exact W.aret (v := .ref (xq 4)) (rt := (.object "java/lang/String")) hx hb hr (Or.inl ⟨_, rfl⟩) (Or.inr ⟨_, rfl⟩) (fun T9 hT9 _ => ⟨by rw [show f_parts x = 4 from (by first | rfl | (simp [f_parts, b2i, c_19]; done))], hT9⟩) (fun _ h => by cases h) dX6_partsBehind_118
                                      · skip
                                        by_cases c_20 : x = 86
                                        · refine lv_tableIn (off := 115) (tgt := 116) hx hb dX6_partsBehind_1 (by rw [c_20]; decide) (by rw [c_20]; decide) (by rw [c_20]; decide) (by decide) ?_
                                          refine va_ldcS hx hb hown (hE.str 4 rfl) dX6_partsBehind_116 ?_
                                          exact W.aret (v := .ref (xq 4)) (rt := (.object "java/lang/String")) hx hb hr (Or.inl ⟨_, rfl⟩) (Or.inr ⟨_, rfl⟩) (fun T9 hT9 _ => ⟨by rw [show f_parts x = 4 from (by first | rfl | (simp [f_parts, b2i, c_20]; done))], hT9⟩) (fun _ h => by cases h) dX6_partsBehind_118
                                        · skip
                                          by_cases c_21 : x = 87
                                          · refine lv_tableIn (off := 103) (tgt := 104) hx hb dX6_partsBehind_1 (by rw [c_21]; decide) (by rw [c_21]; decide) (by rw [c_21]; decide) (by decide) ?_
                                            refine va_ldcS hx hb hown (hE.str 0 rfl) dX6_partsBehind_104 ?_
                                            exact W.aret (v := .ref (xq 0)) (rt := (.object "java/lang/String")) hx hb hr (Or.inl ⟨_, rfl⟩) (Or.inr ⟨_, rfl⟩) (fun T9 hT9 _ => ⟨by rw [show f_parts x = 0 from (by first | rfl | (simp [f_parts, b2i, c_21]; done))], hT9⟩) (fun _ h => by cases h) dX6_partsBehind_106
                                          · skip
                                            by_cases c_22 : x = 88
                                            · refine lv_tableIn (off := 112) (tgt := 113) hx hb dX6_partsBehind_1 (by rw [c_22]; decide) (by rw [c_22]; decide) (by rw [c_22]; decide) (by decide) ?_
                                              refine va_ldcS hx hb hown (hE.str 3 rfl) dX6_partsBehind_113 ?_
                                              exact W.aret (v := .ref (xq 3)) (rt := (.object "java/lang/String")) hx hb hr (Or.inl ⟨_, rfl⟩) (Or.inr ⟨_, rfl⟩) (fun T9 hT9 _ => ⟨by rw [show f_parts x = 3 from (by first | rfl | (simp [f_parts, b2i, c_22]; done))], hT9⟩) (fun _ h => by cases h) dX6_partsBehind_115
                                            · skip
                                              have c_1T := lv_neT (a := 67) c_1 rfl
                                              have c_2T := lv_neT (a := 68) c_2 rfl
                                              have c_3T := lv_neT (a := 69) c_3 rfl
                                              have c_4T := lv_neT (a := 70) c_4 rfl
                                              have c_5T := lv_neT (a := 71) c_5 rfl
                                              have c_6T := lv_neT (a := 72) c_6 rfl
                                              have c_7T := lv_neT (a := 73) c_7 rfl
                                              have c_8T := lv_neT (a := 74) c_8 rfl
                                              have c_9T := lv_neT (a := 75) c_9 rfl
                                              have c_10T := lv_neT (a := 76) c_10 rfl
                                              have c_11T := lv_neT (a := 77) c_11 rfl
                                              have c_12T := lv_neT (a := 78) c_12 rfl
                                              have c_13T := lv_neT (a := 79) c_13 rfl
                                              have c_14T := lv_neT (a := 80) c_14 rfl
                                              have c_15T := lv_neT (a := 81) c_15 rfl
                                              have c_16T := lv_neT (a := 82) c_16 rfl
                                              have c_17T := lv_neT (a := 83) c_17 rfl
                                              have c_18T := lv_neT (a := 84) c_18 rfl
                                              have c_19T := lv_neT (a := 85) c_19 rfl
                                              have c_20T := lv_neT (a := 86) c_20 rfl
                                              have c_21T := lv_neT (a := 87) c_21 rfl
                                              have c_22T := lv_neT (a := 88) c_22 rfl
                                              refine lv_tableOut (tgt := 116) hx hb dX6_partsBehind_1 (by omega) (by decide) ?_
                                              refine va_ldcS hx hb hown (hE.str 4 rfl) dX6_partsBehind_116 ?_
                                              exact W.aret (v := .ref (xq 4)) (rt := (.object "java/lang/String")) hx hb hr (Or.inl ⟨_, rfl⟩) (Or.inr ⟨_, rfl⟩) (fun T9 hT9 _ => ⟨by rw [show f_parts x = 4 from (by first | rfl | (simp [f_parts, b2i, c_1, c_2, c_3, c_4, c_5, c_6, c_7, c_8, c_9, c_10, c_11, c_12, c_13, c_14, c_15, c_16, c_17, c_18, c_19, c_20, c_21, c_22]; done))], hT9⟩) (fun _ h => by cases h) dX6_partsBehind_118

theorem wi_X6_readCommand_X6 : ∀ w ∈ wsX60, w ∈ wsX6_readCommand := by decide +kernel
theorem wi_X6_readCommand_X1 : ∀ w ∈ wsX10, w ∈ wsX6_readCommand := by decide +kernel
set_option maxHeartbeats 4000000 in
set_option maxRecDepth 100000 in
theorem c_X6_readCommand (l : Launch) (D : va_G) (ad : Nat → Nat) (cy : Nat → ClassId) (pm : Nat → Nat) (rj : Option Nat) (σ : Nat → Nat → Int32) (xq : Nat → Nat) (sz : Nat) (hi : sp_inj ad 459) (i : Nat) (hi2 : i < 20) : Met l yX6_readCommand wsX6_readCommand ({ frames := 4, cells := 0, slots := 0, locals := 89 } : Room) (sp_Pmx xq ad 459 D (tyG cy) sz [.ref (ad (433)), .ref (ad (439 + i))] (cW ad cy pm rj σ)) (sp_Q D (none) (cW ad cy (pm) (rj) (f_rdCmd σ i)) (sp_A ad 459 sz)) 0 0 (sp_A ad 459 sz) := by
  refine Met.ofW (cc := cX6_readCommand) (maxL := 4) (ret := none) (by decide) rfl ?_
  intro p e s m args below meth c s₁ B hml hv
  obtain ⟨rfl, hsz, hP, hK, hE⟩ := hv
  have hx := B.exec
  have hb := B.bytes
  have hr := B.returns
  have hts := atoms_spec (ws := wsX6_readCommand) B.pre
  have hown : s.vm.findClass RX6 = some m.cls := findClass_of_methodNamed B.named
  have hlocks := B.notSynchronized
  subst hsz
  have hS : va_S (sp_A ad 459 s.heap.size) s.heap s.heap [] := va_S.rf
  have hAk : ∀ k, k < 459 → (sp_A ad 459 s.heap.size) (ad k) := fun k hk => Or.inl ⟨k, hk, rfl⟩
  skip
  obtain ⟨n0, hn0⟩ : ∃ n0, exL.getD (f_parts (f_signI σ (σ 433 3))) 0 = n0 := ⟨_, rfl⟩
  have hn9 : n0 ≤ 9 := hn0 ▸ ex_len9 _ (f_parts_lt _)
  have hl := lv_entry ([.ref (ad (433)), .ref (ad (439 + i))]) (n := 4) (Nat.le_of_ble_eq_true rfl)
  refine W.eq (lg_entry_eq _ ([.ref (ad (433)), .ref (ad (439 + i))]) _) ?_
  generalize (lg_sl ([.ref (ad (433)), .ref (ad (439 + i))]) ++ List.replicate (4 - (lg_sl ([.ref (ad (433)), .ref (ad (439 + i))])).length) Slot.unset).toArray = ls at hl ⊢
  have hl : lv_has ls 4 [(0, .ref (ad (433))), (1, .ref (ad (439 + i)))] := hl
  refine lv_aload_n hx hb dX6_readCommand_0 rfl (lv_at hl 1 rfl) ?_
  refine lv_aload_n hx hb dX6_readCommand_1 rfl (lv_at hl 0 rfl) ?_
  refine sp_get hx hb hts wi_X6_readCommand_X6 hown hK hP (κ := 433) (by decide) cE_script rfl 0 (by decide) (hts _ (List.mem_of_getElem? (i := 1) rfl)) (fun _ h => h) rfl dX6_readCommand_2 ?_
  refine lv_aload_n hx hb dX6_readCommand_5 rfl (lv_at hl 0 rfl) ?_
  refine sp_get hx hb hts wi_X6_readCommand_X6 hown hK hP (κ := 433) (by decide) cE_script rfl 3 (by decide) (hts _ (List.mem_of_getElem? (i := 2) rfl)) (fun _ h => h) rfl dX6_readCommand_6 ?_
  refine sp_call (W.runV (As := [.int (σ 433 3)]) (rest := [.ref (ad (439 + i))]) ⟨hx, hb, hml, hown, hts⟩ (c_X7_signAt_434 l D ad cy pm rj σ (σ 433 3)) (cwV 1 hts gX6_readCommand_X7_signAt rfl rfl rfl (by decide +kernel) ⟨Nat.le_of_ble_eq_true rfl, Nat.le_of_ble_eq_true rfl⟩) (sp_preV hK hP (κ := 434) (by decide) cE_in rfl) rfl rfl hl.1 rfl (lv_room (Nat.le_of_ble_eq_true rfl)) dX6_readCommand_9 ⟨Nat.le_of_ble_eq_true rfl, Nat.le_of_ble_eq_true rfl⟩) ?_
  refine W.eq (g2 := F0 m 12 ls [.int (f_signI σ (σ 433 3)), .ref (ad (439 + i))]) rfl ?_
  refine sp_put hx hb hts wi_X6_readCommand_X1 tyX1 tyX1_ok nmX1 hown hK hP hi hAk hS (κ := 439 + i) (by omega) (cE_cmd (by omega)) rfl 0 (by decide) (hts _ (List.mem_of_getElem? (i := 3) rfl)) (fun _ h => h) rfl (ty := tyX1 0) (by decide +kernel) (charp_of (f_signI_cz _ _)) (Nat.le_of_ble_eq_true rfl) (r1 := upd (σ (439 + i)) 0 (f_signI σ (σ 433 3))) (cE_of (cE_cmd (by omega)) (by simp [upd, (f_signI_cz _ _)])) dX6_readCommand_12 (fun H locs hP hS => ?_)
  have hP : va_P D vwCl (cW ad cy pm rj (sp_st σ (439 + i) 0 (f_signI σ (σ 433 3)))) H := hP
  refine lv_aload_n hx hb dX6_readCommand_15 rfl (lv_at hl 1 rfl) ?_
  refine sp_get hx hb hts wi_X6_readCommand_X1 hown hK hP (κ := 439 + i) (by omega) (cE_cmd (by omega)) rfl 0 (by decide) (hts _ (List.mem_of_getElem? (i := 3) rfl)) (fun _ h => h) rfl dX6_readCommand_16 ?_
  refine W.eq (g2 := F0 m 19 ls [.int (cz (f_signI σ (σ 433 3)))]) (by rw [sp_st_s]) ?_
  refine W.eq (g2 := F0 m 19 ls [.int (f_signI σ (σ 433 3))]) (by rw [f_signI_cz]) ?_
  refine sp_call (W.runS (As := [.int (f_signI σ (σ 433 3))]) (rest := []) ⟨hx, hb, hml, hown, hts⟩ (c_X6_partsBehind l D ad cy pm rj (sp_st σ (439 + i) 0 (f_signI σ (σ 433 3))) xq (f_signI σ (σ 433 3))) (va_cwS 1 hts gX6_readCommand_X6_partsBehind rfl rfl rfl (by decide +kernel) ⟨Nat.le_of_ble_eq_true rfl, Nat.le_of_ble_eq_true rfl⟩) (sp_preSx hK hP (hE.go hS)) rfl rfl hl.1 rfl (lv_room (Nat.le_of_ble_eq_true rfl)) dX6_readCommand_19 ⟨Nat.le_of_ble_eq_true rfl, Nat.le_of_ble_eq_true rfl⟩) ?_
  refine W.eq (g2 := F0 m 22 ls [.ref (xq (f_parts (f_signI σ (σ 433 3))))]) rfl ?_
  refine lv_astore_n (lv' := [(2, .ref (xq (f_parts (f_signI σ (σ 433 3))))), (0, .ref (ad (433))), (1, .ref (ad (439 + i)))]) hx hb dX6_readCommand_22 rfl hl (by decide) rfl (fun ls hl => ?_)
  refine lv_aload_n hx hb dX6_readCommand_23 rfl (lv_at hl 1 rfl) ?_
  refine lv_aload_n hx hb dX6_readCommand_24 rfl (lv_at hl 0 rfl) ?_
  refine sp_call (W.runV (As := []) (rest := [.ref (ad (433))]) ⟨hx, hb, hml, hown, hts⟩ (c_J0_isEmpty l xq (sp_A ad 459 s.heap.size) (f_parts (f_signI σ (σ 433 3))) (f_parts_lt _)) (cwV 0 hts gX6_readCommand_J0_isEmpty_aae02 rfl rfl rfl (by decide +kernel) ⟨Nat.le_of_ble_eq_true rfl, Nat.le_of_ble_eq_true rfl⟩) (sp_preEV hE hS (f_parts_lt _)) rfl rfl hl.1 rfl (lv_room (Nat.le_of_ble_eq_true rfl)) dX6_readCommand_25 ⟨Nat.le_of_ble_eq_true rfl, Nat.le_of_ble_eq_true rfl⟩) ?_
  refine W.eq (g2 := F0 m 28 ls [.int (b2i (exL.getD (f_parts (f_signI σ (σ 433 3))) 0 == 0)), .ref (ad (433))]) rfl ?_
  refine sp_put hx hb hts wi_X6_readCommand_X6 tyX6 tyX6_ok nmX6 hown hK hP hi hAk hS (κ := 433) (by decide) cE_script rfl 4 (by decide) (hts _ (List.mem_of_getElem? (i := 4) rfl)) (fun _ h => h) rfl (ty := tyX6 4) (by decide +kernel) (nz_of (bz_b2i _)) (Nat.le_of_ble_eq_true rfl) (r1 := upd ((sp_st σ (439 + i) 0 (f_signI σ (σ 433 3))) 433) 4 (b2i (exL.getD (f_parts (f_signI σ (σ 433 3))) 0 == 0))) (cE_of cE_script (by simp [upd, (bz_b2i _)])) dX6_readCommand_28 (fun H locs hP hS => ?_)
  have hP : va_P D vwCl (cW ad cy pm rj (sp_st (sp_st σ (439 + i) 0 (f_signI σ (σ 433 3))) 433 4 (b2i (exL.getD (f_parts (f_signI σ (σ 433 3))) 0 == 0)))) H := hP
  refine lv_aload_n hx hb dX6_readCommand_31 rfl (lv_at hl 1 rfl) ?_
  refine lv_dup hx hb dX6_readCommand_32 rfl ?_
  refine sp_get hx hb hts wi_X6_readCommand_X6 hown hK hP (κ := 433) (by decide) cE_script rfl 3 (by decide) (hts _ (List.mem_of_getElem? (i := 2) rfl)) (fun _ h => h) rfl dX6_readCommand_33 ?_
  refine W.eq (g2 := F0 m 36 ls [.int (σ 433 3), .ref (ad (433))]) (by rw [sp_st_j _ _ _ _ _ _ (by decide), sp_st_k _ _ _ _ _ _ (by omega)]) ?_
  refine lv_aload_n hx hb dX6_readCommand_36 rfl (lv_at hl 1 rfl) ?_
  refine sp_get hx hb hts wi_X6_readCommand_X6 hown hK hP (κ := 433) (by decide) cE_script rfl 4 (by decide) (hts _ (List.mem_of_getElem? (i := 4) rfl)) (fun _ h => h) rfl dX6_readCommand_37 ?_
  refine W.eq (g2 := F0 m 40 ls [.int (b2i (exL.getD (f_parts (f_signI σ (σ 433 3))) 0 == 0)), .int (σ 433 3), .ref (ad (433))]) (by rw [sp_st_s, bz_b2i]) ?_
  refine lv_if_eq (tgt := 47) hx hb dX6_readCommand_40 (by decide) (fun c_1 => ?_) (fun c_1 => ?_)
  · rw [b2i_eq0] at c_1
    refine lv_iconst (v := 1) hx hb dX6_readCommand_47 (by decide) ?_
    refine lv_iadd hx hb dX6_readCommand_48 ?_
    refine sp_put hx hb hts wi_X6_readCommand_X6 tyX6 tyX6_ok nmX6 hown hK hP hi hAk hS (κ := 433) (by decide) cE_script rfl 3 (by decide) (hts _ (List.mem_of_getElem? (i := 2) rfl)) (fun _ h => h) rfl (ty := tyX6 3) (by decide +kernel) ⟨rfl, rfl⟩ (Nat.le_of_ble_eq_true rfl) (r1 := upd ((sp_st (sp_st σ (439 + i) 0 (f_signI σ (σ 433 3))) 433 4 (b2i (exL.getD (f_parts (f_signI σ (σ 433 3))) 0 == 0))) 433) 3 ((σ 433 3) + 1)) (cE_of cE_script (by simp [upd])) dX6_readCommand_49 (fun H locs hP hS => ?_)
    have hP : va_P D vwCl (cW ad cy pm rj (sp_st (sp_st (sp_st σ (439 + i) 0 (f_signI σ (σ 433 3))) 433 4 (b2i (exL.getD (f_parts (f_signI σ (σ 433 3))) 0 == 0))) 433 3 ((σ 433 3) + 1))) H := hP
    refine lv_iconst (v := 0) hx hb dX6_readCommand_52 (by decide) ?_
    refine lv_istore_n (lv' := [(3, .int (0)), (2, .ref (xq (f_parts (f_signI σ (σ 433 3))))), (0, .ref (ad (433))), (1, .ref (ad (439 + i)))]) hx hb dX6_readCommand_53 rfl hl (by decide) rfl (fun ls hl => ?_)
    have loop_54 : ∀ (n j : Nat) (H : Heap) (locs : List Loc), (j ≤ n0) → (n0 - j < n) → (va_P D vwCl (cW ad cy pm rj (f_cmdF σ i j)) H) → (va_S (sp_A ad 459 s.heap.size) s.heap H locs) → ∀ ls : Array Slot, lv_has ls 4 [(3, .int (nI j)), (2, .ref (xq (f_parts (f_signI σ (σ 433 3))))), (0, .ref (ad (433))), (1, .ref (ad (439 + i)))] → W p l e (headSpec wsX6_readCommand ({ frames := 4, cells := 0, slots := 0, locals := 89 } : Room)).room s m ([.ref (ad (433)), .ref (ad (439 + i))] : List Value).toArray below meth c H locs 0 0 (MQ below (sp_Q D (none) (cW ad cy (pm) (rj) (f_rdCmd σ i)) (sp_A ad 459 s.heap.size)) ([.ref (ad (433)), .ref (ad (439 + i))] : List Value).toArray s 0 0 (sp_A ad 459 s.heap.size)) (F0 m 54 ls []) := by
      intro n
      induction n with
      | zero => intro j H locs hle hlt hP hS ls hl; exact absurd hlt (Nat.not_lt_zero _)
      | succ n ih =>
        intro j H locs hle hlt hP hS ls hl
        refine lv_iload_n hx hb dX6_readCommand_54 rfl (lv_at hl 0 rfl) ?_
        refine lv_aload_n hx hb dX6_readCommand_55 rfl (lv_at hl 1 rfl) ?_
        refine sp_call (W.runV (As := []) (rest := [.int (nI j)]) ⟨hx, hb, hml, hown, hts⟩ (c_J0_length l xq (sp_A ad 459 s.heap.size) (f_parts (f_signI σ (σ 433 3))) (f_parts_lt _)) (cwV 0 hts gX6_readCommand_J0_length_8abf5 rfl rfl rfl (by decide +kernel) ⟨Nat.le_of_ble_eq_true rfl, Nat.le_of_ble_eq_true rfl⟩) (sp_preEV hE hS (f_parts_lt _)) rfl rfl hl.1 rfl (lv_room (Nat.le_of_ble_eq_true rfl)) dX6_readCommand_56 ⟨Nat.le_of_ble_eq_true rfl, Nat.le_of_ble_eq_true rfl⟩) ?_
        refine W.eq (g2 := F0 m 59 ls [.int (nI (exL.getD (f_parts (f_signI σ (σ 433 3))) 0)), .int (nI j)]) rfl ?_
        refine lv_icmp_ge (tgt := 85) hx hb dX6_readCommand_59 (by decide) (fun c_2 => ?_) (fun c_2 => ?_)
        · skip
          have c_2d := Int32.not_lt.mpr c_2
          rw [hn0] at c_2
          have hx_j : j = n0 := by have := (nI_leI (a := n0) (b := j) (by omega) (by omega)).mp c_2; omega
          have hE9 : cW ad cy (pm) (rj) (f_cmdF σ i j) = cW ad cy (pm) (rj) (f_rdCmd σ i) := by first | exact cW_eq rfl (by unfold f_rdCmd; rw [hn0, hx_j]) | exact cW_eq rfl (by unfold f_rdCmd; rw [hn0]; exact cmd_stay c_1 hle)
          have hP : va_P D vwCl (cW ad cy (pm) (rj) (f_rdCmd σ i)) H := by rw [← hE9]; exact hP
          exact W.vret hx hb hr (fun T9 hT9 _ => ⟨rfl, by rw [hT9]; exact hP, hS.F hT9⟩) hS.2.2 dX6_readCommand_85
        · skip
          have c_2d := Int32.not_le.mp c_2
          rw [hn0] at c_2
          have hb_j : j < n0 := Nat.lt_of_not_le (fun z => c_2 (nI_le z (by omega)))
          refine lv_aload_n hx hb dX6_readCommand_62 rfl (lv_at hl 2 rfl) ?_
          refine sp_get hx hb hts wi_X6_readCommand_X6 hown hK hP (κ := 433) (by decide) cE_script rfl 4 (by decide) (hts _ (List.mem_of_getElem? (i := 4) rfl)) (fun _ h => h) rfl dX6_readCommand_63 ?_
          refine lv_if_ne (tgt := 85) hx hb dX6_readCommand_66 (by decide) (fun c_3 => ?_) (fun c_3 => ?_)
          · rw [bz_eq0] at c_3
            have hE9 : cW ad cy (pm) (rj) (f_cmdF σ i j) = cW ad cy (pm) (rj) (f_rdCmd σ i) := by first | exact cW_eq rfl (by unfold f_rdCmd; rw [hn0, hx_j]) | exact cW_eq rfl (by unfold f_rdCmd; rw [hn0]; exact cmd_stay c_3 hle)
            have hP : va_P D vwCl (cW ad cy (pm) (rj) (f_rdCmd σ i)) H := by rw [← hE9]; exact hP
            exact W.vret hx hb hr (fun T9 hT9 _ => ⟨rfl, by rw [hT9]; exact hP, hS.F hT9⟩) hS.2.2 dX6_readCommand_85
          · rw [bz_eq0] at c_3
            refine lv_aload_n hx hb dX6_readCommand_69 rfl (lv_at hl 2 rfl) ?_
            refine lv_aload_n hx hb dX6_readCommand_70 rfl (lv_at hl 1 rfl) ?_
            refine lv_iload_n hx hb dX6_readCommand_71 rfl (lv_at hl 0 rfl) ?_
            refine sp_call (W.runV (As := [.int (nI j)]) (rest := [.ref (ad (433))]) ⟨hx, hb, hml, hown, hts⟩ (c_J0_charAt l xq (sp_A ad 459 s.heap.size) (f_parts (f_signI σ (σ 433 3))) (f_parts_lt _) j (by rw [hn0]; exact hb_j)) (cwV 1 hts gX6_readCommand_J0_charAt_5068e rfl rfl rfl (by decide +kernel) ⟨Nat.le_of_ble_eq_true rfl, Nat.le_of_ble_eq_true rfl⟩) (sp_preEV hE hS (f_parts_lt _)) rfl rfl hl.1 rfl (lv_room (Nat.le_of_ble_eq_true rfl)) dX6_readCommand_72 ⟨Nat.le_of_ble_eq_true rfl, Nat.le_of_ble_eq_true rfl⟩) ?_
            refine W.eq (g2 := F0 m 75 ls [.int (exC (f_parts (f_signI σ (σ 433 3))) j), .ref (ad (433))]) rfl ?_
            refine lv_aload_n hx hb dX6_readCommand_75 rfl (lv_at hl 3 rfl) ?_
            refine sp_callm (va_runV (As := [.int (exC (f_parts (f_signI σ (σ 433 3))) j), .ref (ad (439 + i))]) (rest := []) ⟨hx, hb, hml, hown, hts⟩ (c_X6_readPart l D ad cy pm rj (f_cmdF σ i j) _ hi (exC (f_parts (f_signI σ (σ 433 3))) j) i (by omega)) (cwV 2 hts gX6_readCommand_X6_readPart rfl rfl rfl (by decide +kernel) ⟨Nat.le_of_ble_eq_true rfl, Nat.le_of_ble_eq_true rfl⟩) (sp_preVm hK hP (κ := 433) (by decide) cE_script rfl) rfl rfl hl.1 rfl (lv_room (Nat.le_of_ble_eq_true rfl)) dX6_readCommand_76 ⟨Nat.le_of_ble_eq_true rfl, Nat.le_of_ble_eq_true rfl⟩) hS (fun q h1 h2 => sp_Alt h1 h2) (sp_Ale hS.1) (fun H locs hP hle hfr hS => ?_)
            refine W.eq (g2 := F0 m 79 ls []) rfl ?_
            refine lv_iinc (v := nI (j + 1)) (lv' := [(3, .int (nI (j + 1))), (2, .ref (xq (f_parts (f_signI σ (σ 433 3))))), (0, .ref (ad (433))), (1, .ref (ad (439 + i)))]) hx hb dX6_readCommand_79 hl (k := 0) rfl (nI_1 _) (by decide) rfl (fun ls hl => ?_)
            refine lv_goto (tgt := 54) hx hb dX6_readCommand_82 (by decide) ?_
            exact ih (j + 1)  _ _ (by omega) (by omega)  ((show cW ad cy pm rj (f_rdPart (f_cmdF σ i j) (exC (f_parts (f_signI σ (σ 433 3))) j) i) = cW ad cy pm rj (f_cmdF σ i (j + 1)) from (by refine cW_eq rfl ?_; exact cmd_s c_3)) ▸ hP) hS ls (lv_sub hl [0, 1, 2, 3] rfl)
    exact loop_54 (n0 + 1) (0)  _ _ (by omega) (by omega)  ((show cW ad cy pm rj (sp_st (sp_st (sp_st σ (439 + i) 0 (f_signI σ (σ 433 3))) 433 4 (b2i (exL.getD (f_parts (f_signI σ (σ 433 3))) 0 == 0))) 433 3 ((σ 433 3) + 1)) = cW ad cy pm rj (f_cmdF σ i 0) from (by refine cW_eq rfl ?_; exact cmd_0 (by simp only [f_cmd0]; simp [b2i, c_1]))) ▸ hP) hS ls (lv_sub hl [0, 1, 2, 3] rfl)
  · rw [b2i_eq0] at c_1
    refine lv_iconst (v := 0) hx hb dX6_readCommand_43 (by decide) ?_
    refine lv_goto (tgt := 48) hx hb dX6_readCommand_44 (by decide) ?_
    refine lv_iadd hx hb dX6_readCommand_48 ?_
    refine sp_put hx hb hts wi_X6_readCommand_X6 tyX6 tyX6_ok nmX6 hown hK hP hi hAk hS (κ := 433) (by decide) cE_script rfl 3 (by decide) (hts _ (List.mem_of_getElem? (i := 2) rfl)) (fun _ h => h) rfl (ty := tyX6 3) (by decide +kernel) ⟨rfl, rfl⟩ (Nat.le_of_ble_eq_true rfl) (r1 := upd ((sp_st (sp_st σ (439 + i) 0 (f_signI σ (σ 433 3))) 433 4 (b2i (exL.getD (f_parts (f_signI σ (σ 433 3))) 0 == 0))) 433) 3 ((σ 433 3) + 0)) (cE_of cE_script (by simp [upd])) dX6_readCommand_49 (fun H locs hP hS => ?_)
    have hP : va_P D vwCl (cW ad cy pm rj (sp_st (sp_st (sp_st σ (439 + i) 0 (f_signI σ (σ 433 3))) 433 4 (b2i (exL.getD (f_parts (f_signI σ (σ 433 3))) 0 == 0))) 433 3 ((σ 433 3) + 0))) H := hP
    refine lv_iconst (v := 0) hx hb dX6_readCommand_52 (by decide) ?_
    refine lv_istore_n (lv' := [(3, .int (0)), (2, .ref (xq (f_parts (f_signI σ (σ 433 3))))), (0, .ref (ad (433))), (1, .ref (ad (439 + i)))]) hx hb dX6_readCommand_53 rfl hl (by decide) rfl (fun ls hl => ?_)
    have loop_54 : ∀ (n j : Nat) (H : Heap) (locs : List Loc), (j ≤ n0) → (n0 - j < n) → (va_P D vwCl (cW ad cy pm rj (f_cmdF σ i j)) H) → (va_S (sp_A ad 459 s.heap.size) s.heap H locs) → ∀ ls : Array Slot, lv_has ls 4 [(3, .int (nI j)), (2, .ref (xq (f_parts (f_signI σ (σ 433 3))))), (0, .ref (ad (433))), (1, .ref (ad (439 + i)))] → W p l e (headSpec wsX6_readCommand ({ frames := 4, cells := 0, slots := 0, locals := 89 } : Room)).room s m ([.ref (ad (433)), .ref (ad (439 + i))] : List Value).toArray below meth c H locs 0 0 (MQ below (sp_Q D (none) (cW ad cy (pm) (rj) (f_rdCmd σ i)) (sp_A ad 459 s.heap.size)) ([.ref (ad (433)), .ref (ad (439 + i))] : List Value).toArray s 0 0 (sp_A ad 459 s.heap.size)) (F0 m 54 ls []) := by
      intro n
      induction n with
      | zero => intro j H locs hle hlt hP hS ls hl; exact absurd hlt (Nat.not_lt_zero _)
      | succ n ih =>
        intro j H locs hle hlt hP hS ls hl
        refine lv_iload_n hx hb dX6_readCommand_54 rfl (lv_at hl 0 rfl) ?_
        refine lv_aload_n hx hb dX6_readCommand_55 rfl (lv_at hl 1 rfl) ?_
        refine sp_call (W.runV (As := []) (rest := [.int (nI j)]) ⟨hx, hb, hml, hown, hts⟩ (c_J0_length l xq (sp_A ad 459 s.heap.size) (f_parts (f_signI σ (σ 433 3))) (f_parts_lt _)) (cwV 0 hts gX6_readCommand_J0_length_8abf5 rfl rfl rfl (by decide +kernel) ⟨Nat.le_of_ble_eq_true rfl, Nat.le_of_ble_eq_true rfl⟩) (sp_preEV hE hS (f_parts_lt _)) rfl rfl hl.1 rfl (lv_room (Nat.le_of_ble_eq_true rfl)) dX6_readCommand_56 ⟨Nat.le_of_ble_eq_true rfl, Nat.le_of_ble_eq_true rfl⟩) ?_
        refine W.eq (g2 := F0 m 59 ls [.int (nI (exL.getD (f_parts (f_signI σ (σ 433 3))) 0)), .int (nI j)]) rfl ?_
        refine lv_icmp_ge (tgt := 85) hx hb dX6_readCommand_59 (by decide) (fun c_4 => ?_) (fun c_4 => ?_)
        · skip
          have c_4d := Int32.not_lt.mpr c_4
          rw [hn0] at c_4
          have hx_j : j = n0 := by have := (nI_leI (a := n0) (b := j) (by omega) (by omega)).mp c_4; omega
          have hE9 : cW ad cy (pm) (rj) (f_cmdF σ i j) = cW ad cy (pm) (rj) (f_rdCmd σ i) := by first | exact cW_eq rfl (by unfold f_rdCmd; rw [hn0, hx_j]) | exact cW_eq rfl (by unfold f_rdCmd; rw [hn0]; exact cmd_stay c_1 hle)
          have hP : va_P D vwCl (cW ad cy (pm) (rj) (f_rdCmd σ i)) H := by rw [← hE9]; exact hP
          exact W.vret hx hb hr (fun T9 hT9 _ => ⟨rfl, by rw [hT9]; exact hP, hS.F hT9⟩) hS.2.2 dX6_readCommand_85
        · skip
          have c_4d := Int32.not_le.mp c_4
          rw [hn0] at c_4
          have hb_j : j < n0 := Nat.lt_of_not_le (fun z => c_4 (nI_le z (by omega)))
          refine lv_aload_n hx hb dX6_readCommand_62 rfl (lv_at hl 2 rfl) ?_
          refine sp_get hx hb hts wi_X6_readCommand_X6 hown hK hP (κ := 433) (by decide) cE_script rfl 4 (by decide) (hts _ (List.mem_of_getElem? (i := 4) rfl)) (fun _ h => h) rfl dX6_readCommand_63 ?_
          refine lv_if_ne (tgt := 85) hx hb dX6_readCommand_66 (by decide) (fun c_5 => ?_) (fun c_5 => ?_)
          · rw [bz_eq0] at c_5
            have hE9 : cW ad cy (pm) (rj) (f_cmdF σ i j) = cW ad cy (pm) (rj) (f_rdCmd σ i) := by first | exact cW_eq rfl (by unfold f_rdCmd; rw [hn0, hx_j]) | exact cW_eq rfl (by unfold f_rdCmd; rw [hn0]; exact cmd_stay c_5 hle)
            have hP : va_P D vwCl (cW ad cy (pm) (rj) (f_rdCmd σ i)) H := by rw [← hE9]; exact hP
            exact W.vret hx hb hr (fun T9 hT9 _ => ⟨rfl, by rw [hT9]; exact hP, hS.F hT9⟩) hS.2.2 dX6_readCommand_85
          · rw [bz_eq0] at c_5
            refine lv_aload_n hx hb dX6_readCommand_69 rfl (lv_at hl 2 rfl) ?_
            refine lv_aload_n hx hb dX6_readCommand_70 rfl (lv_at hl 1 rfl) ?_
            refine lv_iload_n hx hb dX6_readCommand_71 rfl (lv_at hl 0 rfl) ?_
            refine sp_call (W.runV (As := [.int (nI j)]) (rest := [.ref (ad (433))]) ⟨hx, hb, hml, hown, hts⟩ (c_J0_charAt l xq (sp_A ad 459 s.heap.size) (f_parts (f_signI σ (σ 433 3))) (f_parts_lt _) j (by rw [hn0]; exact hb_j)) (cwV 1 hts gX6_readCommand_J0_charAt_5068e rfl rfl rfl (by decide +kernel) ⟨Nat.le_of_ble_eq_true rfl, Nat.le_of_ble_eq_true rfl⟩) (sp_preEV hE hS (f_parts_lt _)) rfl rfl hl.1 rfl (lv_room (Nat.le_of_ble_eq_true rfl)) dX6_readCommand_72 ⟨Nat.le_of_ble_eq_true rfl, Nat.le_of_ble_eq_true rfl⟩) ?_
            refine W.eq (g2 := F0 m 75 ls [.int (exC (f_parts (f_signI σ (σ 433 3))) j), .ref (ad (433))]) rfl ?_
            refine lv_aload_n hx hb dX6_readCommand_75 rfl (lv_at hl 3 rfl) ?_
            refine sp_callm (va_runV (As := [.int (exC (f_parts (f_signI σ (σ 433 3))) j), .ref (ad (439 + i))]) (rest := []) ⟨hx, hb, hml, hown, hts⟩ (c_X6_readPart l D ad cy pm rj (f_cmdF σ i j) _ hi (exC (f_parts (f_signI σ (σ 433 3))) j) i (by omega)) (cwV 2 hts gX6_readCommand_X6_readPart rfl rfl rfl (by decide +kernel) ⟨Nat.le_of_ble_eq_true rfl, Nat.le_of_ble_eq_true rfl⟩) (sp_preVm hK hP (κ := 433) (by decide) cE_script rfl) rfl rfl hl.1 rfl (lv_room (Nat.le_of_ble_eq_true rfl)) dX6_readCommand_76 ⟨Nat.le_of_ble_eq_true rfl, Nat.le_of_ble_eq_true rfl⟩) hS (fun q h1 h2 => sp_Alt h1 h2) (sp_Ale hS.1) (fun H locs hP hle hfr hS => ?_)
            refine W.eq (g2 := F0 m 79 ls []) rfl ?_
            refine lv_iinc (v := nI (j + 1)) (lv' := [(3, .int (nI (j + 1))), (2, .ref (xq (f_parts (f_signI σ (σ 433 3))))), (0, .ref (ad (433))), (1, .ref (ad (439 + i)))]) hx hb dX6_readCommand_79 hl (k := 0) rfl (nI_1 _) (by decide) rfl (fun ls hl => ?_)
            refine lv_goto (tgt := 54) hx hb dX6_readCommand_82 (by decide) ?_
            exact ih (j + 1)  _ _ (by omega) (by omega)  ((show cW ad cy pm rj (f_rdPart (f_cmdF σ i j) (exC (f_parts (f_signI σ (σ 433 3))) j) i) = cW ad cy pm rj (f_cmdF σ i (j + 1)) from (by refine cW_eq rfl ?_; exact cmd_s c_5)) ▸ hP) hS ls (lv_sub hl [0, 1, 2, 3] rfl)
    exact loop_54 (n0 + 1) (0)  _ _ (by omega) (by omega)  ((show cW ad cy pm rj (sp_st (sp_st (sp_st σ (439 + i) 0 (f_signI σ (σ 433 3))) 433 4 (b2i (exL.getD (f_parts (f_signI σ (σ 433 3))) 0 == 0))) 433 3 ((σ 433 3) + 0)) = cW ad cy pm rj (f_cmdF σ i 0) from (by refine cW_eq rfl ?_; exact cmd_0 (by simp only [f_cmd0]; simp [b2i, c_1]))) ▸ hP) hS ls (lv_sub hl [0, 1, 2, 3] rfl)

theorem wi_X6_parse_X6 : ∀ w ∈ wsX60, w ∈ wsX6_parse := by decide +kernel
theorem wi_X6_parse_X7 : ∀ w ∈ wsX70, w ∈ wsX6_parse := by decide +kernel
set_option maxHeartbeats 4000000 in
set_option maxRecDepth 100000 in
theorem c_X6_parse (l : Launch) (D : va_G) (ad : Nat → Nat) (cy : Nat → ClassId) (pm : Nat → Nat) (rj : Option Nat) (σ : Nat → Nat → Int32) (xq : Nat → Nat) (sz : Nat) (hi : sp_inj ad 459) : Met l yX6_parse wsX6_parse ({ frames := 5, cells := 0, slots := 0, locals := 112 } : Room) (sp_Pmx xq ad 459 D (tyG cy) sz [.ref (ad (433))] (cW ad cy pm rj σ)) (sp_Q D (some (.int (f_parseV σ))) (cW ad cy (pm) (rj) (f_parse σ)) (sp_A ad 459 sz)) 0 0 (sp_A ad 459 sz) := by
  refine Met.ofW (cc := cX6_parse) (maxL := 3) (ret := (some .int)) (by decide) rfl ?_
  intro p e s m args below meth c s₁ B hml hv
  obtain ⟨rfl, hsz, hP, hK, hE⟩ := hv
  have hx := B.exec
  have hb := B.bytes
  have hr := B.returns
  have hts := atoms_spec (ws := wsX6_parse) B.pre
  have hown : s.vm.findClass RX6 = some m.cls := findClass_of_methodNamed B.named
  have hlocks := B.notSynchronized
  subst hsz
  have hS : va_S (sp_A ad 459 s.heap.size) s.heap s.heap [] := va_S.rf
  have hAk : ∀ k, k < 459 → (sp_A ad 459 s.heap.size) (ad k) := fun k hk => Or.inl ⟨k, hk, rfl⟩
  skip
  have hl := lv_entry ([.ref (ad (433))]) (n := 3) (Nat.le_of_ble_eq_true rfl)
  refine W.eq (lg_entry_eq _ ([.ref (ad (433))]) _) ?_
  generalize (lg_sl ([.ref (ad (433))]) ++ List.replicate (3 - (lg_sl ([.ref (ad (433))])).length) Slot.unset).toArray = ls at hl ⊢
  have hl : lv_has ls 3 [(0, .ref (ad (433)))] := hl
  refine lv_aload_n hx hb dX6_parse_0 rfl (lv_at hl 0 rfl) ?_
  refine lv_iconst (v := 0) hx hb dX6_parse_1 (by decide) ?_
  refine sp_put hx hb hts wi_X6_parse_X6 tyX6 tyX6_ok nmX6 hown hK hP hi hAk hS (κ := 433) (by decide) cE_script rfl 3 (by decide) (hts _ (List.mem_of_getElem? (i := 1) rfl)) (fun _ h => h) rfl (ty := tyX6 3) (by decide +kernel) ⟨rfl, rfl⟩ (Nat.le_of_ble_eq_true rfl) (r1 := upd (σ 433) 3 0) (cE_of cE_script (by simp [upd])) dX6_parse_2 (fun H locs hP hS => ?_)
  have hP : va_P D vwCl (cW ad cy pm rj (sp_st σ 433 3 0)) H := hP
  refine lv_aload_n hx hb dX6_parse_5 rfl (lv_at hl 0 rfl) ?_
  refine lv_iconst (v := 0) hx hb dX6_parse_6 (by decide) ?_
  refine sp_put hx hb hts wi_X6_parse_X6 tyX6 tyX6_ok nmX6 hown hK hP hi hAk hS (κ := 433) (by decide) cE_script rfl 4 (by decide) (hts _ (List.mem_of_getElem? (i := 2) rfl)) (fun _ h => h) rfl (ty := tyX6 4) (by decide +kernel) (nz_of (show bz 0 = 0 by decide)) (Nat.le_of_ble_eq_true rfl) (r1 := upd ((sp_st σ 433 3 0) 433) 4 0) (cE_of cE_script (by simp [upd, (show bz 0 = 0 by decide)])) dX6_parse_7 (fun H locs hP hS => ?_)
  have hP : va_P D vwCl (cW ad cy pm rj (sp_st (sp_st σ 433 3 0) 433 4 0)) H := hP
  refine lv_aload_n hx hb dX6_parse_10 rfl (lv_at hl 0 rfl) ?_
  refine lv_iconst (v := 0) hx hb dX6_parse_11 (by decide) ?_
  refine sp_put hx hb hts wi_X6_parse_X6 tyX6 tyX6_ok nmX6 hown hK hP hi hAk hS (κ := 433) (by decide) cE_script rfl 2 (by decide) (hts _ (List.mem_of_getElem? (i := 3) rfl)) (fun _ h => h) rfl (ty := tyX6 2) (by decide +kernel) ⟨rfl, rfl⟩ (Nat.le_of_ble_eq_true rfl) (r1 := upd ((sp_st (sp_st σ 433 3 0) 433 4 0) 433) 2 0) (cE_of cE_script (by simp [upd])) dX6_parse_12 (fun H locs hP hS => ?_)
  have hP : va_P D vwCl (cW ad cy pm rj (sp_st (sp_st (sp_st σ 433 3 0) 433 4 0) 433 2 0)) H := hP
  refine lv_iconst (v := 1) hx hb dX6_parse_15 (by decide) ?_
  refine lv_istore_n (lv' := [(1, .int (1)), (0, .ref (ad (433)))]) hx hb dX6_parse_16 rfl hl (by decide) rfl (fun ls hl => ?_)
  refine lv_iconst (v := 0) hx hb dX6_parse_17 (by decide) ?_
  refine lv_istore_n (lv' := [(2, .int (0)), (1, .int (1)), (0, .ref (ad (433)))]) hx hb dX6_parse_18 rfl hl (by decide) rfl (fun ls hl => ?_)
  have loop_19 : ∀ (n i : Nat) (x : Int32) (τ : Nat → Nat → Int32) (H : Heap) (locs : List Loc), (i ≤ 20) → (20 - i < n) → ((x, τ) = foldI S_parse (1, f_par0 σ) i) → (va_P D vwCl (cW ad cy pm rj (τ)) H) → (va_S (sp_A ad 459 s.heap.size) s.heap H locs) → ∀ ls : Array Slot, lv_has ls 3 [(2, .int (nI i)), (1, .int (x)), (0, .ref (ad (433)))] → W p l e (headSpec wsX6_parse ({ frames := 5, cells := 0, slots := 0, locals := 112 } : Room)).room s m ([.ref (ad (433))] : List Value).toArray below meth c H locs 0 0 (MQ below (sp_Q D (some (.int (f_parseV σ))) (cW ad cy (pm) (rj) (f_parse σ)) (sp_A ad 459 s.heap.size)) ([.ref (ad (433))] : List Value).toArray s 0 0 (sp_A ad 459 s.heap.size)) (F0 m 19 ls []) := by
    intro n
    induction n with
    | zero => intro i x τ H locs hle hlt hi_0 hP hS ls hl; exact absurd hlt (Nat.not_lt_zero _)
    | succ n ih =>
      intro i x τ H locs hle hlt hi_0 hP hS ls hl
      refine lv_iload_n hx hb dX6_parse_19 rfl (lv_at hl 0 rfl) ?_
      refine lv_aload_n hx hb dX6_parse_20 rfl (lv_at hl 2 rfl) ?_
      refine sp_get hx hb hts wi_X6_parse_X6 hown hK hP (κ := 433) (by decide) cE_script rfl 1 (by decide) (hts _ (List.mem_of_getElem? (i := 4) rfl)) (fun _ h => h) rfl dX6_parse_21 ?_
      refine sp_alen hx hb hK hP (κ := 438) (by decide) 3 cE_cmds rfl (v := 20) rfl dX6_parse_24 ?_
      refine lv_icmp_ge (tgt := 105) hx hb dX6_parse_25 (by decide) (fun c_1 => ?_) (fun c_1 => ?_)
      · skip
        have c_1d := Int32.not_lt.mpr c_1
        have hx_i : i = 20 := by have := (nI_leI (a := 20) (b := i) (by omega) (by omega)).mp c_1; omega
        try rw [hx_i] at hi_0
        have hF : (x, τ) = foldI S_parse (1, f_par0 σ) 20 := hi_0
        have hF1 : f_parse σ = τ := by unfold f_parse; rw [← hF]
        refine lv_aload_n hx hb dX6_parse_105 rfl (lv_at hl 2 rfl) ?_
        refine sp_get hx hb hts wi_X6_parse_X6 hown hK hP (κ := 433) (by decide) cE_script rfl 4 (by decide) (hts _ (List.mem_of_getElem? (i := 2) rfl)) (fun _ h => h) rfl dX6_parse_106 ?_
        refine lv_if_ne (tgt := 130) hx hb dX6_parse_109 (by decide) (fun c_2 => ?_) (fun c_2 => ?_)
        · rw [bz_eq0] at c_2
          refine lv_aload_n hx hb dX6_parse_130 rfl (lv_at hl 2 rfl) ?_
          refine sp_get hx hb hts wi_X6_parse_X6 hown hK hP (κ := 433) (by decide) cE_script rfl 3 (by decide) (hts _ (List.mem_of_getElem? (i := 1) rfl)) (fun _ h => h) rfl dX6_parse_131 ?_
          refine lv_goto (tgt := 138) hx hb dX6_parse_134 (by decide) ?_
          have hE9 : cW ad cy (pm) (rj) (τ) = cW ad cy (pm) (rj) (f_parse σ) := by exact cW_eq rfl hF1.symm
          have hP : va_P D vwCl (cW ad cy (pm) (rj) (f_parse σ)) H := by rw [← hE9]; exact hP
          exact W.iret (v := τ 433 3) hx hb hr (fun T9 hT9 _ => ⟨congrArg (fun z9 => Outcome.returned (some (Value.int z9))) (show (τ 433 3 : Int32) = f_parseV σ from (by unfold f_parseV; rw [← hF]; simp [b2i, c_2])), by rw [hT9]; exact hP, hS.F hT9⟩) hS.2.2 dX6_parse_138
        · rw [bz_eq0] at c_2
          refine lv_iload_n hx hb dX6_parse_112 rfl (lv_at hl 1 rfl) ?_
          refine lv_if_ne (tgt := 130) hx hb dX6_parse_113 (by decide) (fun c_3 => ?_) (fun c_3 => ?_)
          · skip
            refine lv_aload_n hx hb dX6_parse_130 rfl (lv_at hl 2 rfl) ?_
            refine sp_get hx hb hts wi_X6_parse_X6 hown hK hP (κ := 433) (by decide) cE_script rfl 3 (by decide) (hts _ (List.mem_of_getElem? (i := 1) rfl)) (fun _ h => h) rfl dX6_parse_131 ?_
            refine lv_goto (tgt := 138) hx hb dX6_parse_134 (by decide) ?_
            have hE9 : cW ad cy (pm) (rj) (τ) = cW ad cy (pm) (rj) (f_parse σ) := by exact cW_eq rfl hF1.symm
            have hP : va_P D vwCl (cW ad cy (pm) (rj) (f_parse σ)) H := by rw [← hE9]; exact hP
            exact W.iret (v := τ 433 3) hx hb hr (fun T9 hT9 _ => ⟨congrArg (fun z9 => Outcome.returned (some (Value.int z9))) (show (τ 433 3 : Int32) = f_parseV σ from (by unfold f_parseV; rw [← hF]; simp [b2i, c_2, c_3])), by rw [hT9]; exact hP, hS.F hT9⟩) hS.2.2 dX6_parse_138
          · skip
            refine lv_aload_n hx hb dX6_parse_116 rfl (lv_at hl 2 rfl) ?_
            refine sp_get hx hb hts wi_X6_parse_X6 hown hK hP (κ := 433) (by decide) cE_script rfl 3 (by decide) (hts _ (List.mem_of_getElem? (i := 1) rfl)) (fun _ h => h) rfl dX6_parse_117 ?_
            refine lv_aload_n hx hb dX6_parse_120 rfl (lv_at hl 2 rfl) ?_
            refine sp_get hx hb hts wi_X6_parse_X6 hown hK hP (κ := 433) (by decide) cE_script rfl 0 (by decide) (hts _ (List.mem_of_getElem? (i := 5) rfl)) (fun _ h => h) rfl dX6_parse_121 ?_
            refine sp_get hx hb hts wi_X6_parse_X7 hown hK hP (κ := 434) (by decide) cE_in rfl 1 (by decide) (hts _ (List.mem_of_getElem? (i := 6) rfl)) (fun _ h => h) rfl dX6_parse_124 ?_
            refine lv_icmp_ge (tgt := 137) hx hb dX6_parse_127 (by decide) (fun c_4 => ?_) (fun c_4 => ?_)
            · skip
              have c_4d := Int32.not_lt.mpr c_4
              refine lv_iconst (v := (-1)) hx hb dX6_parse_137 (by decide) ?_
              have hE9 : cW ad cy (pm) (rj) (τ) = cW ad cy (pm) (rj) (f_parse σ) := by exact cW_eq rfl hF1.symm
              have hP : va_P D vwCl (cW ad cy (pm) (rj) (f_parse σ)) H := by rw [← hE9]; exact hP
              exact W.iret (v := (-1)) hx hb hr (fun T9 hT9 _ => ⟨congrArg (fun z9 => Outcome.returned (some (Value.int z9))) (show ((-1) : Int32) = f_parseV σ from (by unfold f_parseV; rw [← hF]; simp [b2i, c_2, c_3, c_4, c_4d])), by rw [hT9]; exact hP, hS.F hT9⟩) hS.2.2 dX6_parse_138
            · skip
              have c_4d := Int32.not_le.mp c_4
              refine lv_aload_n hx hb dX6_parse_130 rfl (lv_at hl 2 rfl) ?_
              refine sp_get hx hb hts wi_X6_parse_X6 hown hK hP (κ := 433) (by decide) cE_script rfl 3 (by decide) (hts _ (List.mem_of_getElem? (i := 1) rfl)) (fun _ h => h) rfl dX6_parse_131 ?_
              refine lv_goto (tgt := 138) hx hb dX6_parse_134 (by decide) ?_
              have hE9 : cW ad cy (pm) (rj) (τ) = cW ad cy (pm) (rj) (f_parse σ) := by exact cW_eq rfl hF1.symm
              have hP : va_P D vwCl (cW ad cy (pm) (rj) (f_parse σ)) H := by rw [← hE9]; exact hP
              exact W.iret (v := τ 433 3) hx hb hr (fun T9 hT9 _ => ⟨congrArg (fun z9 => Outcome.returned (some (Value.int z9))) (show (τ 433 3 : Int32) = f_parseV σ from (by unfold f_parseV; rw [← hF]; simp [b2i, c_2, c_3, c_4, c_4d])), by rw [hT9]; exact hP, hS.F hT9⟩) hS.2.2 dX6_parse_138
      · skip
        have c_1d := Int32.not_le.mp c_1
        have hb_i : i < 20 := Nat.lt_of_not_le (fun z => c_1 (nI_le z (by omega)))
        refine lv_iload_n hx hb dX6_parse_28 rfl (lv_at hl 1 rfl) ?_
        refine lv_if_eq (tgt := 105) hx hb dX6_parse_29 (by decide) (fun c_5 => ?_) (fun c_5 => ?_)
        · skip
          have hF : (x, τ) = foldI S_parse (1, f_par0 σ) 20 := par_stay hi_0 c_5 hle
          have hF1 : f_parse σ = τ := by unfold f_parse; rw [← hF]
          refine lv_aload_n hx hb dX6_parse_105 rfl (lv_at hl 2 rfl) ?_
          refine sp_get hx hb hts wi_X6_parse_X6 hown hK hP (κ := 433) (by decide) cE_script rfl 4 (by decide) (hts _ (List.mem_of_getElem? (i := 2) rfl)) (fun _ h => h) rfl dX6_parse_106 ?_
          refine lv_if_ne (tgt := 130) hx hb dX6_parse_109 (by decide) (fun c_6 => ?_) (fun c_6 => ?_)
          · rw [bz_eq0] at c_6
            refine lv_aload_n hx hb dX6_parse_130 rfl (lv_at hl 2 rfl) ?_
            refine sp_get hx hb hts wi_X6_parse_X6 hown hK hP (κ := 433) (by decide) cE_script rfl 3 (by decide) (hts _ (List.mem_of_getElem? (i := 1) rfl)) (fun _ h => h) rfl dX6_parse_131 ?_
            refine lv_goto (tgt := 138) hx hb dX6_parse_134 (by decide) ?_
            have hE9 : cW ad cy (pm) (rj) (τ) = cW ad cy (pm) (rj) (f_parse σ) := by exact cW_eq rfl hF1.symm
            have hP : va_P D vwCl (cW ad cy (pm) (rj) (f_parse σ)) H := by rw [← hE9]; exact hP
            exact W.iret (v := τ 433 3) hx hb hr (fun T9 hT9 _ => ⟨congrArg (fun z9 => Outcome.returned (some (Value.int z9))) (show (τ 433 3 : Int32) = f_parseV σ from (by unfold f_parseV; rw [← hF]; simp [b2i, c_5, c_6])), by rw [hT9]; exact hP, hS.F hT9⟩) hS.2.2 dX6_parse_138
          · rw [bz_eq0] at c_6
            refine lv_iload_n hx hb dX6_parse_112 rfl (lv_at hl 1 rfl) ?_
            refine lv_if_ne (tgt := 130) hx hb dX6_parse_113 (by decide) (fun c_7 => ?_) (fun c_7 => ?_)
            · skip
              refine lv_aload_n hx hb dX6_parse_130 rfl (lv_at hl 2 rfl) ?_
              refine sp_get hx hb hts wi_X6_parse_X6 hown hK hP (κ := 433) (by decide) cE_script rfl 3 (by decide) (hts _ (List.mem_of_getElem? (i := 1) rfl)) (fun _ h => h) rfl dX6_parse_131 ?_
              refine lv_goto (tgt := 138) hx hb dX6_parse_134 (by decide) ?_
              have hE9 : cW ad cy (pm) (rj) (τ) = cW ad cy (pm) (rj) (f_parse σ) := by exact cW_eq rfl hF1.symm
              have hP : va_P D vwCl (cW ad cy (pm) (rj) (f_parse σ)) H := by rw [← hE9]; exact hP
              exact W.iret (v := τ 433 3) hx hb hr (fun T9 hT9 _ => ⟨congrArg (fun z9 => Outcome.returned (some (Value.int z9))) (show (τ 433 3 : Int32) = f_parseV σ from (by unfold f_parseV; rw [← hF]; simp [b2i, c_5, c_6, c_7])), by rw [hT9]; exact hP, hS.F hT9⟩) hS.2.2 dX6_parse_138
            · skip
              refine lv_aload_n hx hb dX6_parse_116 rfl (lv_at hl 2 rfl) ?_
              refine sp_get hx hb hts wi_X6_parse_X6 hown hK hP (κ := 433) (by decide) cE_script rfl 3 (by decide) (hts _ (List.mem_of_getElem? (i := 1) rfl)) (fun _ h => h) rfl dX6_parse_117 ?_
              refine lv_aload_n hx hb dX6_parse_120 rfl (lv_at hl 2 rfl) ?_
              refine sp_get hx hb hts wi_X6_parse_X6 hown hK hP (κ := 433) (by decide) cE_script rfl 0 (by decide) (hts _ (List.mem_of_getElem? (i := 5) rfl)) (fun _ h => h) rfl dX6_parse_121 ?_
              refine sp_get hx hb hts wi_X6_parse_X7 hown hK hP (κ := 434) (by decide) cE_in rfl 1 (by decide) (hts _ (List.mem_of_getElem? (i := 6) rfl)) (fun _ h => h) rfl dX6_parse_124 ?_
              refine lv_icmp_ge (tgt := 137) hx hb dX6_parse_127 (by decide) (fun c_8 => ?_) (fun c_8 => ?_)
              · skip
                have c_8d := Int32.not_lt.mpr c_8
                refine lv_iconst (v := (-1)) hx hb dX6_parse_137 (by decide) ?_
                have hE9 : cW ad cy (pm) (rj) (τ) = cW ad cy (pm) (rj) (f_parse σ) := by exact cW_eq rfl hF1.symm
                have hP : va_P D vwCl (cW ad cy (pm) (rj) (f_parse σ)) H := by rw [← hE9]; exact hP
                exact W.iret (v := (-1)) hx hb hr (fun T9 hT9 _ => ⟨congrArg (fun z9 => Outcome.returned (some (Value.int z9))) (show ((-1) : Int32) = f_parseV σ from (by unfold f_parseV; rw [← hF]; simp [b2i, c_5, c_6, c_7, c_8, c_8d])), by rw [hT9]; exact hP, hS.F hT9⟩) hS.2.2 dX6_parse_138
              · skip
                have c_8d := Int32.not_le.mp c_8
                refine lv_aload_n hx hb dX6_parse_130 rfl (lv_at hl 2 rfl) ?_
                refine sp_get hx hb hts wi_X6_parse_X6 hown hK hP (κ := 433) (by decide) cE_script rfl 3 (by decide) (hts _ (List.mem_of_getElem? (i := 1) rfl)) (fun _ h => h) rfl dX6_parse_131 ?_
                refine lv_goto (tgt := 138) hx hb dX6_parse_134 (by decide) ?_
                have hE9 : cW ad cy (pm) (rj) (τ) = cW ad cy (pm) (rj) (f_parse σ) := by exact cW_eq rfl hF1.symm
                have hP : va_P D vwCl (cW ad cy (pm) (rj) (f_parse σ)) H := by rw [← hE9]; exact hP
                exact W.iret (v := τ 433 3) hx hb hr (fun T9 hT9 _ => ⟨congrArg (fun z9 => Outcome.returned (some (Value.int z9))) (show (τ 433 3 : Int32) = f_parseV σ from (by unfold f_parseV; rw [← hF]; simp [b2i, c_5, c_6, c_7, c_8, c_8d])), by rw [hT9]; exact hP, hS.F hT9⟩) hS.2.2 dX6_parse_138
        · skip
          refine lv_aload_n hx hb dX6_parse_32 rfl (lv_at hl 2 rfl) ?_
          refine lv_aload_n hx hb dX6_parse_33 rfl (lv_at hl 2 rfl) ?_
          refine sp_get hx hb hts wi_X6_parse_X6 hown hK hP (κ := 433) (by decide) cE_script rfl 1 (by decide) (hts _ (List.mem_of_getElem? (i := 4) rfl)) (fun _ h => h) rfl dX6_parse_34 ?_
          refine lv_iload_n hx hb dX6_parse_37 rfl (lv_at hl 0 rfl) ?_
          refine sp_aald hx hb hK hP (κ := 438) (by decide) 3 cE_cmds rfl i rfl (by omega) (by decide) (q := ad (439 + i)) rfl dX6_parse_38 ?_
          refine sp_callm (va_runV (As := [.ref (ad (439 + i))]) (rest := []) ⟨hx, hb, hml, hown, hts⟩ (c_X6_readCommand l D ad cy pm rj τ xq _ hi i (by omega)) (cwV 1 hts gX6_parse_X6_readCommand rfl rfl rfl (by decide +kernel) ⟨Nat.le_of_ble_eq_true rfl, Nat.le_of_ble_eq_true rfl⟩) (sp_preVmx hK hP (hE.go hS) (κ := 433) (by decide) cE_script rfl) rfl rfl hl.1 rfl (lv_room (Nat.le_of_ble_eq_true rfl)) dX6_parse_39 ⟨Nat.le_of_ble_eq_true rfl, Nat.le_of_ble_eq_true rfl⟩) hS (fun q h1 h2 => sp_Alt h1 h2) (sp_Ale hS.1) (fun H locs hP hle hfr hS => ?_)
          refine W.eq (g2 := F0 m 42 ls []) rfl ?_
          refine lv_aload_n hx hb dX6_parse_42 rfl (lv_at hl 2 rfl) ?_
          refine lv_dup hx hb dX6_parse_43 rfl ?_
          refine sp_get hx hb hts wi_X6_parse_X6 hown hK hP (κ := 433) (by decide) cE_script rfl 2 (by decide) (hts _ (List.mem_of_getElem? (i := 3) rfl)) (fun _ h => h) rfl dX6_parse_44 ?_
          refine lv_iconst (v := 1) hx hb dX6_parse_47 (by decide) ?_
          refine lv_iadd hx hb dX6_parse_48 ?_
          refine sp_put hx hb hts wi_X6_parse_X6 tyX6 tyX6_ok nmX6 hown hK hP hi hAk hS (κ := 433) (by decide) cE_script rfl 2 (by decide) (hts _ (List.mem_of_getElem? (i := 3) rfl)) (fun _ h => h) rfl (ty := tyX6 2) (by decide +kernel) ⟨rfl, rfl⟩ (Nat.le_of_ble_eq_true rfl) (r1 := upd ((f_rdCmd τ i) 433) 2 ((f_rdCmd τ i 433 2) + 1)) (cE_of cE_script (by simp [upd])) dX6_parse_49 (fun H locs hP hS => ?_)
          have hP : va_P D vwCl (cW ad cy pm rj (sp_st (f_rdCmd τ i) 433 2 ((f_rdCmd τ i 433 2) + 1))) H := hP
          refine lv_aload_n hx hb dX6_parse_52 rfl (lv_at hl 2 rfl) ?_
          refine sp_get hx hb hts wi_X6_parse_X6 hown hK hP (κ := 433) (by decide) cE_script rfl 4 (by decide) (hts _ (List.mem_of_getElem? (i := 2) rfl)) (fun _ h => h) rfl dX6_parse_53 ?_
          refine W.eq (g2 := F0 m 56 ls [.int (bz (f_rdCmd τ i 433 4))]) (by rw [sp_st_j _ _ _ _ _ _ (by decide)]) ?_
          refine lv_if_ne (tgt := 79) hx hb dX6_parse_56 (by decide) (fun c_9 => ?_) (fun c_9 => ?_)
          · rw [bz_eq0] at c_9
            refine lv_iconst (v := 0) hx hb dX6_parse_79 (by decide) ?_
            refine lv_istore_n (lv' := [(1, .int (0)), (2, .int (nI i)), (0, .ref (ad (433)))]) hx hb dX6_parse_80 rfl hl (by decide) rfl (fun ls hl => ?_)
            refine lv_aload_n hx hb dX6_parse_81 rfl (lv_at hl 2 rfl) ?_
            refine lv_dup hx hb dX6_parse_82 rfl ?_
            refine sp_get hx hb hts wi_X6_parse_X6 hown hK hP (κ := 433) (by decide) cE_script rfl 3 (by decide) (hts _ (List.mem_of_getElem? (i := 1) rfl)) (fun _ h => h) rfl dX6_parse_83 ?_
            refine W.eq (g2 := F0 m 86 ls [.int (f_rdCmd τ i 433 3), .ref (ad (433))]) (by rw [sp_st_j _ _ _ _ _ _ (by decide)]) ?_
            refine lv_iload_n hx hb dX6_parse_86 rfl (lv_at hl 0 rfl) ?_
            refine lv_if_eq (tgt := 94) hx hb dX6_parse_87 (by decide) (fun c_10 => ?_) (fun c_10 => ?_)
            · skip
              refine lv_iconst (v := 0) hx hb dX6_parse_94 (by decide) ?_
              refine lv_iadd hx hb dX6_parse_95 ?_
              refine sp_put hx hb hts wi_X6_parse_X6 tyX6 tyX6_ok nmX6 hown hK hP hi hAk hS (κ := 433) (by decide) cE_script rfl 3 (by decide) (hts _ (List.mem_of_getElem? (i := 1) rfl)) (fun _ h => h) rfl (ty := tyX6 3) (by decide +kernel) ⟨rfl, rfl⟩ (Nat.le_of_ble_eq_true rfl) (r1 := upd ((sp_st (f_rdCmd τ i) 433 2 ((f_rdCmd τ i 433 2) + 1)) 433) 3 ((f_rdCmd τ i 433 3) + 0)) (cE_of cE_script (by simp [upd])) dX6_parse_96 (fun H locs hP hS => ?_)
              have hP : va_P D vwCl (cW ad cy pm rj (sp_st (sp_st (f_rdCmd τ i) 433 2 ((f_rdCmd τ i 433 2) + 1)) 433 3 ((f_rdCmd τ i 433 3) + 0))) H := hP
              refine lv_iinc (v := nI (i + 1)) (lv' := [(2, .int (nI (i + 1))), (1, .int (0)), (0, .ref (ad (433)))]) hx hb dX6_parse_99 hl (k := 1) rfl (nI_1 _) (by decide) rfl (fun ls hl => ?_)
              refine lv_goto (tgt := 19) hx hb dX6_parse_102 (by decide) ?_
              exact ih (i + 1) 0 (sp_st (sp_st (f_rdCmd τ i) 433 2 ((f_rdCmd τ i 433 2) + 1)) 433 3 ((f_rdCmd τ i 433 3) + 0)) _ _ (by omega) (by omega) (by rw [foldI_succ, ← hi_0]; simp [S_parse, b2i, c_5, c_9]) hP hS ls (lv_sub hl [0, 1, 2] rfl)
            · exact absurd (by decide) c_10
          · rw [bz_eq0] at c_9
            refine lv_aload_n hx hb dX6_parse_59 rfl (lv_at hl 2 rfl) ?_
            refine sp_get hx hb hts wi_X6_parse_X6 hown hK hP (κ := 433) (by decide) cE_script rfl 0 (by decide) (hts _ (List.mem_of_getElem? (i := 5) rfl)) (fun _ h => h) rfl dX6_parse_60 ?_
            refine lv_aload_n hx hb dX6_parse_63 rfl (lv_at hl 2 rfl) ?_
            refine sp_get hx hb hts wi_X6_parse_X6 hown hK hP (κ := 433) (by decide) cE_script rfl 3 (by decide) (hts _ (List.mem_of_getElem? (i := 1) rfl)) (fun _ h => h) rfl dX6_parse_64 ?_
            refine W.eq (g2 := F0 m 67 ls [.int (f_rdCmd τ i 433 3), .ref (ad (434))]) (by rw [sp_st_j _ _ _ _ _ _ (by decide)]) ?_
            refine sp_call (W.runV (As := [.int (f_rdCmd τ i 433 3)]) (rest := []) ⟨hx, hb, hml, hown, hts⟩ (c_X7_signAt_434 l D ad cy pm rj (sp_st (f_rdCmd τ i) 433 2 ((f_rdCmd τ i 433 2) + 1)) (f_rdCmd τ i 433 3)) (cwV 1 hts gX6_parse_X7_signAt rfl rfl rfl (by decide +kernel) ⟨Nat.le_of_ble_eq_true rfl, Nat.le_of_ble_eq_true rfl⟩) (sp_preV hK hP (κ := 434) (by decide) cE_in rfl) rfl rfl hl.1 rfl (lv_room (Nat.le_of_ble_eq_true rfl)) dX6_parse_67 ⟨Nat.le_of_ble_eq_true rfl, Nat.le_of_ble_eq_true rfl⟩) ?_
            refine W.eq (g2 := F0 m 70 ls [.int (f_signI (sp_st (f_rdCmd τ i) 433 2 ((f_rdCmd τ i 433 2) + 1)) (f_rdCmd τ i 433 3))]) rfl ?_
            refine lv_bipush (v := 59) hx hb dX6_parse_70 (by decide) ?_
            refine lv_icmp_ne (tgt := 79) hx hb dX6_parse_72 (by decide) (fun c_11 => ?_) (fun c_11 => ?_)
            · skip
              refine lv_iconst (v := 0) hx hb dX6_parse_79 (by decide) ?_
              refine lv_istore_n (lv' := [(1, .int (0)), (2, .int (nI i)), (0, .ref (ad (433)))]) hx hb dX6_parse_80 rfl hl (by decide) rfl (fun ls hl => ?_)
              refine lv_aload_n hx hb dX6_parse_81 rfl (lv_at hl 2 rfl) ?_
              refine lv_dup hx hb dX6_parse_82 rfl ?_
              refine sp_get hx hb hts wi_X6_parse_X6 hown hK hP (κ := 433) (by decide) cE_script rfl 3 (by decide) (hts _ (List.mem_of_getElem? (i := 1) rfl)) (fun _ h => h) rfl dX6_parse_83 ?_
              refine W.eq (g2 := F0 m 86 ls [.int (f_rdCmd τ i 433 3), .ref (ad (433))]) (by rw [sp_st_j _ _ _ _ _ _ (by decide)]) ?_
              refine lv_iload_n hx hb dX6_parse_86 rfl (lv_at hl 0 rfl) ?_
              refine lv_if_eq (tgt := 94) hx hb dX6_parse_87 (by decide) (fun c_12 => ?_) (fun c_12 => ?_)
              · skip
                refine lv_iconst (v := 0) hx hb dX6_parse_94 (by decide) ?_
                refine lv_iadd hx hb dX6_parse_95 ?_
                refine sp_put hx hb hts wi_X6_parse_X6 tyX6 tyX6_ok nmX6 hown hK hP hi hAk hS (κ := 433) (by decide) cE_script rfl 3 (by decide) (hts _ (List.mem_of_getElem? (i := 1) rfl)) (fun _ h => h) rfl (ty := tyX6 3) (by decide +kernel) ⟨rfl, rfl⟩ (Nat.le_of_ble_eq_true rfl) (r1 := upd ((sp_st (f_rdCmd τ i) 433 2 ((f_rdCmd τ i 433 2) + 1)) 433) 3 ((f_rdCmd τ i 433 3) + 0)) (cE_of cE_script (by simp [upd])) dX6_parse_96 (fun H locs hP hS => ?_)
                have hP : va_P D vwCl (cW ad cy pm rj (sp_st (sp_st (f_rdCmd τ i) 433 2 ((f_rdCmd τ i 433 2) + 1)) 433 3 ((f_rdCmd τ i 433 3) + 0))) H := hP
                refine lv_iinc (v := nI (i + 1)) (lv' := [(2, .int (nI (i + 1))), (1, .int (0)), (0, .ref (ad (433)))]) hx hb dX6_parse_99 hl (k := 1) rfl (nI_1 _) (by decide) rfl (fun ls hl => ?_)
                refine lv_goto (tgt := 19) hx hb dX6_parse_102 (by decide) ?_
                exact ih (i + 1) 0 (sp_st (sp_st (f_rdCmd τ i) 433 2 ((f_rdCmd τ i 433 2) + 1)) 433 3 ((f_rdCmd τ i 433 3) + 0)) _ _ (by omega) (by omega) (by rw [foldI_succ, ← hi_0]; simp [S_parse, b2i, c_5, c_9, c_11]) hP hS ls (lv_sub hl [0, 1, 2] rfl)
              · exact absurd (by decide) c_12
            · skip
              refine lv_iconst (v := 1) hx hb dX6_parse_75 (by decide) ?_
              refine lv_goto (tgt := 80) hx hb dX6_parse_76 (by decide) ?_
              refine lv_istore_n (lv' := [(1, .int (1)), (2, .int (nI i)), (0, .ref (ad (433)))]) hx hb dX6_parse_80 rfl hl (by decide) rfl (fun ls hl => ?_)
              refine lv_aload_n hx hb dX6_parse_81 rfl (lv_at hl 2 rfl) ?_
              refine lv_dup hx hb dX6_parse_82 rfl ?_
              refine sp_get hx hb hts wi_X6_parse_X6 hown hK hP (κ := 433) (by decide) cE_script rfl 3 (by decide) (hts _ (List.mem_of_getElem? (i := 1) rfl)) (fun _ h => h) rfl dX6_parse_83 ?_
              refine W.eq (g2 := F0 m 86 ls [.int (f_rdCmd τ i 433 3), .ref (ad (433))]) (by rw [sp_st_j _ _ _ _ _ _ (by decide)]) ?_
              refine lv_iload_n hx hb dX6_parse_86 rfl (lv_at hl 0 rfl) ?_
              refine lv_if_eq (tgt := 94) hx hb dX6_parse_87 (by decide) (fun c_13 => ?_) (fun c_13 => ?_)
              · exact absurd c_13 (by decide)
              · skip
                refine lv_iconst (v := 1) hx hb dX6_parse_90 (by decide) ?_
                refine lv_goto (tgt := 95) hx hb dX6_parse_91 (by decide) ?_
                refine lv_iadd hx hb dX6_parse_95 ?_
                refine sp_put hx hb hts wi_X6_parse_X6 tyX6 tyX6_ok nmX6 hown hK hP hi hAk hS (κ := 433) (by decide) cE_script rfl 3 (by decide) (hts _ (List.mem_of_getElem? (i := 1) rfl)) (fun _ h => h) rfl (ty := tyX6 3) (by decide +kernel) ⟨rfl, rfl⟩ (Nat.le_of_ble_eq_true rfl) (r1 := upd ((sp_st (f_rdCmd τ i) 433 2 ((f_rdCmd τ i 433 2) + 1)) 433) 3 ((f_rdCmd τ i 433 3) + 1)) (cE_of cE_script (by simp [upd])) dX6_parse_96 (fun H locs hP hS => ?_)
                have hP : va_P D vwCl (cW ad cy pm rj (sp_st (sp_st (f_rdCmd τ i) 433 2 ((f_rdCmd τ i 433 2) + 1)) 433 3 ((f_rdCmd τ i 433 3) + 1))) H := hP
                refine lv_iinc (v := nI (i + 1)) (lv' := [(2, .int (nI (i + 1))), (1, .int (1)), (0, .ref (ad (433)))]) hx hb dX6_parse_99 hl (k := 1) rfl (nI_1 _) (by decide) rfl (fun ls hl => ?_)
                refine lv_goto (tgt := 19) hx hb dX6_parse_102 (by decide) ?_
                exact ih (i + 1) 1 (sp_st (sp_st (f_rdCmd τ i) 433 2 ((f_rdCmd τ i 433 2) + 1)) 433 3 ((f_rdCmd τ i 433 3) + 1)) _ _ (by omega) (by omega) (by rw [foldI_succ, ← hi_0]; simp [S_parse, b2i, c_5, c_9, c_11]) hP hS ls (lv_sub hl [0, 1, 2] rfl)
  exact loop_19 (20 + 1) (0) (1) (sp_st (sp_st (sp_st σ 433 3 0) 433 4 0) 433 2 0) _ _ (by omega) (by omega) (rfl) hP hS ls (lv_sub hl [0, 1, 2] rfl)

