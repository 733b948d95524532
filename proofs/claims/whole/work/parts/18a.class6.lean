
/-! reading the input -/
theorem tab_out {x : Int32} {lo : Int} (n : Nat) (h : ∀ k : Nat, k < n → ¬ x = Int32.ofInt (lo + k)) : x.toInt < lo ∨ lo + ((n : Int) - 1) < x.toInt := by
  by_cases h1 : x.toInt < lo
  · exact Or.inl h1
  · by_cases h2 : lo + ((n : Int) - 1) < x.toInt
    · exact Or.inr h2
    · refine absurd ?_ (h (x.toInt - lo).toNat (by omega))
      rw [show lo + (((x.toInt - lo).toNat : Nat) : Int) = x.toInt by omega, Int32.ofInt_toInt]
theorem sp_st_self (σ : Nat → Nat → Int32) (k j : Nat) : sp_st σ k j (σ k j) = σ := by
  funext a b
  rw [sp_st_at]
  by_cases h : a = k ∧ b = j
  · rw [if_pos h, h.1, h.2]
  · rw [if_neg h]
theorem sp_st_st (σ : Nat → Nat → Int32) (k j : Nat) (v w : Int32) : sp_st (sp_st σ k j v) k j w = sp_st σ k j w := by
  funext a b
  simp only [sp_st_at]
  by_cases h : a = k ∧ b = j <;> simp [h]
theorem f_signI_st {σ : Nat → Nat → Int32} {j : Nat} {v i : Int32} : f_signI (sp_st σ 433 j v) i = f_signI σ i := by
  unfold f_signI f_reachI
  rw [sp_st_k _ _ _ _ _ _ (by decide), sp_st_k _ _ _ _ _ _ (by decide)]
theorem f_signI_cz (σ : Nat → Nat → Int32) (i : Int32) : cz (f_signI σ i) = f_signI σ i := by
  unfold f_signI
  by_cases h : f_reachI σ i = true
  · rw [if_pos h, cz_cz]
  · rw [if_neg h]; decide
theorem of_beqF {a : Nat} (h : (a == 0) = false) : ¬ a = 0 := by simpa using h
theorem of_beqT {a : Nat} (h : ¬ (a == 0) = false) : a = 0 := by simpa using h
def f_rdSign (σ : Nat → Nat → Int32) (x : Int32) : Nat → Nat → Int32 := if f_signI σ (σ 433 3) = x then sp_st (sp_st σ 433 4 0) 433 3 (σ 433 3 + 1) else sp_st (sp_st σ 433 4 1) 433 3 (σ 433 3 + 0)
def S_num (σ : Nat → Nat → Int32) (t : Int32 × Int32 × Int32) (i : Nat) : Int32 × Int32 × Int32 := if t.2.1 = nI i ∧ 48 ≤ f_signI σ t.2.2 ∧ f_signI σ t.2.2 ≤ 57 then (10 * t.1 + (f_signI σ t.2.2 - 48), t.2.1 + 1, t.2.2 + 1) else t
def f_num (σ : Nat → Nat → Int32) (n : Nat) : Int32 × Int32 × Int32 := foldI (S_num σ) (0, 0, σ 433 3) n
def f_rdNum (σ : Nat → Nat → Int32) (n : Nat) : Nat → Nat → Int32 := sp_st (sp_st σ 433 3 (foldI (S_num σ) (0, 0, σ 433 3) n).2.2) 433 4 (b2i ((foldI (S_num σ) (0, 0, σ 433 3) n).2.1 == 0))
def f_rdNumV (σ : Nat → Nat → Int32) (n : Nat) : Int32 := (foldI (S_num σ) (0, 0, σ 433 3) n).1
def f_rdPart (σ : Nat → Nat → Int32) (x : Int32) (i : Nat) : Nat → Nat → Int32 :=
  if x = 99 then sp_st (f_rdNum σ 3) (439 + i) 4 (f_rdNumV σ 3)
  else if x = 100 then sp_st (f_rdNum σ 1) (439 + i) 6 (f_rdNumV σ 1)
  else if x = 102 then (if f_signI σ (σ 433 3) = 76 then f_rdSign (sp_st σ (439 + i) 5 1) 76 else f_rdSign (sp_st σ (439 + i) 5 0) 82)
  else if x = 105 then sp_st (f_rdNum σ 3) (439 + i) 1 (f_rdNumV σ 3)
  else if x = 114 then sp_st (f_rdNum σ 3) (439 + i) 3 (f_rdNumV σ 3)
  else if x = 116 then sp_st (f_rdNum σ 3) (439 + i) 2 (f_rdNumV σ 3)
  else f_rdSign σ x
def f_parts (x : Int32) : Nat := if x = 84 ∨ x = 87 then 0 else if x = 80 then 1 else if x = 72 then 2 else if x = 67 ∨ x = 68 ∨ x = 70 ∨ x = 88 then 3 else 4
theorem f_parts_lt (x : Int32) : f_parts x < 5 := by
  unfold f_parts; split; decide; split; decide; split; decide; split; decide; decide
/-- a command's letter read: its parts are to be read if it has any -/
def f_cmd0 (σ : Nat → Nat → Int32) (i : Nat) : Nat → Nat → Int32 :=
  if exL.getD (f_parts (f_signI σ (σ 433 3))) 0 = 0 then sp_st (sp_st (sp_st σ (439 + i) 0 (f_signI σ (σ 433 3))) 433 4 (b2i (exL.getD (f_parts (f_signI σ (σ 433 3))) 0 == 0))) 433 3 (σ 433 3 + 0)
  else sp_st (sp_st (sp_st σ (439 + i) 0 (f_signI σ (σ 433 3))) 433 4 (b2i (exL.getD (f_parts (f_signI σ (σ 433 3))) 0 == 0))) 433 3 (σ 433 3 + 1)
def S_cmd (f i : Nat) (τ : Nat → Nat → Int32) (j : Nat) : Nat → Nat → Int32 := if τ 433 4 = 0 then f_rdPart τ (exC f j) i else τ
def f_cmdF (σ : Nat → Nat → Int32) (i j : Nat) : Nat → Nat → Int32 := foldI (S_cmd (f_parts (f_signI σ (σ 433 3))) i) (f_cmd0 σ i) j
def f_rdCmd (σ : Nat → Nat → Int32) (i : Nat) : Nat → Nat → Int32 := f_cmdF σ i (exL.getD (f_parts (f_signI σ (σ 433 3))) 0)
theorem cmd_0 {σ τ : Nat → Nat → Int32} {i : Nat} (h : τ = f_cmd0 σ i) : τ = f_cmdF σ i 0 := h
theorem cmd_s {σ : Nat → Nat → Int32} {i j : Nat} (h : f_cmdF σ i j 433 4 = 0) : f_rdPart (f_cmdF σ i j) (exC (f_parts (f_signI σ (σ 433 3))) j) i = f_cmdF σ i (j + 1) := by
  show _ = foldI (S_cmd (f_parts (f_signI σ (σ 433 3))) i) (f_cmd0 σ i) (j + 1)
  rw [foldI_succ]
  show _ = S_cmd _ i (f_cmdF σ i j) j
  unfold S_cmd
  rw [if_pos h]
theorem cmd_stay {σ : Nat → Nat → Int32} {i j n : Nat} (h : ¬ f_cmdF σ i j 433 4 = 0) (hn : j ≤ n) : f_cmdF σ i j = f_cmdF σ i n := by
  obtain ⟨m, rfl⟩ := Nat.exists_eq_add_of_le hn
  clear hn
  induction m with
  | zero => rfl
  | succ m ih =>
    rw [ih]
    show _ = foldI (S_cmd (f_parts (f_signI σ (σ 433 3))) i) (f_cmd0 σ i) (j + m + 1)
    rw [foldI_succ]
    show _ = S_cmd _ i (f_cmdF σ i (j + m)) (j + m)
    unfold S_cmd
    rw [if_neg (by rw [← ih]; exact h)]
def f_par0 (σ : Nat → Nat → Int32) : Nat → Nat → Int32 := sp_st (sp_st (sp_st σ 433 3 0) 433 4 0) 433 2 0
/-- the class doesn't clear what its first command overwrites -/
def f_parA (σ : Nat → Nat → Int32) : Nat → Nat → Int32 := sp_st (sp_st σ 433 3 0) 433 2 0
def S_parse (t : Int32 × (Nat → Nat → Int32)) (i : Nat) : Int32 × (Nat → Nat → Int32) :=
  if t.1 = 0 then t
  else if f_rdCmd t.2 i 433 4 = 0 ∧ f_signI (f_rdCmd t.2 i) (f_rdCmd t.2 i 433 3) = 59 then (1, sp_st (sp_st (f_rdCmd t.2 i) 433 2 (f_rdCmd t.2 i 433 2 + 1)) 433 3 (f_rdCmd t.2 i 433 3 + 1))
  else (0, sp_st (sp_st (f_rdCmd t.2 i) 433 2 (f_rdCmd t.2 i 433 2 + 1)) 433 3 (f_rdCmd t.2 i 433 3 + 0))
def f_parse (σ : Nat → Nat → Int32) : Nat → Nat → Int32 := (foldI S_parse (1, f_par0 σ) 20).2
def f_parseV (σ : Nat → Nat → Int32) : Int32 :=
  if ¬ (foldI S_parse (1, f_par0 σ) 20).2 433 4 = 0 ∨ ¬ (foldI S_parse (1, f_par0 σ) 20).1 = 0 ∨ (foldI S_parse (1, f_par0 σ) 20).2 433 3 < (foldI S_parse (1, f_par0 σ) 20).2 434 1 then (foldI S_parse (1, f_par0 σ) 20).2 433 3 else -1
theorem parA_cmd (σ : Nat → Nat → Int32) : f_rdCmd (f_parA σ) 0 = f_rdCmd (f_par0 σ) 0 := by
  have hA : f_signI (f_parA σ) (f_parA σ 433 3) = f_signI σ 0 := by
    unfold f_parA
    rw [sp_st_j _ _ _ _ _ _ (by decide), sp_st_s, f_signI_st, f_signI_st]
  have hB : f_signI (f_par0 σ) (f_par0 σ 433 3) = f_signI σ 0 := by
    unfold f_par0
    rw [sp_st_j _ _ _ _ _ _ (by decide), sp_st_j _ _ _ _ _ _ (by decide), sp_st_s, f_signI_st, f_signI_st, f_signI_st]
  have hA3 : f_parA σ 433 3 = 0 := by
    unfold f_parA
    rw [sp_st_j _ _ _ _ _ _ (by decide), sp_st_s]
  have hB3 : f_par0 σ 433 3 = 0 := by
    unfold f_par0
    rw [sp_st_j _ _ _ _ _ _ (by decide), sp_st_j _ _ _ _ _ _ (by decide), sp_st_s]
  have h0 : ∀ (u b v : Int32), sp_st (sp_st (sp_st (f_parA σ) (439 + 0) 0 u) 433 4 b) 433 3 v = sp_st (sp_st (sp_st (f_par0 σ) (439 + 0) 0 u) 433 4 b) 433 3 v := fun u b v => by
    funext k j
    unfold f_parA f_par0
    simp only [sp_st_at]
    (repeat' split) <;> first | rfl | (exfalso; omega)
  have hc : f_cmd0 (f_parA σ) 0 = f_cmd0 (f_par0 σ) 0 := by
    unfold f_cmd0
    rw [hA, hB, hA3, hB3, h0, h0]
  unfold f_rdCmd f_cmdF
  rw [hA, hB, hc]
theorem parA_same (σ : Nat → Nat → Int32) : ∀ n : Nat, foldI S_parse (1, f_parA σ) (n + 1) = foldI S_parse (1, f_par0 σ) (n + 1)
  | 0 => by
    show S_parse (1, f_parA σ) 0 = S_parse (1, f_par0 σ) 0
    unfold S_parse
    rw [if_neg (show ¬ (1, f_parA σ).1 = (0 : Int32) from (show ¬ (1 : Int32) = 0 by decide)), if_neg (show ¬ (1, f_par0 σ).1 = (0 : Int32) from (show ¬ (1 : Int32) = 0 by decide))]
    show (if f_rdCmd (f_parA σ) 0 433 4 = 0 ∧ f_signI (f_rdCmd (f_parA σ) 0) (f_rdCmd (f_parA σ) 0 433 3) = 59 then _ else _) = (if f_rdCmd (f_par0 σ) 0 433 4 = 0 ∧ f_signI (f_rdCmd (f_par0 σ) 0) (f_rdCmd (f_par0 σ) 0 433 3) = 59 then _ else _)
    rw [parA_cmd]
  | n + 1 => (foldI_succ _ _ _).trans ((congrArg (fun z => S_parse z (n + 1)) (parA_same σ n)).trans (foldI_succ _ _ _).symm)
theorem par_stay {σ τ : Nat → Nat → Int32} {x : Int32} {i : Nat} (h : (x, τ) = foldI S_parse (1, f_par0 σ) i) (hx : x = 0) (hn : i ≤ 20) : (x, τ) = foldI S_parse (1, f_par0 σ) 20 := by
  obtain ⟨m, hm⟩ := Nat.exists_eq_add_of_le hn
  rw [hm]
  clear hm hn
  induction m with
  | zero => exact h
  | succ m ih =>
    show _ = foldI S_parse (1, f_par0 σ) (i + m + 1)
    rw [foldI_succ, ← ih]
    unfold S_parse
    rw [if_pos hx]
theorem par_stayA {σ τ : Nat → Nat → Int32} {x : Int32} {i : Nat} (h : (x, τ) = foldI S_parse (1, f_parA σ) i) (hx : x = 0) (hn : i ≤ 20) : (x, τ) = foldI S_parse (1, f_par0 σ) 20 := by
  rcases i with _ | i
  · have h1 : x = 1 := congrArg Prod.fst h
    exact absurd (h1.symm.trans hx) (by decide)
  · exact par_stay (h.trans (parA_same σ i)) hx hn
theorem wi_X6_readSign_X6 : ∀ w ∈ wsX60, w ∈ wsX6_readSign := by decide +kernel
set_option maxHeartbeats 4000000 in
set_option maxRecDepth 100000 in
theorem c_X6_readSign (l : Launch) (D : va_G) (ad : Nat → Nat) (cy : Nat → ClassId) (pm : Nat → Nat) (rj : Option Nat) (σ : Nat → Nat → Int32) (sz : Nat) (hi : sp_inj ad 459) (x : Int32) : Met l yX6_readSign wsX6_readSign ({ frames := 2, cells := 0, slots := 0, locals := 42 } : Room) (sp_Pm D (tyG cy) sz [.ref (ad (433)), .int (x)] (cW ad cy pm rj σ)) (sp_Q D (none) (cW ad cy (pm) (rj) (f_rdSign σ x)) (sp_A ad 459 sz)) 0 0 (sp_A ad 459 sz) := by
  refine Met.ofW (cc := cX6_readSign) (maxL := 2) (ret := none) (by decide) rfl ?_
  intro p e s m args below meth c s₁ B hml hv
  obtain ⟨rfl, hsz, hP, hK⟩ := hv
  have hx := B.exec
  have hb := B.bytes
  have hr := B.returns
  have hts := atoms_spec (ws := wsX6_readSign) B.pre
  have hown : s.vm.findClass RX6 = some m.cls := findClass_of_methodNamed B.named
  have hlocks := B.notSynchronized
  subst hsz
  have hS : va_S (sp_A ad 459 s.heap.size) s.heap s.heap [] := va_S.rf
  have hAk : ∀ k, k < 459 → (sp_A ad 459 s.heap.size) (ad k) := fun k hk => Or.inl ⟨k, hk, rfl⟩
  skip
  have hl := lv_entry ([.ref (ad (433)), .int (x)]) (n := 2) (Nat.le_of_ble_eq_true rfl)
  refine W.eq (lg_entry_eq _ ([.ref (ad (433)), .int (x)]) _) ?_
  generalize (lg_sl ([.ref (ad (433)), .int (x)]) ++ List.replicate (2 - (lg_sl ([.ref (ad (433)), .int (x)])).length) Slot.unset).toArray = ls at hl ⊢
  have hl : lv_has ls 2 [(0, .ref (ad (433))), (1, .int (x))] := hl
  refine lv_aload_n hx hb dX6_readSign_0 rfl (lv_at hl 0 rfl) ?_
  refine lv_aload_n hx hb dX6_readSign_1 rfl (lv_at hl 0 rfl) ?_
  refine sp_get hx hb hts wi_X6_readSign_X6 hown hK hP (κ := 433) (by decide) cE_script rfl 0 (by decide) (hts _ (List.mem_of_getElem? (i := 1) rfl)) (fun _ h => h) rfl dX6_readSign_2 ?_
  refine lv_aload_n hx hb dX6_readSign_5 rfl (lv_at hl 0 rfl) ?_
  refine sp_get hx hb hts wi_X6_readSign_X6 hown hK hP (κ := 433) (by decide) cE_script rfl 3 (by decide) (hts _ (List.mem_of_getElem? (i := 2) rfl)) (fun _ h => h) rfl dX6_readSign_6 ?_
  refine sp_call (W.runV (As := [.int (σ 433 3)]) (rest := [.ref (ad (433))]) ⟨hx, hb, hml, hown, hts⟩ (c_X7_signAt_434 l D ad cy pm rj σ (σ 433 3)) (cwV 1 hts gX6_readSign_X7_signAt rfl rfl rfl (by decide +kernel) ⟨Nat.le_of_ble_eq_true rfl, Nat.le_of_ble_eq_true rfl⟩) (sp_preV hK hP (κ := 434) (by decide) cE_in rfl) rfl rfl hl.1 rfl (lv_room (Nat.le_of_ble_eq_true rfl)) dX6_readSign_9 ⟨Nat.le_of_ble_eq_true rfl, Nat.le_of_ble_eq_true rfl⟩) ?_
  refine W.eq (g2 := F0 m 12 ls [.int (f_signI σ (σ 433 3)), .ref (ad (433))]) rfl ?_
  refine lv_iload_n hx hb dX6_readSign_12 rfl (lv_at hl 1 rfl) ?_
  refine lv_icmp_eq (tgt := 20) hx hb dX6_readSign_13 (by decide) (fun c_1 => ?_) (fun c_1 => ?_)
  · skip
    refine lv_iconst (v := 0) hx hb dX6_readSign_20 (by decide) ?_
    refine sp_put hx hb hts wi_X6_readSign_X6 tyX6 tyX6_ok nmX6 hown hK hP hi hAk hS (κ := 433) (by decide) cE_script rfl 4 (by decide) (hts _ (List.mem_of_getElem? (i := 3) rfl)) (fun _ h => h) rfl (ty := tyX6 4) (by decide +kernel) (nz_of (show bz 0 = 0 by decide)) (Nat.le_of_ble_eq_true rfl) (r1 := upd (σ 433) 4 0) (cE_of cE_script (by simp [upd, (show bz 0 = 0 by decide)])) dX6_readSign_21 (fun H locs hP hS => ?_)
    have hP : va_P D vwCl (cW ad cy pm rj (sp_st σ 433 4 0)) H := hP
    refine lv_aload_n hx hb dX6_readSign_24 rfl (lv_at hl 0 rfl) ?_
    refine lv_dup hx hb dX6_readSign_25 rfl ?_
    refine sp_get hx hb hts wi_X6_readSign_X6 hown hK hP (κ := 433) (by decide) cE_script rfl 3 (by decide) (hts _ (List.mem_of_getElem? (i := 2) rfl)) (fun _ h => h) rfl dX6_readSign_26 ?_
    refine W.eq (g2 := F0 m 29 ls [.int (σ 433 3), .ref (ad (433))]) (by rw [sp_st_j _ _ _ _ _ _ (by decide)]) ?_
    refine lv_aload_n hx hb dX6_readSign_29 rfl (lv_at hl 0 rfl) ?_
    refine sp_get hx hb hts wi_X6_readSign_X6 hown hK hP (κ := 433) (by decide) cE_script rfl 4 (by decide) (hts _ (List.mem_of_getElem? (i := 3) rfl)) (fun _ h => h) rfl dX6_readSign_30 ?_
    refine W.eq (g2 := F0 m 33 ls [.int (0), .int (σ 433 3), .ref (ad (433))]) (by rw [sp_st_s, (show bz 0 = 0 by decide)]) ?_
    refine lv_if_eq (tgt := 40) hx hb dX6_readSign_33 (by decide) (fun c_2 => ?_) (fun c_2 => ?_)
    · skip
      refine lv_iconst (v := 1) hx hb dX6_readSign_40 (by decide) ?_
      refine lv_iadd hx hb dX6_readSign_41 ?_
      refine sp_put hx hb hts wi_X6_readSign_X6 tyX6 tyX6_ok nmX6 hown hK hP hi hAk hS (κ := 433) (by decide) cE_script rfl 3 (by decide) (hts _ (List.mem_of_getElem? (i := 2) rfl)) (fun _ h => h) rfl (ty := tyX6 3) (by decide +kernel) ⟨rfl, rfl⟩ (Nat.le_of_ble_eq_true rfl) (r1 := upd ((sp_st σ 433 4 0) 433) 3 ((σ 433 3) + 1)) (cE_of cE_script (by simp [upd])) dX6_readSign_42 (fun H locs hP hS => ?_)
      have hP : va_P D vwCl (cW ad cy pm rj (sp_st (sp_st σ 433 4 0) 433 3 ((σ 433 3) + 1))) H := hP
      have hE9 : cW ad cy (pm) (rj) (sp_st (sp_st σ 433 4 0) 433 3 ((σ 433 3) + 1)) = cW ad cy (pm) (rj) (f_rdSign σ x) := by exact cW_eq rfl (by simp only [f_rdSign]; simp [b2i, c_1])
      have hP : va_P D vwCl (cW ad cy (pm) (rj) (f_rdSign σ x)) H := by rw [← hE9]; exact hP
      exact W.vret hx hb hr (fun T9 hT9 _ => ⟨rfl, by rw [hT9]; exact hP, hS.F hT9⟩) hS.2.2 dX6_readSign_45
    · exact absurd c_2 (by decide)
  · skip
    refine lv_iconst (v := 1) hx hb dX6_readSign_16 (by decide) ?_
    refine lv_goto (tgt := 21) hx hb dX6_readSign_17 (by decide) ?_
    refine sp_put hx hb hts wi_X6_readSign_X6 tyX6 tyX6_ok nmX6 hown hK hP hi hAk hS (κ := 433) (by decide) cE_script rfl 4 (by decide) (hts _ (List.mem_of_getElem? (i := 3) rfl)) (fun _ h => h) rfl (ty := tyX6 4) (by decide +kernel) (nz_of (show bz 1 = 1 by decide)) (Nat.le_of_ble_eq_true rfl) (r1 := upd (σ 433) 4 1) (cE_of cE_script (by simp [upd, (show bz 1 = 1 by decide)])) dX6_readSign_21 (fun H locs hP hS => ?_)
    have hP : va_P D vwCl (cW ad cy pm rj (sp_st σ 433 4 1)) H := hP
    refine lv_aload_n hx hb dX6_readSign_24 rfl (lv_at hl 0 rfl) ?_
    refine lv_dup hx hb dX6_readSign_25 rfl ?_
    refine sp_get hx hb hts wi_X6_readSign_X6 hown hK hP (κ := 433) (by decide) cE_script rfl 3 (by decide) (hts _ (List.mem_of_getElem? (i := 2) rfl)) (fun _ h => h) rfl dX6_readSign_26 ?_
    refine W.eq (g2 := F0 m 29 ls [.int (σ 433 3), .ref (ad (433))]) (by rw [sp_st_j _ _ _ _ _ _ (by decide)]) ?_
    refine lv_aload_n hx hb dX6_readSign_29 rfl (lv_at hl 0 rfl) ?_
    refine sp_get hx hb hts wi_X6_readSign_X6 hown hK hP (κ := 433) (by decide) cE_script rfl 4 (by decide) (hts _ (List.mem_of_getElem? (i := 3) rfl)) (fun _ h => h) rfl dX6_readSign_30 ?_
    refine W.eq (g2 := F0 m 33 ls [.int (1), .int (σ 433 3), .ref (ad (433))]) (by rw [sp_st_s, (show bz 1 = 1 by decide)]) ?_
    refine lv_if_eq (tgt := 40) hx hb dX6_readSign_33 (by decide) (fun c_3 => ?_) (fun c_3 => ?_)
    · exact absurd c_3 (by decide)
    · skip
      refine lv_iconst (v := 0) hx hb dX6_readSign_36 (by decide) ?_
      refine lv_goto (tgt := 41) hx hb dX6_readSign_37 (by decide) ?_
      refine lv_iadd hx hb dX6_readSign_41 ?_
      refine sp_put hx hb hts wi_X6_readSign_X6 tyX6 tyX6_ok nmX6 hown hK hP hi hAk hS (κ := 433) (by decide) cE_script rfl 3 (by decide) (hts _ (List.mem_of_getElem? (i := 2) rfl)) (fun _ h => h) rfl (ty := tyX6 3) (by decide +kernel) ⟨rfl, rfl⟩ (Nat.le_of_ble_eq_true rfl) (r1 := upd ((sp_st σ 433 4 1) 433) 3 ((σ 433 3) + 0)) (cE_of cE_script (by simp [upd])) dX6_readSign_42 (fun H locs hP hS => ?_)
      have hP : va_P D vwCl (cW ad cy pm rj (sp_st (sp_st σ 433 4 1) 433 3 ((σ 433 3) + 0))) H := hP
      have hE9 : cW ad cy (pm) (rj) (sp_st (sp_st σ 433 4 1) 433 3 ((σ 433 3) + 0)) = cW ad cy (pm) (rj) (f_rdSign σ x) := by exact cW_eq rfl (by simp only [f_rdSign]; simp [b2i, c_1])
      have hP : va_P D vwCl (cW ad cy (pm) (rj) (f_rdSign σ x)) H := by rw [← hE9]; exact hP
      exact W.vret hx hb hr (fun T9 hT9 _ => ⟨rfl, by rw [hT9]; exact hP, hS.F hT9⟩) hS.2.2 dX6_readSign_45

theorem wi_X6_readNumber_X6 : ∀ w ∈ wsX60, w ∈ wsX6_readNumber := by decide +kernel
set_option maxHeartbeats 4000000 in
set_option maxRecDepth 100000 in
theorem c_X6_readNumber (l : Launch) (D : va_G) (ad : Nat → Nat) (cy : Nat → ClassId) (pm : Nat → Nat) (rj : Option Nat) (σ : Nat → Nat → Int32) (sz : Nat) (hi : sp_inj ad 459) (z : Int32) (n0 : Nat) (hz : z = nI n0) (hn0 : n0 ≤ 3) : Met l yX6_readNumber wsX6_readNumber ({ frames := 2, cells := 0, slots := 0, locals := 42 } : Room) (sp_Pm D (tyG cy) sz [.ref (ad (433)), .int (z)] (cW ad cy pm rj σ)) (sp_Q D (some (.int (f_rdNumV σ n0))) (cW ad cy (pm) (rj) (f_rdNum σ n0)) (sp_A ad 459 sz)) 0 0 (sp_A ad 459 sz) := by
  refine Met.ofW (cc := cX6_readNumber) (maxL := 6) (ret := (some .int)) (by decide) rfl ?_
  intro p e s m args below meth c s₁ B hml hv
  obtain ⟨rfl, hsz, hP, hK⟩ := hv
  have hx := B.exec
  have hb := B.bytes
  have hr := B.returns
  have hts := atoms_spec (ws := wsX6_readNumber) B.pre
  have hown : s.vm.findClass RX6 = some m.cls := findClass_of_methodNamed B.named
  have hlocks := B.notSynchronized
  subst hsz
  have hS : va_S (sp_A ad 459 s.heap.size) s.heap s.heap [] := va_S.rf
  have hAk : ∀ k, k < 459 → (sp_A ad 459 s.heap.size) (ad k) := fun k hk => Or.inl ⟨k, hk, rfl⟩
  skip
  have hl := lv_entry ([.ref (ad (433)), .int (z)]) (n := 6) (Nat.le_of_ble_eq_true rfl)
  refine W.eq (lg_entry_eq _ ([.ref (ad (433)), .int (z)]) _) ?_
  generalize (lg_sl ([.ref (ad (433)), .int (z)]) ++ List.replicate (6 - (lg_sl ([.ref (ad (433)), .int (z)])).length) Slot.unset).toArray = ls at hl ⊢
  have hl : lv_has ls 6 [(0, .ref (ad (433))), (1, .int (z))] := hl
  refine lv_iconst (v := 0) hx hb dX6_readNumber_0 (by decide) ?_
  refine lv_istore_n (lv' := [(2, .int (0)), (0, .ref (ad (433))), (1, .int (z))]) hx hb dX6_readNumber_1 rfl hl (by decide) rfl (fun ls hl => ?_)
  refine lv_iconst (v := 0) hx hb dX6_readNumber_2 (by decide) ?_
  refine lv_istore_n (lv' := [(3, .int (0)), (2, .int (0)), (0, .ref (ad (433))), (1, .int (z))]) hx hb dX6_readNumber_3 rfl hl (by decide) rfl (fun ls hl => ?_)
  refine lv_iconst (v := 0) hx hb dX6_readNumber_4 (by decide) ?_
  refine lv_istore (lv' := [(4, .int (0)), (3, .int (0)), (2, .int (0)), (0, .ref (ad (433))), (1, .int (z))]) hx hb dX6_readNumber_5 hl (by decide) rfl (fun ls hl => ?_)
  have loop_7 : ∀ (n i : Nat) (x : Int32) (y : Int32) (a : Int32) (H : Heap) (locs : List Loc), (i ≤ n0) → (n0 - i < n) → ((x, y, a) = foldI (S_num σ) (0, 0, σ 433 3) i) → (va_P D vwCl (cW ad cy pm rj (sp_st σ 433 3 a)) H) → (va_S (sp_A ad 459 s.heap.size) s.heap H locs) → ∀ ls : Array Slot, lv_has ls 6 [(4, .int (nI i)), (3, .int (y)), (2, .int (x)), (0, .ref (ad (433))), (1, .int (z))] → W p l e (headSpec wsX6_readNumber ({ frames := 2, cells := 0, slots := 0, locals := 42 } : Room)).room s m ([.ref (ad (433)), .int (z)] : List Value).toArray below meth c H locs 0 0 (MQ below (sp_Q D (some (.int (f_rdNumV σ n0))) (cW ad cy (pm) (rj) (f_rdNum σ n0)) (sp_A ad 459 s.heap.size)) ([.ref (ad (433)), .int (z)] : List Value).toArray s 0 0 (sp_A ad 459 s.heap.size)) (F0 m 7 ls []) := by
    intro n
    induction n with
    | zero => intro i x y a H locs hle hlt hi_0 hP hS ls hl; exact absurd hlt (Nat.not_lt_zero _)
    | succ n ih =>
      intro i x y a H locs hle hlt hi_0 hP hS ls hl
      refine lv_iload hx hb dX6_readNumber_7 (lv_at hl 0 rfl) ?_
      refine lv_iload_n hx hb dX6_readNumber_9 rfl (lv_at hl 4 rfl) ?_
      refine lv_icmp_ge (tgt := 76) hx hb dX6_readNumber_10 (by decide) (fun c_1 => ?_) (fun c_1 => ?_)
      · skip
        have c_1d := Int32.not_lt.mpr c_1
        rw [hz] at c_1
        have hx_i : i = n0 := by have := (nI_leI (a := n0) (b := i) (by omega) (by omega)).mp c_1; omega
        try rw [hx_i] at hi_0
        refine lv_aload_n hx hb dX6_readNumber_76 rfl (lv_at hl 3 rfl) ?_
        refine lv_iload_n hx hb dX6_readNumber_77 rfl (lv_at hl 1 rfl) ?_
        refine lv_if_ne (tgt := 85) hx hb dX6_readNumber_78 (by decide) (fun c_2 => ?_) (fun c_2 => ?_)
        · skip
          refine lv_iconst (v := 0) hx hb dX6_readNumber_85 (by decide) ?_
          refine sp_put hx hb hts wi_X6_readNumber_X6 tyX6 tyX6_ok nmX6 hown hK hP hi hAk hS (κ := 433) (by decide) cE_script rfl 4 (by decide) (hts _ (List.mem_of_getElem? (i := 3) rfl)) (fun _ h => h) rfl (ty := tyX6 4) (by decide +kernel) (nz_of (show bz 0 = 0 by decide)) (Nat.le_of_ble_eq_true rfl) (r1 := upd ((sp_st σ 433 3 a) 433) 4 0) (cE_of cE_script (by simp [upd, (show bz 0 = 0 by decide)])) dX6_readNumber_86 (fun H locs hP hS => ?_)
          have hP : va_P D vwCl (cW ad cy pm rj (sp_st (sp_st σ 433 3 a) 433 4 0)) H := hP
          refine lv_iload_n hx hb dX6_readNumber_89 rfl (lv_at hl 2 rfl) ?_
          have hE9 : cW ad cy (pm) (rj) (sp_st (sp_st σ 433 3 a) 433 4 0) = cW ad cy (pm) (rj) (f_rdNum σ n0) := by exact cW_eq rfl (by unfold f_rdNum; rw [← hi_0]; simp [b2i, b2i, c_2])
          have hP : va_P D vwCl (cW ad cy (pm) (rj) (f_rdNum σ n0)) H := by rw [← hE9]; exact hP
          exact W.iret (v := x) hx hb hr (fun T9 hT9 _ => ⟨congrArg (fun z9 => Outcome.returned (some (Value.int z9))) (show (x : Int32) = f_rdNumV σ n0 from (by unfold f_rdNumV; rw [← hi_0])), by rw [hT9]; exact hP, hS.F hT9⟩) hS.2.2 dX6_readNumber_90
        · skip
          refine lv_iconst (v := 1) hx hb dX6_readNumber_81 (by decide) ?_
          refine lv_goto (tgt := 86) hx hb dX6_readNumber_82 (by decide) ?_
          refine sp_put hx hb hts wi_X6_readNumber_X6 tyX6 tyX6_ok nmX6 hown hK hP hi hAk hS (κ := 433) (by decide) cE_script rfl 4 (by decide) (hts _ (List.mem_of_getElem? (i := 3) rfl)) (fun _ h => h) rfl (ty := tyX6 4) (by decide +kernel) (nz_of (show bz 1 = 1 by decide)) (Nat.le_of_ble_eq_true rfl) (r1 := upd ((sp_st σ 433 3 a) 433) 4 1) (cE_of cE_script (by simp [upd, (show bz 1 = 1 by decide)])) dX6_readNumber_86 (fun H locs hP hS => ?_)
          have hP : va_P D vwCl (cW ad cy pm rj (sp_st (sp_st σ 433 3 a) 433 4 1)) H := hP
          refine lv_iload_n hx hb dX6_readNumber_89 rfl (lv_at hl 2 rfl) ?_
          have hE9 : cW ad cy (pm) (rj) (sp_st (sp_st σ 433 3 a) 433 4 1) = cW ad cy (pm) (rj) (f_rdNum σ n0) := by exact cW_eq rfl (by unfold f_rdNum; rw [← hi_0]; simp [b2i, b2i, c_2])
          have hP : va_P D vwCl (cW ad cy (pm) (rj) (f_rdNum σ n0)) H := by rw [← hE9]; exact hP
          exact W.iret (v := x) hx hb hr (fun T9 hT9 _ => ⟨congrArg (fun z9 => Outcome.returned (some (Value.int z9))) (show (x : Int32) = f_rdNumV σ n0 from (by unfold f_rdNumV; rw [← hi_0])), by rw [hT9]; exact hP, hS.F hT9⟩) hS.2.2 dX6_readNumber_90
      · skip
        have c_1d := Int32.not_le.mp c_1
        rw [hz] at c_1
        have hb_i : i < n0 := Nat.lt_of_not_le (fun z => c_1 (nI_le z (by omega)))
        refine lv_aload_n hx hb dX6_readNumber_13 rfl (lv_at hl 3 rfl) ?_
        refine sp_get hx hb hts wi_X6_readNumber_X6 hown hK hP (κ := 433) (by decide) cE_script rfl 0 (by decide) (hts _ (List.mem_of_getElem? (i := 1) rfl)) (fun _ h => h) rfl dX6_readNumber_14 ?_
        refine lv_aload_n hx hb dX6_readNumber_17 rfl (lv_at hl 3 rfl) ?_
        refine sp_get hx hb hts wi_X6_readNumber_X6 hown hK hP (κ := 433) (by decide) cE_script rfl 3 (by decide) (hts _ (List.mem_of_getElem? (i := 2) rfl)) (fun _ h => h) rfl dX6_readNumber_18 ?_
        refine W.eq (g2 := F0 m 21 ls [.int (a), .ref (ad (434))]) (by rw [sp_st_s]) ?_
        refine sp_call (W.runV (As := [.int (a)]) (rest := []) ⟨hx, hb, hml, hown, hts⟩ (c_X7_signAt_434 l D ad cy pm rj (sp_st σ 433 3 a) a) (cwV 1 hts gX6_readNumber_X7_signAt rfl rfl rfl (by decide +kernel) ⟨Nat.le_of_ble_eq_true rfl, Nat.le_of_ble_eq_true rfl⟩) (sp_preV hK hP (κ := 434) (by decide) cE_in rfl) rfl rfl hl.1 rfl (lv_room (Nat.le_of_ble_eq_true rfl)) dX6_readNumber_21 ⟨Nat.le_of_ble_eq_true rfl, Nat.le_of_ble_eq_true rfl⟩) ?_
        refine W.eq (g2 := F0 m 24 ls [.int (f_signI (sp_st σ 433 3 a) a)]) rfl ?_
        refine W.eq (g2 := F0 m 24 ls [.int (f_signI σ a)]) (by rw [f_signI_st]) ?_
        refine lv_istore (lv' := [(5, .int (f_signI σ a)), (4, .int (nI i)), (3, .int (y)), (2, .int (x)), (0, .ref (ad (433))), (1, .int (z))]) hx hb dX6_readNumber_24 hl (by decide) rfl (fun ls hl => ?_)
        refine lv_iload_n hx hb dX6_readNumber_26 rfl (lv_at hl 2 rfl) ?_
        refine lv_iload hx hb dX6_readNumber_27 (lv_at hl 1 rfl) ?_
        refine lv_icmp_ne (tgt := 70) hx hb dX6_readNumber_29 (by decide) (fun c_3 => ?_) (fun c_3 => ?_)
        · skip
          refine lv_iinc (v := nI (i + 1)) (lv' := [(4, .int (nI (i + 1))), (5, .int (f_signI σ a)), (3, .int (y)), (2, .int (x)), (0, .ref (ad (433))), (1, .int (z))]) hx hb dX6_readNumber_70 hl (k := 1) rfl (nI_1 _) (by decide) rfl (fun ls hl => ?_)
          refine lv_goto (tgt := 7) hx hb dX6_readNumber_73 (by decide) ?_
          exact ih (i + 1) x y a  _ _ (by omega) (by omega) (by rw [foldI_succ, ← hi_0]; simp [S_num, b2i, c_3]) hP hS ls (lv_sub hl [0, 2, 3, 4, 5] rfl)
        · skip
          refine lv_iload hx hb dX6_readNumber_32 (lv_at hl 0 rfl) ?_
          refine lv_bipush (v := 48) hx hb dX6_readNumber_34 (by decide) ?_
          refine lv_icmp_lt (tgt := 70) hx hb dX6_readNumber_36 (by decide) (fun c_4 => ?_) (fun c_4 => ?_)
          · skip
            have c_4d := Int32.not_le.mpr c_4
            refine lv_iinc (v := nI (i + 1)) (lv' := [(4, .int (nI (i + 1))), (5, .int (f_signI σ a)), (3, .int (y)), (2, .int (x)), (0, .ref (ad (433))), (1, .int (z))]) hx hb dX6_readNumber_70 hl (k := 1) rfl (nI_1 _) (by decide) rfl (fun ls hl => ?_)
            refine lv_goto (tgt := 7) hx hb dX6_readNumber_73 (by decide) ?_
            exact ih (i + 1) x y a  _ _ (by omega) (by omega) (by rw [foldI_succ, ← hi_0]; simp [S_num, b2i, c_3, c_4, c_4d]) hP hS ls (lv_sub hl [0, 2, 3, 4, 5] rfl)
          · skip
            have c_4d := Int32.not_lt.mp c_4
            refine lv_iload hx hb dX6_readNumber_39 (lv_at hl 0 rfl) ?_
            refine lv_bipush (v := 57) hx hb dX6_readNumber_41 (by decide) ?_
            refine lv_icmp_gt (tgt := 70) hx hb dX6_readNumber_43 (by decide) (fun c_5 => ?_) (fun c_5 => ?_)
            · skip
              have c_5d := Int32.not_le.mpr c_5
              refine lv_iinc (v := nI (i + 1)) (lv' := [(4, .int (nI (i + 1))), (5, .int (f_signI σ a)), (3, .int (y)), (2, .int (x)), (0, .ref (ad (433))), (1, .int (z))]) hx hb dX6_readNumber_70 hl (k := 1) rfl (nI_1 _) (by decide) rfl (fun ls hl => ?_)
              refine lv_goto (tgt := 7) hx hb dX6_readNumber_73 (by decide) ?_
              exact ih (i + 1) x y a  _ _ (by omega) (by omega) (by rw [foldI_succ, ← hi_0]; simp [S_num, b2i, c_3, c_4, c_4d, c_5, c_5d]) hP hS ls (lv_sub hl [0, 2, 3, 4, 5] rfl)
            · skip
              have c_5d := Int32.not_lt.mp c_5
              refine lv_bipush (v := 10) hx hb dX6_readNumber_46 (by decide) ?_
              refine lv_iload_n hx hb dX6_readNumber_48 rfl (lv_at hl 3 rfl) ?_
              refine lv_imul hx hb dX6_readNumber_49 ?_
              refine lv_iload hx hb dX6_readNumber_50 (lv_at hl 0 rfl) ?_
              refine lv_bipush (v := 48) hx hb dX6_readNumber_52 (by decide) ?_
              refine lv_isub hx hb dX6_readNumber_54 ?_
              refine lv_iadd hx hb dX6_readNumber_55 ?_
              refine lv_istore_n (lv' := [(2, .int ((10 * x) + ((f_signI σ a) - 48))), (5, .int (f_signI σ a)), (4, .int (nI i)), (3, .int (y)), (0, .ref (ad (433))), (1, .int (z))]) hx hb dX6_readNumber_56 rfl hl (by decide) rfl (fun ls hl => ?_)
              refine lv_iinc (v := y + 1) (lv' := [(3, .int (y + 1)), (2, .int ((10 * x) + ((f_signI σ a) - 48))), (5, .int (f_signI σ a)), (4, .int (nI i)), (0, .ref (ad (433))), (1, .int (z))]) hx hb dX6_readNumber_57 hl (k := 3) rfl rfl (by decide) rfl (fun ls hl => ?_)
              refine lv_aload_n hx hb dX6_readNumber_60 rfl (lv_at hl 4 rfl) ?_
              refine lv_dup hx hb dX6_readNumber_61 rfl ?_
              refine sp_get hx hb hts wi_X6_readNumber_X6 hown hK hP (κ := 433) (by decide) cE_script rfl 3 (by decide) (hts _ (List.mem_of_getElem? (i := 2) rfl)) (fun _ h => h) rfl dX6_readNumber_62 ?_
              refine W.eq (g2 := F0 m 65 ls [.int (a), .ref (ad (433))]) (by rw [sp_st_s]) ?_
              refine lv_iconst (v := 1) hx hb dX6_readNumber_65 (by decide) ?_
              refine lv_iadd hx hb dX6_readNumber_66 ?_
              refine sp_put hx hb hts wi_X6_readNumber_X6 tyX6 tyX6_ok nmX6 hown hK hP hi hAk hS (κ := 433) (by decide) cE_script rfl 3 (by decide) (hts _ (List.mem_of_getElem? (i := 2) rfl)) (fun _ h => h) rfl (ty := tyX6 3) (by decide +kernel) ⟨rfl, rfl⟩ (Nat.le_of_ble_eq_true rfl) (r1 := upd ((sp_st σ 433 3 a) 433) 3 (a + 1)) (cE_of cE_script (by simp [upd])) dX6_readNumber_67 (fun H locs hP hS => ?_)
              have hP : va_P D vwCl (cW ad cy pm rj (sp_st (sp_st σ 433 3 a) 433 3 (a + 1))) H := hP
              refine lv_iinc (v := nI (i + 1)) (lv' := [(4, .int (nI (i + 1))), (3, .int (y + 1)), (2, .int ((10 * x) + ((f_signI σ a) - 48))), (5, .int (f_signI σ a)), (0, .ref (ad (433))), (1, .int (z))]) hx hb dX6_readNumber_70 hl (k := 3) rfl (nI_1 _) (by decide) rfl (fun ls hl => ?_)
              refine lv_goto (tgt := 7) hx hb dX6_readNumber_73 (by decide) ?_
              exact ih (i + 1) ((10 * x) + ((f_signI σ a) - 48)) (y + 1) (a + 1)  _ _ (by omega) (by omega) (by rw [foldI_succ, ← hi_0]; simp [S_num, b2i, c_3, c_4, c_4d, c_5, c_5d]) ((show cW ad cy pm rj (sp_st (sp_st σ 433 3 a) 433 3 (a + 1)) = cW ad cy pm rj (sp_st σ 433 3 (a + 1)) from (by refine cW_eq rfl ?_; exact sp_st_st _ _ _ _ _)) ▸ hP) hS ls (lv_sub hl [0, 1, 2, 4, 5] rfl)
  exact loop_7 (n0 + 1) (0) (0) (0) (σ 433 3)  _ _ (by omega) (by omega) (rfl) ((show cW ad cy pm rj (σ) = cW ad cy pm rj (sp_st σ 433 3 (σ 433 3)) from (by refine cW_eq rfl ?_; exact (sp_st_self σ 433 3).symm)) ▸ hP) hS ls (lv_sub hl [0, 1, 2, 3, 4] rfl)

