
/-! the model: its numbers by place -/
theorem nI_addE {x y : Int32} {a b : Nat} (h1 : x = nI a) (h2 : y = nI b) : x + y = nI (a + b) := by rw [h1, h2]; exact (Int32.ofNat_add a b).symm
theorem nI_mulE {x y : Int32} {a b : Nat} (h1 : x = nI a) (h2 : y = nI b) : x * y = nI (a * b) := by rw [h1, h2]; exact (Int32.ofNat_mul a b).symm
theorem nI_subE {x y : Int32} {a b : Nat} (h1 : x = nI a) (h2 : y = nI b) (h : b ≤ a) : x - y = nI (a - b) := by
  rw [h1, h2, show a = (a - b) + b by omega, ← show nI (a - b) + nI b = nI (a - b + b) from nI_addE rfl rfl]
  simp
theorem nI_nm1 {j : Nat} (h : j < 2 ^ 31) : ¬ nI j = -1 := fun z => by
  have h1 := nI_pos h
  rw [z] at h1
  exact h1 (by decide)
def posI (x : Option Nat) : Int32 := match x with
  | none => -1
  | some k => nI k
def gP (μ : Nat → Int32) (a w : Nat) : Int32 := μ (19 + 9 * a + w)
def gT (μ : Nat → Int32) (k : Nat) : Int32 := μ (7 + 2 * k)
def gS (μ : Nat → Int32) (k : Nat) : Int32 := μ (7 + 2 * k + 1)
/-- n prints, t tracks -/
def MS (μ : Nat → Int32) (n t : Nat) : Prop := μ 1 = nI n ∧ n ≤ 30 ∧ μ 0 = nI t ∧ t ≤ 6
theorem st0_1 (μ : Nat → Nat → Int32) (j : Nat) (v : Int32) : sp_st μ 0 j v 1 = μ 1 := by funext a; exact sp_st_k _ _ _ _ _ _ (by decide)
theorem MS.st0 {μ : Nat → Nat → Int32} {n t j : Nat} {v : Int32} (h : MS (μ 1) n t) : MS (sp_st μ 0 j v 1) n t := by rw [st0_1]; exact h
theorem MS.st {μ : Nat → Nat → Int32} {n t j : Nat} {v : Int32} (h : MS (μ 1) n t) (hj : 2 ≤ j) : MS (sp_st μ 1 j v 1) n t := by
  unfold MS; rw [sp_st_j _ _ _ _ _ _ (by omega), sp_st_j _ _ _ _ _ _ (by omega)]; exact h
def m_in (x a1 b1 : Int32) : Bool := decide (a1 ≤ x) && decide (x ≤ b1)
def m_isCell (r c1 : Int32) : Bool := m_in r 0 9 && m_in c1 0 19
def m_size (x : Int32) : Int32 := if x < 0 then -x else x
def mP_find (μ : Nat → Int32) (x : Int32) (k : Nat) : Bool := gP μ k 0 == x
def m_find (μ : Nat → Int32) (n : Nat) (x : Int32) : Option Nat := fstI (mP_find μ x) n
theorem m_find_lt {μ : Nat → Int32} {n : Nat} {x : Int32} {j : Nat} (h : m_find μ n x = some j) : j < n := (fstI_some h).1
def mP_ft (μ : Nat → Int32) (x : Int32) (k : Nat) : Bool := gT μ k == x
def m_ft (μ : Nat → Int32) (t : Nat) (x : Int32) : Option Nat := fstI (mP_ft μ x) t
theorem m_ft_lt {μ : Nat → Int32} {t : Nat} {x : Int32} {j : Nat} (h : m_ft μ t x = some j) : j < t := (fstI_some h).1
def mP_cell (μ : Nat → Int32) (r c1 : Int32) (k : Nat) : Bool := gP μ k 3 == r && gP μ k 4 == c1
def m_cell (μ : Nat → Int32) (n : Nat) (r c1 : Int32) : Option Nat := fstI (mP_cell μ r c1) n
theorem m_cell_lt {μ : Nat → Int32} {n : Nat} {r c1 : Int32} {j : Nat} (h : m_cell μ n r c1 = some j) : j < n := (fstI_some h).1
def mP_time (μ : Nat → Int32) (x u : Int32) (k : Nat) : Bool := gP μ k 1 == x && gP μ k 2 == u
def m_time (μ : Nat → Int32) (n : Nat) (x u : Int32) : Option Nat := fstI (mP_time μ x u) n
theorem m_time_lt {μ : Nat → Int32} {n : Nat} {x u : Int32} {j : Nat} (h : m_time μ n x u = some j) : j < n := (fstI_some h).1
def S_bes (μ : Nat → Int32) (a : Nat) (nx : Bool) (x : Option Nat) (k : Nat) : Option Nat :=
  if gP μ k 1 = gP μ a 1 ∧ 0 < (if nx = true then gP μ k 2 - gP μ a 2 else gP μ a 2 - gP μ k 2) ∧ (if nx = true then gP μ k 2 - gP μ a 2 else gP μ a 2 - gP μ k 2) < (match x with
    | none => (if nx = true then gP μ k 2 - gP μ a 2 else gP μ a 2 - gP μ k 2) + 1
    | some f => if nx = true then gP μ f 2 - gP μ a 2 else gP μ a 2 - gP μ f 2) then some k else x
theorem S_bes_or (μ : Nat → Int32) (a : Nat) (nx : Bool) : ∀ x i, S_bes μ a nx x i = x ∨ S_bes μ a nx x i = some i := fun x i => by
  unfold S_bes; exact (Decidable.em _).elim (fun h => Or.inr (if_pos h)) (fun h => Or.inl (if_neg h))
def m_bes (μ : Nat → Int32) (n a : Nat) (nx : Bool) : Option Nat := foldI (S_bes μ a nx) none n
theorem m_bes_lt {μ : Nat → Int32} {n a : Nat} {nx : Bool} {j : Nat} (h : m_bes μ n a nx = some j) : j < n := foldI_lt (S_bes_or μ a nx) h
def m_dist (μ : Nat → Int32) (a : Nat) (r c1 : Int32) : Int32 := m_size (gP μ a 3 - r) + m_size (gP μ a 4 - c1)
def m_stride (μ : Nat → Int32) (n a : Nat) : Int32 := match m_bes μ n a false with
  | none => 0
  | some j => m_dist μ j (gP μ a 3) (gP μ a 4)
def m_lim (μ : Nat → Int32) (t a : Nat) : Int32 := match m_ft μ t (gP μ a 1) with
  | none => μ 6
  | some k => gS μ k
def m_err (μ : Nat → Int32) (n t a : Nat) (z : Int32) : Bool := match m_bes μ n a false with
  | none => false
  | some j => if z = 0 then decide (m_lim μ t a < m_stride μ n a) else if z = 1 then gP μ a 5 == gP μ j 5 else decide (3 < m_size (gP μ a 6 - gP μ j 6))
def m_errs1 (μ : Nat → Int32) (n t a : Nat) : Int32 := b2i (m_err μ n t a 0) + b2i (m_err μ n t a 1) + b2i (m_err μ n t a 2)
def mF_cnt (μ : Nat → Int32) (x : Int32) (k : Nat) : Int32 := b2i (gP μ k 1 == x)
def m_count (μ : Nat → Int32) (n : Nat) (x : Int32) : Int32 := sumI (mF_cnt μ x) n
def mF_errs (μ : Nat → Int32) (n t : Nat) (x : Int32) (k : Nat) : Int32 := if gP μ k 1 = x then m_errs1 μ n t k else 0
def m_errs (μ : Nat → Int32) (n t : Nat) (x : Int32) : Int32 := sumI (mF_errs μ n t x) n
def mF_len (μ : Nat → Int32) (n : Nat) (x : Int32) (k : Nat) : Int32 := if gP μ k 1 = x then m_stride μ n k else 0
def m_len (μ : Nat → Int32) (n : Nat) (x : Int32) : Int32 := sumI (mF_len μ n x) n
def mF_below (μ : Nat → Int32) (v : Int32) (k : Nat) : Int32 := b2i (decide (gP μ k 3 < v))
def m_below (μ : Nat → Int32) (n : Nat) (v : Int32) : Int32 := sumI (mF_below μ v) n
def mF_later (μ : Nat → Int32) (x u : Int32) (k : Nat) : Int32 := b2i (gP μ k 1 == x && decide (u < gP μ k 2))
def m_later (μ : Nat → Int32) (n : Nat) (x u : Int32) : Bool := decide (0 < sumI (mF_later μ x u) n)
def mF_ah (μ : Nat → Int32) (x : Int32) (k j : Nat) : Int32 := b2i (gP μ j 1 == x && decide (gP μ j 2 < gP μ k 2))
def mP_po (μ : Nat → Int32) (n : Nat) (x q : Int32) (k : Nat) : Bool := gP μ k 1 == x && sumI (mF_ah μ x k) n == q
def m_po (μ : Nat → Int32) (n : Nat) (x q : Int32) : Option Nat := fstI (mP_po μ n x q) n
theorem m_po_lt {μ : Nat → Int32} {n : Nat} {x q : Int32} {j : Nat} (h : m_po μ n x q = some j) : j < n := (fstI_some h).1
def m_idAt (μ : Nat → Int32) (x : Option Nat) : Int32 := match x with
  | none => 0
  | some k => gP μ k 0
set_option maxHeartbeats 4000000 in
set_option maxRecDepth 100000 in
theorem c_X10_in (l : Launch) (D : va_G) (am : Nat → Nat) (cy : Nat → ClassId) (μ : Nat → Nat → Int32) (x : Int32) (a1 : Int32) (b1 : Int32) : Met l yX10_in wsX10_in ({ frames := 0, cells := 0, slots := 0, locals := 0 } : Room) (sp_Pc D (tyG cy) [.int (x), .int (a1), .int (b1)] (mW am cy μ)) (sp_S (some (.int (b2i (m_in x a1 b1))))) 0 0 (fun _ => False) := by
  refine Met.ofW (cc := cX10_in) (maxL := 3) (ret := (some .boolean)) (by decide) rfl ?_
  intro p e s m args below meth c s₁ B hml hv
  obtain ⟨rfl, hP, hK⟩ := hv
  have hx := B.exec
  have hb := B.bytes
  have hr := B.returns
  have hts := atoms_spec (ws := wsX10_in) B.pre
  have hown : s.vm.findClass RX10 = some m.cls := findClass_of_methodNamed B.named
  have hlocks := B.notSynchronized
  have hl := lv_entry ([.int (x), .int (a1), .int (b1)]) (n := 3) (Nat.le_of_ble_eq_true rfl)
  refine W.eq (lg_entry_eq _ ([.int (x), .int (a1), .int (b1)]) _) ?_
  generalize (lg_sl ([.int (x), .int (a1), .int (b1)]) ++ List.replicate (3 - (lg_sl ([.int (x), .int (a1), .int (b1)])).length) Slot.unset).toArray = ls at hl ⊢
  have hl : lv_has ls 3 [(0, .int (x)), (1, .int (a1)), (2, .int (b1))] := hl
  refine lv_iload_n hx hb dX10_in_0 rfl (lv_at hl 0 rfl) ?_
  refine lv_iload_n hx hb dX10_in_1 rfl (lv_at hl 1 rfl) ?_
  refine lv_icmp_lt (tgt := 14) hx hb dX10_in_2 (by decide) (fun c_1 => ?_) (fun c_1 => ?_)
  · skip
    have c_1d := Int32.not_le.mpr c_1
    refine lv_iconst (v := 0) hx hb dX10_in_14 (by decide) ?_
    exact W.zret (v := 0) hx hb hr (by decide) (fun T9 hT9 _ => ⟨congrArg (fun z9 => Outcome.returned (some (Value.int z9))) (show (0 : Int32) = b2i (m_in x a1 b1) from (by first | rfl | (simp [m_in, b2i, c_1, c_1d]; done))), hT9⟩) (fun _ h => by cases h) dX10_in_15
  · skip
    have c_1d := Int32.not_lt.mp c_1
    refine lv_iload_n hx hb dX10_in_5 rfl (lv_at hl 0 rfl) ?_
    refine lv_iload_n hx hb dX10_in_6 rfl (lv_at hl 2 rfl) ?_
    refine lv_icmp_gt (tgt := 14) hx hb dX10_in_7 (by decide) (fun c_2 => ?_) (fun c_2 => ?_)
    · skip
      have c_2d := Int32.not_le.mpr c_2
      refine lv_iconst (v := 0) hx hb dX10_in_14 (by decide) ?_
      exact W.zret (v := 0) hx hb hr (by decide) (fun T9 hT9 _ => ⟨congrArg (fun z9 => Outcome.returned (some (Value.int z9))) (show (0 : Int32) = b2i (m_in x a1 b1) from (by first | rfl | (simp [m_in, b2i, c_1, c_1d, c_2, c_2d]; done))), hT9⟩) (fun _ h => by cases h) dX10_in_15
    · skip
      have c_2d := Int32.not_lt.mp c_2
      refine lv_iconst (v := 1) hx hb dX10_in_10 (by decide) ?_
      refine lv_goto (tgt := 15) hx hb dX10_in_11 (by decide) ?_
      exact W.zret (v := 1) hx hb hr (by decide) (fun T9 hT9 _ => ⟨congrArg (fun z9 => Outcome.returned (some (Value.int z9))) (show (1 : Int32) = b2i (m_in x a1 b1) from (by first | rfl | (simp [m_in, b2i, c_1, c_1d, c_2, c_2d]; done))), hT9⟩) (fun _ h => by cases h) dX10_in_15

set_option maxHeartbeats 4000000 in
set_option maxRecDepth 100000 in
theorem c_X10_isCell (l : Launch) (D : va_G) (am : Nat → Nat) (cy : Nat → ClassId) (μ : Nat → Nat → Int32) (r : Int32) (c1 : Int32) : Met l yX10_isCell wsX10_isCell ({ frames := 1, cells := 0, slots := 0, locals := 22 } : Room) (sp_Pc D (tyG cy) [.int (r), .int (c1)] (mW am cy μ)) (sp_S (some (.int (b2i (m_isCell r c1))))) 0 0 (fun _ => False) := by
  refine Met.ofW (cc := cX10_isCell) (maxL := 2) (ret := (some .boolean)) (by decide) rfl ?_
  intro p e s m args below meth c s₁ B hml hv
  obtain ⟨rfl, hP, hK⟩ := hv
  have hx := B.exec
  have hb := B.bytes
  have hr := B.returns
  have hts := atoms_spec (ws := wsX10_isCell) B.pre
  have hown : s.vm.findClass RX10 = some m.cls := findClass_of_methodNamed B.named
  have hlocks := B.notSynchronized
  have hl := lv_entry ([.int (r), .int (c1)]) (n := 2) (Nat.le_of_ble_eq_true rfl)
  refine W.eq (lg_entry_eq _ ([.int (r), .int (c1)]) _) ?_
  generalize (lg_sl ([.int (r), .int (c1)]) ++ List.replicate (2 - (lg_sl ([.int (r), .int (c1)])).length) Slot.unset).toArray = ls at hl ⊢
  have hl : lv_has ls 2 [(0, .int (r)), (1, .int (c1))] := hl
  refine lv_iload_n hx hb dX10_isCell_0 rfl (lv_at hl 0 rfl) ?_
  refine lv_iconst (v := 0) hx hb dX10_isCell_1 (by decide) ?_
  refine lv_bipush (v := 9) hx hb dX10_isCell_2 (by decide) ?_
  refine sp_call (W.runS (As := [.int (r), .int (0), .int (9)]) (rest := []) ⟨hx, hb, hml, hown, hts⟩ (c_X10_in l D am cy μ r 0 9) (va_cwS 3 hts gX10_isCell_X10_in rfl rfl rfl (by decide +kernel) ⟨Nat.le_of_ble_eq_true rfl, Nat.le_of_ble_eq_true rfl⟩) (sp_preS hK hP) rfl rfl hl.1 rfl (lv_room (Nat.le_of_ble_eq_true rfl)) dX10_isCell_4 ⟨Nat.le_of_ble_eq_true rfl, Nat.le_of_ble_eq_true rfl⟩) ?_
  refine W.eq (g2 := F0 m 7 ls [.int (b2i (m_in r 0 9))]) rfl ?_
  refine lv_if_eq (tgt := 24) hx hb dX10_isCell_7 (by decide) (fun c_1 => ?_) (fun c_1 => ?_)
  · rw [b2i_eq0] at c_1
    refine lv_iconst (v := 0) hx hb dX10_isCell_24 (by decide) ?_
    exact W.zret (v := 0) hx hb hr (by decide) (fun T9 hT9 _ => ⟨congrArg (fun z9 => Outcome.returned (some (Value.int z9))) (show (0 : Int32) = b2i (m_isCell r c1) from (by first | rfl | (simp [m_isCell, b2i, c_1]; done))), hT9⟩) (fun _ h => by cases h) dX10_isCell_25
  · rw [b2i_eq0] at c_1
    refine lv_iload_n hx hb dX10_isCell_10 rfl (lv_at hl 1 rfl) ?_
    refine lv_iconst (v := 0) hx hb dX10_isCell_11 (by decide) ?_
    refine lv_bipush (v := 19) hx hb dX10_isCell_12 (by decide) ?_
    refine sp_call (W.runS (As := [.int (c1), .int (0), .int (19)]) (rest := []) ⟨hx, hb, hml, hown, hts⟩ (c_X10_in l D am cy μ c1 0 19) (va_cwS 3 hts gX10_isCell_X10_in rfl rfl rfl (by decide +kernel) ⟨Nat.le_of_ble_eq_true rfl, Nat.le_of_ble_eq_true rfl⟩) (sp_preS hK hP) rfl rfl hl.1 rfl (lv_room (Nat.le_of_ble_eq_true rfl)) dX10_isCell_14 ⟨Nat.le_of_ble_eq_true rfl, Nat.le_of_ble_eq_true rfl⟩) ?_
    refine W.eq (g2 := F0 m 17 ls [.int (b2i (m_in c1 0 19))]) rfl ?_
    refine lv_if_eq (tgt := 24) hx hb dX10_isCell_17 (by decide) (fun c_2 => ?_) (fun c_2 => ?_)
    · rw [b2i_eq0] at c_2
      refine lv_iconst (v := 0) hx hb dX10_isCell_24 (by decide) ?_
      exact W.zret (v := 0) hx hb hr (by decide) (fun T9 hT9 _ => ⟨congrArg (fun z9 => Outcome.returned (some (Value.int z9))) (show (0 : Int32) = b2i (m_isCell r c1) from (by first | rfl | (simp [m_isCell, b2i, c_1, c_2]; done))), hT9⟩) (fun _ h => by cases h) dX10_isCell_25
    · rw [b2i_eq0] at c_2
      refine lv_iconst (v := 1) hx hb dX10_isCell_20 (by decide) ?_
      refine lv_goto (tgt := 25) hx hb dX10_isCell_21 (by decide) ?_
      exact W.zret (v := 1) hx hb hr (by decide) (fun T9 hT9 _ => ⟨congrArg (fun z9 => Outcome.returned (some (Value.int z9))) (show (1 : Int32) = b2i (m_isCell r c1) from (by first | rfl | (simp [m_isCell, b2i, c_1, c_2]; done))), hT9⟩) (fun _ h => by cases h) dX10_isCell_25

set_option maxHeartbeats 4000000 in
set_option maxRecDepth 100000 in
theorem c_X10_size (l : Launch) (D : va_G) (am : Nat → Nat) (cy : Nat → ClassId) (μ : Nat → Nat → Int32) (x : Int32) : Met l yX10_size wsX10_size ({ frames := 0, cells := 0, slots := 0, locals := 0 } : Room) (sp_Pc D (tyG cy) [.int (x)] (mW am cy μ)) (sp_S (some (.int (m_size x)))) 0 0 (fun _ => False) := by
  refine Met.ofW (cc := cX10_size) (maxL := 1) (ret := (some .int)) (by decide) rfl ?_
  intro p e s m args below meth c s₁ B hml hv
  obtain ⟨rfl, hP, hK⟩ := hv
  have hx := B.exec
  have hb := B.bytes
  have hr := B.returns
  have hts := atoms_spec (ws := wsX10_size) B.pre
  have hown : s.vm.findClass RX10 = some m.cls := findClass_of_methodNamed B.named
  have hlocks := B.notSynchronized
  have hl := lv_entry ([.int (x)]) (n := 1) (Nat.le_of_ble_eq_true rfl)
  refine W.eq (lg_entry_eq _ ([.int (x)]) _) ?_
  generalize (lg_sl ([.int (x)]) ++ List.replicate (1 - (lg_sl ([.int (x)])).length) Slot.unset).toArray = ls at hl ⊢
  have hl : lv_has ls 1 [(0, .int (x))] := hl
  refine lv_iload_n hx hb dX10_size_0 rfl (lv_at hl 0 rfl) ?_
  refine lv_if_ge (tgt := 9) hx hb dX10_size_1 (by decide) (fun c_1 => ?_) (fun c_1 => ?_)
  · skip
    have c_1d := Int32.not_lt.mpr c_1
    refine lv_iload_n hx hb dX10_size_9 rfl (lv_at hl 0 rfl) ?_
    exact W.iret (v := x) hx hb hr (fun T9 hT9 _ => ⟨congrArg (fun z9 => Outcome.returned (some (Value.int z9))) (show (x : Int32) = m_size x from (by first | rfl | (simp [m_size, b2i, c_1, c_1d]; done))), hT9⟩) (fun _ h => by cases h) dX10_size_10
  · skip
    have c_1d := Int32.not_le.mp c_1
    refine lv_iload_n hx hb dX10_size_4 rfl (lv_at hl 0 rfl) ?_
    refine lv_ineg hx hb dX10_size_5 ?_
    refine lv_goto (tgt := 10) hx hb dX10_size_6 (by decide) ?_
    exact W.iret (v := -x) hx hb hr (fun T9 hT9 _ => ⟨congrArg (fun z9 => Outcome.returned (some (Value.int z9))) (show (-x : Int32) = m_size x from (by first | rfl | (simp [m_size, b2i, c_1, c_1d]; done))), hT9⟩) (fun _ h => by cases h) dX10_size_10

theorem wi_X10_p_X10 : ∀ w ∈ wsX100, w ∈ wsX10_p := by decide +kernel
set_option maxHeartbeats 4000000 in
set_option maxRecDepth 100000 in
theorem c_X10_p (l : Launch) (D : va_G) (am : Nat → Nat) (cy : Nat → ClassId) (μ : Nat → Nat → Int32) (a : Nat) (ha : a < 30) (w : Nat) (hw : w < 9) : Met l yX10_p wsX10_p ({ frames := 0, cells := 0, slots := 0, locals := 0 } : Room) (sp_Pc D (tyG cy) [.ref (am (0)), .int (nI a), .int (nI w)] (mW am cy μ)) (sp_S (some (.int (gP (μ 1) a w)))) 0 0 (fun _ => False) := by
  refine Met.ofW (cc := cX10_p) (maxL := 3) (ret := (some .int)) (by decide) rfl ?_
  intro p e s m args below meth c s₁ B hml hv
  obtain ⟨rfl, hP, hK⟩ := hv
  have hx := B.exec
  have hb := B.bytes
  have hr := B.returns
  have hts := atoms_spec (ws := wsX10_p) B.pre
  have hown : s.vm.findClass RX10 = some m.cls := findClass_of_methodNamed B.named
  have hlocks := B.notSynchronized
  have hl := lv_entry ([.ref (am (0)), .int (nI a), .int (nI w)]) (n := 3) (Nat.le_of_ble_eq_true rfl)
  refine W.eq (lg_entry_eq _ ([.ref (am (0)), .int (nI a), .int (nI w)]) _) ?_
  generalize (lg_sl ([.ref (am (0)), .int (nI a), .int (nI w)]) ++ List.replicate (3 - (lg_sl ([.ref (am (0)), .int (nI a), .int (nI w)])).length) Slot.unset).toArray = ls at hl ⊢
  have hl : lv_has ls 3 [(0, .ref (am (0))), (1, .int (nI a)), (2, .int (nI w))] := hl
  refine lv_aload_n hx hb dX10_p_0 rfl (lv_at hl 0 rfl) ?_
  refine sp_get hx hb hts wi_X10_p_X10 hown hK hP (κ := 0) (by decide) mE_0 rfl 1 (by decide) (hts _ (List.mem_of_getElem? (i := 1) rfl)) (fun _ h => h) rfl dX10_p_1 ?_
  refine lv_bipush (v := 19) hx hb dX10_p_4 (by decide) ?_
  refine lv_bipush (v := 9) hx hb dX10_p_6 (by decide) ?_
  refine lv_iload_n hx hb dX10_p_8 rfl (lv_at hl 1 rfl) ?_
  refine lv_imul hx hb dX10_p_9 ?_
  refine lv_iadd hx hb dX10_p_10 ?_
  refine lv_iload_n hx hb dX10_p_11 rfl (lv_at hl 2 rfl) ?_
  refine lv_iadd hx hb dX10_p_12 ?_
  refine sp_iald hx hb hK hP (κ := 1) (by decide) 1 mE_1 rfl ((19 + (9 * a)) + w) (nI_addE (nI_addE rfl (nI_mulE rfl rfl)) rfl) (by omega) (by decide) dX10_p_13 ?_
  exact W.iret (v := μ 1 ((19 + (9 * a)) + w)) hx hb hr (fun T9 hT9 _ => ⟨congrArg (fun z9 => Outcome.returned (some (Value.int z9))) (show (μ 1 ((19 + (9 * a)) + w) : Int32) = gP (μ 1) a w from (by rfl)), hT9⟩) (fun _ h => by cases h) dX10_p_14

theorem wi_X10_set_X10 : ∀ w ∈ wsX100, w ∈ wsX10_set := by decide +kernel
set_option maxHeartbeats 4000000 in
set_option maxRecDepth 100000 in
theorem c_X10_set (l : Launch) (D : va_G) (am : Nat → Nat) (cy : Nat → ClassId) (μ : Nat → Nat → Int32) (sz : Nat) (hi : sp_inj am 5) (a : Nat) (ha : a < 30) (w : Nat) (hw : w < 9) (v : Int32) : Met l yX10_set wsX10_set ({ frames := 0, cells := 0, slots := 0, locals := 0 } : Room) (sp_Pm D (tyG cy) sz [.ref (am (0)), .int (nI a), .int (nI w), .int (v)] (mW am cy μ)) (sp_Q D (none) (mW am cy (sp_st μ 1 (19 + 9 * a + w) v)) (sp_A am 5 sz)) 0 0 (sp_A am 5 sz) := by
  refine Met.ofW (cc := cX10_set) (maxL := 4) (ret := none) (by decide) rfl ?_
  intro p e s m args below meth c s₁ B hml hv
  obtain ⟨rfl, hsz, hP, hK⟩ := hv
  have hx := B.exec
  have hb := B.bytes
  have hr := B.returns
  have hts := atoms_spec (ws := wsX10_set) B.pre
  have hown : s.vm.findClass RX10 = some m.cls := findClass_of_methodNamed B.named
  have hlocks := B.notSynchronized
  subst hsz
  have hS : va_S (sp_A am 5 s.heap.size) s.heap s.heap [] := va_S.rf
  have hAk : ∀ k, k < 5 → (sp_A am 5 s.heap.size) (am k) := fun k hk => Or.inl ⟨k, hk, rfl⟩
  skip
  have hl := lv_entry ([.ref (am (0)), .int (nI a), .int (nI w), .int (v)]) (n := 4) (Nat.le_of_ble_eq_true rfl)
  refine W.eq (lg_entry_eq _ ([.ref (am (0)), .int (nI a), .int (nI w), .int (v)]) _) ?_
  generalize (lg_sl ([.ref (am (0)), .int (nI a), .int (nI w), .int (v)]) ++ List.replicate (4 - (lg_sl ([.ref (am (0)), .int (nI a), .int (nI w), .int (v)])).length) Slot.unset).toArray = ls at hl ⊢
  have hl : lv_has ls 4 [(0, .ref (am (0))), (1, .int (nI a)), (2, .int (nI w)), (3, .int (v))] := hl
  refine lv_aload_n hx hb dX10_set_0 rfl (lv_at hl 0 rfl) ?_
  refine sp_get hx hb hts wi_X10_set_X10 hown hK hP (κ := 0) (by decide) mE_0 rfl 1 (by decide) (hts _ (List.mem_of_getElem? (i := 1) rfl)) (fun _ h => h) rfl dX10_set_1 ?_
  refine lv_bipush (v := 19) hx hb dX10_set_4 (by decide) ?_
  refine lv_bipush (v := 9) hx hb dX10_set_6 (by decide) ?_
  refine lv_iload_n hx hb dX10_set_8 rfl (lv_at hl 1 rfl) ?_
  refine lv_imul hx hb dX10_set_9 ?_
  refine lv_iadd hx hb dX10_set_10 ?_
  refine lv_iload_n hx hb dX10_set_11 rfl (lv_at hl 2 rfl) ?_
  refine lv_iadd hx hb dX10_set_12 ?_
  refine lv_iload_n hx hb dX10_set_13 rfl (lv_at hl 3 rfl) ?_
  refine sp_iast hx hb hK hP hi hAk hS (κ := 1) (by decide) 1 mE_1 rfl ((19 + (9 * a)) + w) (nI_addE (nI_addE rfl (nI_mulE rfl rfl)) rfl) (by omega) (by decide) (r1 := upd (μ 1) ((19 + (9 * a)) + w) v) mE_1 dX10_set_14 (fun H locs hP hS => ?_)
  have hP : va_P D vwCl (mW am cy (sp_st μ 1 ((19 + (9 * a)) + w) v)) H := hP
  have hE9 : mW am cy (sp_st μ 1 ((19 + (9 * a)) + w) v) = mW am cy (sp_st μ 1 (19 + 9 * a + w) v) := by rfl
  have hP : va_P D vwCl (mW am cy (sp_st μ 1 (19 + 9 * a + w) v)) H := by rw [← hE9]; exact hP
  exact W.vret hx hb hr (fun T9 hT9 _ => ⟨rfl, by rw [hT9]; exact hP, hS.F hT9⟩) hS.2.2 dX10_set_15

theorem wi_X10_find_X10 : ∀ w ∈ wsX100, w ∈ wsX10_find := by decide +kernel
set_option maxHeartbeats 4000000 in
set_option maxRecDepth 100000 in
theorem c_X10_find (l : Launch) (D : va_G) (am : Nat → Nat) (cy : Nat → ClassId) (μ : Nat → Nat → Int32) (n : Nat) (t : Nat) (hM : MS (μ 1) n t) (x : Int32) : Met l yX10_find wsX10_find ({ frames := 1, cells := 0, slots := 0, locals := 22 } : Room) (sp_Pc D (tyG cy) [.ref (am (0)), .int (x)] (mW am cy μ)) (sp_S (some (.int (posI (m_find (μ 1) n x))))) 0 0 (fun _ => False) := by
  refine Met.ofW (cc := cX10_find) (maxL := 3) (ret := (some .int)) (by decide) rfl ?_
  intro p e s m args below meth c s₁ B hml hv
  obtain ⟨rfl, hP, hK⟩ := hv
  have hx := B.exec
  have hb := B.bytes
  have hr := B.returns
  have hts := atoms_spec (ws := wsX10_find) B.pre
  have hown : s.vm.findClass RX10 = some m.cls := findClass_of_methodNamed B.named
  have hlocks := B.notSynchronized
  have hn30 := hM.2.1
  have ht6 := hM.2.2.2
  have hl := lv_entry ([.ref (am (0)), .int (x)]) (n := 3) (Nat.le_of_ble_eq_true rfl)
  refine W.eq (lg_entry_eq _ ([.ref (am (0)), .int (x)]) _) ?_
  generalize (lg_sl ([.ref (am (0)), .int (x)]) ++ List.replicate (3 - (lg_sl ([.ref (am (0)), .int (x)])).length) Slot.unset).toArray = ls at hl ⊢
  have hl : lv_has ls 3 [(0, .ref (am (0))), (1, .int (x))] := hl
  refine lv_iconst (v := 0) hx hb dX10_find_0 (by decide) ?_
  refine lv_istore_n (lv' := [(2, .int (0)), (0, .ref (am (0))), (1, .int (x))]) hx hb dX10_find_1 rfl hl (by decide) rfl (fun ls hl => ?_)
  have loop_2 : ∀ (fu i : Nat), (i ≤ n) → (n - i < fu) → (fstI (mP_find (μ 1) x) i = none) → ∀ ls : Array Slot, lv_has ls 3 [(2, .int (nI i)), (0, .ref (am (0))), (1, .int (x))] → W p l e (headSpec wsX10_find ({ frames := 1, cells := 0, slots := 0, locals := 22 } : Room)).room s m ([.ref (am (0)), .int (x)] : List Value).toArray below meth c s.heap [] 0 0 (MQ below (sp_S (some (.int (posI (m_find (μ 1) n x))))) ([.ref (am (0)), .int (x)] : List Value).toArray s 0 0 (fun _ => False)) (F0 m 2 ls []) := by
    intro fu
    induction fu with
    | zero => intro i hle hlt hi_0 ls hl; exact absurd hlt (Nat.not_lt_zero _)
    | succ fu ih =>
      intro i hle hlt hi_0 ls hl
      refine lv_iload_n hx hb dX10_find_2 rfl (lv_at hl 0 rfl) ?_
      refine lv_aload_n hx hb dX10_find_3 rfl (lv_at hl 1 rfl) ?_
      refine sp_get hx hb hts wi_X10_find_X10 hown hK hP (κ := 0) (by decide) mE_0 rfl 1 (by decide) (hts _ (List.mem_of_getElem? (i := 1) rfl)) (fun _ h => h) rfl dX10_find_4 ?_
      refine lv_iconst (v := 1) hx hb dX10_find_7 (by decide) ?_
      refine sp_iald hx hb hK hP (κ := 1) (by decide) 1 mE_1 rfl 1 rfl (by omega) (by decide) dX10_find_8 ?_
      refine W.eq (g2 := F0 m 9 ls [.int (nI n), .int (nI i)]) (by rw [hM.1]) ?_
      refine lv_icmp_ge (tgt := 30) hx hb dX10_find_9 (by decide) (fun c_1 => ?_) (fun c_1 => ?_)
      · skip
        have c_1d := Int32.not_lt.mpr c_1
        have hx_i : i = n := by have := (nI_leI (a := n) (b := i) (by omega) (by omega)).mp c_1; omega
        try rw [hx_i] at hi_0
        refine lv_iconst (v := (-1)) hx hb dX10_find_30 (by decide) ?_
        exact W.iret (v := (-1)) hx hb hr (fun T9 hT9 _ => ⟨congrArg (fun z9 => Outcome.returned (some (Value.int z9))) (show ((-1) : Int32) = posI (m_find (μ 1) n x) from (by rw [show m_find (μ 1) n x = none from hi_0]; rfl)), hT9⟩) (fun _ h => by cases h) dX10_find_31
      · skip
        have c_1d := Int32.not_le.mp c_1
        have hb_i : i < n := Nat.lt_of_not_le (fun z => c_1 (nI_le z (by omega)))
        refine lv_aload_n hx hb dX10_find_12 rfl (lv_at hl 1 rfl) ?_
        refine lv_iload_n hx hb dX10_find_13 rfl (lv_at hl 0 rfl) ?_
        refine lv_iconst (v := 0) hx hb dX10_find_14 (by decide) ?_
        refine sp_call (W.runV (As := [.int (nI i), .int (0)]) (rest := []) ⟨hx, hb, hml, hown, hts⟩ (c_X10_p l D am cy μ i (by omega) 0 (by omega)) (cwV 2 hts gX10_find_X10_p rfl rfl rfl (by decide +kernel) ⟨Nat.le_of_ble_eq_true rfl, Nat.le_of_ble_eq_true rfl⟩) (sp_preV hK hP (κ := 0) (by decide) mE_0 rfl) rfl rfl hl.1 rfl (lv_room (Nat.le_of_ble_eq_true rfl)) dX10_find_15 ⟨Nat.le_of_ble_eq_true rfl, Nat.le_of_ble_eq_true rfl⟩) ?_
        refine W.eq (g2 := F0 m 18 ls [.int (gP (μ 1) i 0)]) rfl ?_
        refine lv_iload_n hx hb dX10_find_18 rfl (lv_at hl 2 rfl) ?_
        refine lv_icmp_ne (tgt := 24) hx hb dX10_find_19 (by decide) (fun c_2 => ?_) (fun c_2 => ?_)
        · skip
          refine lv_iinc (v := nI (i + 1)) (lv' := [(2, .int (nI (i + 1))), (0, .ref (am (0))), (1, .int (x))]) hx hb dX10_find_24 hl (k := 0) rfl (nI_1 _) (by decide) rfl (fun ls hl => ?_)
          refine lv_goto (tgt := 2) hx hb dX10_find_27 (by decide) ?_
          exact ih (i + 1) (by omega) (by omega) (fstI_succ_no hi_0 (by simp [mP_find, b2i, c_2])) ls (lv_sub hl [0, 1, 2] rfl)
        · skip
          refine lv_iload_n hx hb dX10_find_22 rfl (lv_at hl 0 rfl) ?_
          exact W.iret (v := nI i) hx hb hr (fun T9 hT9 _ => ⟨congrArg (fun z9 => Outcome.returned (some (Value.int z9))) (show (nI i : Int32) = posI (m_find (μ 1) n x) from (by rw [show m_find (μ 1) n x = some i from fstI_hit hi_0 (by simp [mP_find, b2i, c_2]) hb_i]; rfl)), hT9⟩) (fun _ h => by cases h) dX10_find_23
  exact loop_2 (n + 1) (0)  (by omega) (by omega) (rfl) ls (lv_sub hl [0, 1, 2] rfl)

theorem wi_X10_findTrack_X10 : ∀ w ∈ wsX100, w ∈ wsX10_findTrack := by decide +kernel
set_option maxHeartbeats 4000000 in
set_option maxRecDepth 100000 in
theorem c_X10_findTrack (l : Launch) (D : va_G) (am : Nat → Nat) (cy : Nat → ClassId) (μ : Nat → Nat → Int32) (n : Nat) (t : Nat) (hM : MS (μ 1) n t) (x : Int32) : Met l yX10_findTrack wsX10_findTrack ({ frames := 0, cells := 0, slots := 0, locals := 0 } : Room) (sp_Pc D (tyG cy) [.ref (am (0)), .int (x)] (mW am cy μ)) (sp_S (some (.int (posI (m_ft (μ 1) t x))))) 0 0 (fun _ => False) := by
  refine Met.ofW (cc := cX10_findTrack) (maxL := 3) (ret := (some .int)) (by decide) rfl ?_
  intro p e s m args below meth c s₁ B hml hv
  obtain ⟨rfl, hP, hK⟩ := hv
  have hx := B.exec
  have hb := B.bytes
  have hr := B.returns
  have hts := atoms_spec (ws := wsX10_findTrack) B.pre
  have hown : s.vm.findClass RX10 = some m.cls := findClass_of_methodNamed B.named
  have hlocks := B.notSynchronized
  have hn30 := hM.2.1
  have ht6 := hM.2.2.2
  have hl := lv_entry ([.ref (am (0)), .int (x)]) (n := 3) (Nat.le_of_ble_eq_true rfl)
  refine W.eq (lg_entry_eq _ ([.ref (am (0)), .int (x)]) _) ?_
  generalize (lg_sl ([.ref (am (0)), .int (x)]) ++ List.replicate (3 - (lg_sl ([.ref (am (0)), .int (x)])).length) Slot.unset).toArray = ls at hl ⊢
  have hl : lv_has ls 3 [(0, .ref (am (0))), (1, .int (x))] := hl
  refine lv_iconst (v := 0) hx hb dX10_findTrack_0 (by decide) ?_
  refine lv_istore_n (lv' := [(2, .int (0)), (0, .ref (am (0))), (1, .int (x))]) hx hb dX10_findTrack_1 rfl hl (by decide) rfl (fun ls hl => ?_)
  have loop_2 : ∀ (fu i : Nat), (i ≤ t) → (t - i < fu) → (fstI (mP_ft (μ 1) x) i = none) → ∀ ls : Array Slot, lv_has ls 3 [(2, .int (nI i)), (0, .ref (am (0))), (1, .int (x))] → W p l e (headSpec wsX10_findTrack ({ frames := 0, cells := 0, slots := 0, locals := 0 } : Room)).room s m ([.ref (am (0)), .int (x)] : List Value).toArray below meth c s.heap [] 0 0 (MQ below (sp_S (some (.int (posI (m_ft (μ 1) t x))))) ([.ref (am (0)), .int (x)] : List Value).toArray s 0 0 (fun _ => False)) (F0 m 2 ls []) := by
    intro fu
    induction fu with
    | zero => intro i hle hlt hi_0 ls hl; exact absurd hlt (Nat.not_lt_zero _)
    | succ fu ih =>
      intro i hle hlt hi_0 ls hl
      refine lv_iload_n hx hb dX10_findTrack_2 rfl (lv_at hl 0 rfl) ?_
      refine lv_aload_n hx hb dX10_findTrack_3 rfl (lv_at hl 1 rfl) ?_
      refine sp_get hx hb hts wi_X10_findTrack_X10 hown hK hP (κ := 0) (by decide) mE_0 rfl 1 (by decide) (hts _ (List.mem_of_getElem? (i := 1) rfl)) (fun _ h => h) rfl dX10_findTrack_4 ?_
      refine lv_iconst (v := 0) hx hb dX10_findTrack_7 (by decide) ?_
      refine sp_iald hx hb hK hP (κ := 1) (by decide) 1 mE_1 rfl 0 rfl (by omega) (by decide) dX10_findTrack_8 ?_
      refine W.eq (g2 := F0 m 9 ls [.int (nI t), .int (nI i)]) (by rw [hM.2.2.1]) ?_
      refine lv_icmp_ge (tgt := 35) hx hb dX10_findTrack_9 (by decide) (fun c_1 => ?_) (fun c_1 => ?_)
      · skip
        have c_1d := Int32.not_lt.mpr c_1
        have hx_i : i = t := by have := (nI_leI (a := t) (b := i) (by omega) (by omega)).mp c_1; omega
        try rw [hx_i] at hi_0
        refine lv_iconst (v := (-1)) hx hb dX10_findTrack_35 (by decide) ?_
        exact W.iret (v := (-1)) hx hb hr (fun T9 hT9 _ => ⟨congrArg (fun z9 => Outcome.returned (some (Value.int z9))) (show ((-1) : Int32) = posI (m_ft (μ 1) t x) from (by rw [show m_ft (μ 1) t x = none from hi_0]; rfl)), hT9⟩) (fun _ h => by cases h) dX10_findTrack_36
      · skip
        have c_1d := Int32.not_le.mp c_1
        have hb_i : i < t := Nat.lt_of_not_le (fun z => c_1 (nI_le z (by omega)))
        refine lv_aload_n hx hb dX10_findTrack_12 rfl (lv_at hl 1 rfl) ?_
        refine sp_get hx hb hts wi_X10_findTrack_X10 hown hK hP (κ := 0) (by decide) mE_0 rfl 1 (by decide) (hts _ (List.mem_of_getElem? (i := 1) rfl)) (fun _ h => h) rfl dX10_findTrack_13 ?_
        refine lv_bipush (v := 7) hx hb dX10_findTrack_16 (by decide) ?_
        refine lv_iconst (v := 2) hx hb dX10_findTrack_18 (by decide) ?_
        refine lv_iload_n hx hb dX10_findTrack_19 rfl (lv_at hl 0 rfl) ?_
        refine lv_imul hx hb dX10_findTrack_20 ?_
        refine lv_iadd hx hb dX10_findTrack_21 ?_
        refine sp_iald hx hb hK hP (κ := 1) (by decide) 1 mE_1 rfl (7 + (2 * i)) (nI_addE rfl (nI_mulE rfl rfl)) (by omega) (by decide) dX10_findTrack_22 ?_
        refine lv_iload_n hx hb dX10_findTrack_23 rfl (lv_at hl 2 rfl) ?_
        refine lv_icmp_ne (tgt := 29) hx hb dX10_findTrack_24 (by decide) (fun c_2 => ?_) (fun c_2 => ?_)
        · skip
          refine lv_iinc (v := nI (i + 1)) (lv' := [(2, .int (nI (i + 1))), (0, .ref (am (0))), (1, .int (x))]) hx hb dX10_findTrack_29 hl (k := 0) rfl (nI_1 _) (by decide) rfl (fun ls hl => ?_)
          refine lv_goto (tgt := 2) hx hb dX10_findTrack_32 (by decide) ?_
          exact ih (i + 1) (by omega) (by omega) (fstI_succ_no hi_0 (by simp [mP_ft, b2i, gT, c_2])) ls (lv_sub hl [0, 1, 2] rfl)
        · skip
          refine lv_iload_n hx hb dX10_findTrack_27 rfl (lv_at hl 0 rfl) ?_
          exact W.iret (v := nI i) hx hb hr (fun T9 hT9 _ => ⟨congrArg (fun z9 => Outcome.returned (some (Value.int z9))) (show (nI i : Int32) = posI (m_ft (μ 1) t x) from (by rw [show m_ft (μ 1) t x = some i from fstI_hit hi_0 (by simp [mP_ft, b2i, gT, c_2]) hb_i]; rfl)), hT9⟩) (fun _ h => by cases h) dX10_findTrack_28
  exact loop_2 (t + 1) (0)  (by omega) (by omega) (rfl) ls (lv_sub hl [0, 1, 2] rfl)

theorem wi_X10_inCell_X10 : ∀ w ∈ wsX100, w ∈ wsX10_inCell := by decide +kernel
set_option maxHeartbeats 4000000 in
set_option maxRecDepth 100000 in
theorem c_X10_inCell (l : Launch) (D : va_G) (am : Nat → Nat) (cy : Nat → ClassId) (μ : Nat → Nat → Int32) (n : Nat) (t : Nat) (hM : MS (μ 1) n t) (r : Int32) (c1 : Int32) : Met l yX10_inCell wsX10_inCell ({ frames := 1, cells := 0, slots := 0, locals := 22 } : Room) (sp_Pc D (tyG cy) [.ref (am (0)), .int (r), .int (c1)] (mW am cy μ)) (sp_S (some (.int (posI (m_cell (μ 1) n r c1))))) 0 0 (fun _ => False) := by
  refine Met.ofW (cc := cX10_inCell) (maxL := 4) (ret := (some .int)) (by decide) rfl ?_
  intro p e s m args below meth c s₁ B hml hv
  obtain ⟨rfl, hP, hK⟩ := hv
  have hx := B.exec
  have hb := B.bytes
  have hr := B.returns
  have hts := atoms_spec (ws := wsX10_inCell) B.pre
  have hown : s.vm.findClass RX10 = some m.cls := findClass_of_methodNamed B.named
  have hlocks := B.notSynchronized
  have hn30 := hM.2.1
  have ht6 := hM.2.2.2
  have hl := lv_entry ([.ref (am (0)), .int (r), .int (c1)]) (n := 4) (Nat.le_of_ble_eq_true rfl)
  refine W.eq (lg_entry_eq _ ([.ref (am (0)), .int (r), .int (c1)]) _) ?_
  generalize (lg_sl ([.ref (am (0)), .int (r), .int (c1)]) ++ List.replicate (4 - (lg_sl ([.ref (am (0)), .int (r), .int (c1)])).length) Slot.unset).toArray = ls at hl ⊢
  have hl : lv_has ls 4 [(0, .ref (am (0))), (1, .int (r)), (2, .int (c1))] := hl
  refine lv_iconst (v := 0) hx hb dX10_inCell_0 (by decide) ?_
  refine lv_istore_n (lv' := [(3, .int (0)), (0, .ref (am (0))), (1, .int (r)), (2, .int (c1))]) hx hb dX10_inCell_1 rfl hl (by decide) rfl (fun ls hl => ?_)
  have loop_2 : ∀ (fu i : Nat), (i ≤ n) → (n - i < fu) → (fstI (mP_cell (μ 1) r c1) i = none) → ∀ ls : Array Slot, lv_has ls 4 [(3, .int (nI i)), (0, .ref (am (0))), (1, .int (r)), (2, .int (c1))] → W p l e (headSpec wsX10_inCell ({ frames := 1, cells := 0, slots := 0, locals := 22 } : Room)).room s m ([.ref (am (0)), .int (r), .int (c1)] : List Value).toArray below meth c s.heap [] 0 0 (MQ below (sp_S (some (.int (posI (m_cell (μ 1) n r c1))))) ([.ref (am (0)), .int (r), .int (c1)] : List Value).toArray s 0 0 (fun _ => False)) (F0 m 2 ls []) := by
    intro fu
    induction fu with
    | zero => intro i hle hlt hi_0 ls hl; exact absurd hlt (Nat.not_lt_zero _)
    | succ fu ih =>
      intro i hle hlt hi_0 ls hl
      refine lv_iload_n hx hb dX10_inCell_2 rfl (lv_at hl 0 rfl) ?_
      refine lv_aload_n hx hb dX10_inCell_3 rfl (lv_at hl 1 rfl) ?_
      refine sp_get hx hb hts wi_X10_inCell_X10 hown hK hP (κ := 0) (by decide) mE_0 rfl 1 (by decide) (hts _ (List.mem_of_getElem? (i := 1) rfl)) (fun _ h => h) rfl dX10_inCell_4 ?_
      refine lv_iconst (v := 1) hx hb dX10_inCell_7 (by decide) ?_
      refine sp_iald hx hb hK hP (κ := 1) (by decide) 1 mE_1 rfl 1 rfl (by omega) (by decide) dX10_inCell_8 ?_
      refine W.eq (g2 := F0 m 9 ls [.int (nI n), .int (nI i)]) (by rw [hM.1]) ?_
      refine lv_icmp_ge (tgt := 40) hx hb dX10_inCell_9 (by decide) (fun c_1 => ?_) (fun c_1 => ?_)
      · skip
        have c_1d := Int32.not_lt.mpr c_1
        have hx_i : i = n := by have := (nI_leI (a := n) (b := i) (by omega) (by omega)).mp c_1; omega
        try rw [hx_i] at hi_0
        refine lv_iconst (v := (-1)) hx hb dX10_inCell_40 (by decide) ?_
        exact W.iret (v := (-1)) hx hb hr (fun T9 hT9 _ => ⟨congrArg (fun z9 => Outcome.returned (some (Value.int z9))) (show ((-1) : Int32) = posI (m_cell (μ 1) n r c1) from (by rw [show m_cell (μ 1) n r c1 = none from hi_0]; rfl)), hT9⟩) (fun _ h => by cases h) dX10_inCell_41
      · skip
        have c_1d := Int32.not_le.mp c_1
        have hb_i : i < n := Nat.lt_of_not_le (fun z => c_1 (nI_le z (by omega)))
        refine lv_aload_n hx hb dX10_inCell_12 rfl (lv_at hl 1 rfl) ?_
        refine lv_iload_n hx hb dX10_inCell_13 rfl (lv_at hl 0 rfl) ?_
        refine lv_iconst (v := 3) hx hb dX10_inCell_14 (by decide) ?_
        refine sp_call (W.runV (As := [.int (nI i), .int (3)]) (rest := []) ⟨hx, hb, hml, hown, hts⟩ (c_X10_p l D am cy μ i (by omega) 3 (by omega)) (cwV 2 hts gX10_inCell_X10_p rfl rfl rfl (by decide +kernel) ⟨Nat.le_of_ble_eq_true rfl, Nat.le_of_ble_eq_true rfl⟩) (sp_preV hK hP (κ := 0) (by decide) mE_0 rfl) rfl rfl hl.1 rfl (lv_room (Nat.le_of_ble_eq_true rfl)) dX10_inCell_15 ⟨Nat.le_of_ble_eq_true rfl, Nat.le_of_ble_eq_true rfl⟩) ?_
        refine W.eq (g2 := F0 m 18 ls [.int (gP (μ 1) i 3)]) rfl ?_
        refine lv_iload_n hx hb dX10_inCell_18 rfl (lv_at hl 2 rfl) ?_
        refine lv_icmp_ne (tgt := 34) hx hb dX10_inCell_19 (by decide) (fun c_2 => ?_) (fun c_2 => ?_)
        · skip
          refine lv_iinc (v := nI (i + 1)) (lv' := [(3, .int (nI (i + 1))), (0, .ref (am (0))), (1, .int (r)), (2, .int (c1))]) hx hb dX10_inCell_34 hl (k := 0) rfl (nI_1 _) (by decide) rfl (fun ls hl => ?_)
          refine lv_goto (tgt := 2) hx hb dX10_inCell_37 (by decide) ?_
          exact ih (i + 1) (by omega) (by omega) (fstI_succ_no hi_0 (by simp [mP_cell, b2i, c_2])) ls (lv_sub hl [0, 1, 2, 3] rfl)
        · skip
          refine lv_aload_n hx hb dX10_inCell_22 rfl (lv_at hl 1 rfl) ?_
          refine lv_iload_n hx hb dX10_inCell_23 rfl (lv_at hl 0 rfl) ?_
          refine lv_iconst (v := 4) hx hb dX10_inCell_24 (by decide) ?_
          refine sp_call (W.runV (As := [.int (nI i), .int (4)]) (rest := []) ⟨hx, hb, hml, hown, hts⟩ (c_X10_p l D am cy μ i (by omega) 4 (by omega)) (cwV 2 hts gX10_inCell_X10_p rfl rfl rfl (by decide +kernel) ⟨Nat.le_of_ble_eq_true rfl, Nat.le_of_ble_eq_true rfl⟩) (sp_preV hK hP (κ := 0) (by decide) mE_0 rfl) rfl rfl hl.1 rfl (lv_room (Nat.le_of_ble_eq_true rfl)) dX10_inCell_25 ⟨Nat.le_of_ble_eq_true rfl, Nat.le_of_ble_eq_true rfl⟩) ?_
          refine W.eq (g2 := F0 m 28 ls [.int (gP (μ 1) i 4)]) rfl ?_
          refine lv_iload_n hx hb dX10_inCell_28 rfl (lv_at hl 3 rfl) ?_
          refine lv_icmp_ne (tgt := 34) hx hb dX10_inCell_29 (by decide) (fun c_3 => ?_) (fun c_3 => ?_)
          · skip
            refine lv_iinc (v := nI (i + 1)) (lv' := [(3, .int (nI (i + 1))), (0, .ref (am (0))), (1, .int (r)), (2, .int (c1))]) hx hb dX10_inCell_34 hl (k := 0) rfl (nI_1 _) (by decide) rfl (fun ls hl => ?_)
            refine lv_goto (tgt := 2) hx hb dX10_inCell_37 (by decide) ?_
            exact ih (i + 1) (by omega) (by omega) (fstI_succ_no hi_0 (by simp [mP_cell, b2i, c_2, c_3])) ls (lv_sub hl [0, 1, 2, 3] rfl)
          · skip
            refine lv_iload_n hx hb dX10_inCell_32 rfl (lv_at hl 0 rfl) ?_
            exact W.iret (v := nI i) hx hb hr (fun T9 hT9 _ => ⟨congrArg (fun z9 => Outcome.returned (some (Value.int z9))) (show (nI i : Int32) = posI (m_cell (μ 1) n r c1) from (by rw [show m_cell (μ 1) n r c1 = some i from fstI_hit hi_0 (by simp [mP_cell, b2i, c_2, c_3]) hb_i]; rfl)), hT9⟩) (fun _ h => by cases h) dX10_inCell_33
  exact loop_2 (n + 1) (0)  (by omega) (by omega) (rfl) ls (lv_sub hl [0, 1, 2, 3] rfl)

theorem wi_X10_atTime_X10 : ∀ w ∈ wsX100, w ∈ wsX10_atTime := by decide +kernel
set_option maxHeartbeats 4000000 in
set_option maxRecDepth 100000 in
theorem c_X10_atTime (l : Launch) (D : va_G) (am : Nat → Nat) (cy : Nat → ClassId) (μ : Nat → Nat → Int32) (n : Nat) (t : Nat) (hM : MS (μ 1) n t) (x : Int32) (u : Int32) : Met l yX10_atTime wsX10_atTime ({ frames := 1, cells := 0, slots := 0, locals := 22 } : Room) (sp_Pc D (tyG cy) [.ref (am (0)), .int (x), .int (u)] (mW am cy μ)) (sp_S (some (.int (posI (m_time (μ 1) n x u))))) 0 0 (fun _ => False) := by
  refine Met.ofW (cc := cX10_atTime) (maxL := 4) (ret := (some .int)) (by decide) rfl ?_
  intro p e s m args below meth c s₁ B hml hv
  obtain ⟨rfl, hP, hK⟩ := hv
  have hx := B.exec
  have hb := B.bytes
  have hr := B.returns
  have hts := atoms_spec (ws := wsX10_atTime) B.pre
  have hown : s.vm.findClass RX10 = some m.cls := findClass_of_methodNamed B.named
  have hlocks := B.notSynchronized
  have hn30 := hM.2.1
  have ht6 := hM.2.2.2
  have hl := lv_entry ([.ref (am (0)), .int (x), .int (u)]) (n := 4) (Nat.le_of_ble_eq_true rfl)
  refine W.eq (lg_entry_eq _ ([.ref (am (0)), .int (x), .int (u)]) _) ?_
  generalize (lg_sl ([.ref (am (0)), .int (x), .int (u)]) ++ List.replicate (4 - (lg_sl ([.ref (am (0)), .int (x), .int (u)])).length) Slot.unset).toArray = ls at hl ⊢
  have hl : lv_has ls 4 [(0, .ref (am (0))), (1, .int (x)), (2, .int (u))] := hl
  refine lv_iconst (v := 0) hx hb dX10_atTime_0 (by decide) ?_
  refine lv_istore_n (lv' := [(3, .int (0)), (0, .ref (am (0))), (1, .int (x)), (2, .int (u))]) hx hb dX10_atTime_1 rfl hl (by decide) rfl (fun ls hl => ?_)
  have loop_2 : ∀ (fu i : Nat), (i ≤ n) → (n - i < fu) → (fstI (mP_time (μ 1) x u) i = none) → ∀ ls : Array Slot, lv_has ls 4 [(3, .int (nI i)), (0, .ref (am (0))), (1, .int (x)), (2, .int (u))] → W p l e (headSpec wsX10_atTime ({ frames := 1, cells := 0, slots := 0, locals := 22 } : Room)).room s m ([.ref (am (0)), .int (x), .int (u)] : List Value).toArray below meth c s.heap [] 0 0 (MQ below (sp_S (some (.int (posI (m_time (μ 1) n x u))))) ([.ref (am (0)), .int (x), .int (u)] : List Value).toArray s 0 0 (fun _ => False)) (F0 m 2 ls []) := by
    intro fu
    induction fu with
    | zero => intro i hle hlt hi_0 ls hl; exact absurd hlt (Nat.not_lt_zero _)
    | succ fu ih =>
      intro i hle hlt hi_0 ls hl
      refine lv_iload_n hx hb dX10_atTime_2 rfl (lv_at hl 0 rfl) ?_
      refine lv_aload_n hx hb dX10_atTime_3 rfl (lv_at hl 1 rfl) ?_
      refine sp_get hx hb hts wi_X10_atTime_X10 hown hK hP (κ := 0) (by decide) mE_0 rfl 1 (by decide) (hts _ (List.mem_of_getElem? (i := 1) rfl)) (fun _ h => h) rfl dX10_atTime_4 ?_
      refine lv_iconst (v := 1) hx hb dX10_atTime_7 (by decide) ?_
      refine sp_iald hx hb hK hP (κ := 1) (by decide) 1 mE_1 rfl 1 rfl (by omega) (by decide) dX10_atTime_8 ?_
      refine W.eq (g2 := F0 m 9 ls [.int (nI n), .int (nI i)]) (by rw [hM.1]) ?_
      refine lv_icmp_ge (tgt := 40) hx hb dX10_atTime_9 (by decide) (fun c_1 => ?_) (fun c_1 => ?_)
      · skip
        have c_1d := Int32.not_lt.mpr c_1
        have hx_i : i = n := by have := (nI_leI (a := n) (b := i) (by omega) (by omega)).mp c_1; omega
        try rw [hx_i] at hi_0
        refine lv_iconst (v := (-1)) hx hb dX10_atTime_40 (by decide) ?_
        exact W.iret (v := (-1)) hx hb hr (fun T9 hT9 _ => ⟨congrArg (fun z9 => Outcome.returned (some (Value.int z9))) (show ((-1) : Int32) = posI (m_time (μ 1) n x u) from (by rw [show m_time (μ 1) n x u = none from hi_0]; rfl)), hT9⟩) (fun _ h => by cases h) dX10_atTime_41
      · skip
        have c_1d := Int32.not_le.mp c_1
        have hb_i : i < n := Nat.lt_of_not_le (fun z => c_1 (nI_le z (by omega)))
        refine lv_aload_n hx hb dX10_atTime_12 rfl (lv_at hl 1 rfl) ?_
        refine lv_iload_n hx hb dX10_atTime_13 rfl (lv_at hl 0 rfl) ?_
        refine lv_iconst (v := 1) hx hb dX10_atTime_14 (by decide) ?_
        refine sp_call (W.runV (As := [.int (nI i), .int (1)]) (rest := []) ⟨hx, hb, hml, hown, hts⟩ (c_X10_p l D am cy μ i (by omega) 1 (by omega)) (cwV 2 hts gX10_atTime_X10_p rfl rfl rfl (by decide +kernel) ⟨Nat.le_of_ble_eq_true rfl, Nat.le_of_ble_eq_true rfl⟩) (sp_preV hK hP (κ := 0) (by decide) mE_0 rfl) rfl rfl hl.1 rfl (lv_room (Nat.le_of_ble_eq_true rfl)) dX10_atTime_15 ⟨Nat.le_of_ble_eq_true rfl, Nat.le_of_ble_eq_true rfl⟩) ?_
        refine W.eq (g2 := F0 m 18 ls [.int (gP (μ 1) i 1)]) rfl ?_
        refine lv_iload_n hx hb dX10_atTime_18 rfl (lv_at hl 2 rfl) ?_
        refine lv_icmp_ne (tgt := 34) hx hb dX10_atTime_19 (by decide) (fun c_2 => ?_) (fun c_2 => ?_)
        · skip
          refine lv_iinc (v := nI (i + 1)) (lv' := [(3, .int (nI (i + 1))), (0, .ref (am (0))), (1, .int (x)), (2, .int (u))]) hx hb dX10_atTime_34 hl (k := 0) rfl (nI_1 _) (by decide) rfl (fun ls hl => ?_)
          refine lv_goto (tgt := 2) hx hb dX10_atTime_37 (by decide) ?_
          exact ih (i + 1) (by omega) (by omega) (fstI_succ_no hi_0 (by simp [mP_time, b2i, c_2])) ls (lv_sub hl [0, 1, 2, 3] rfl)
        · skip
          refine lv_aload_n hx hb dX10_atTime_22 rfl (lv_at hl 1 rfl) ?_
          refine lv_iload_n hx hb dX10_atTime_23 rfl (lv_at hl 0 rfl) ?_
          refine lv_iconst (v := 2) hx hb dX10_atTime_24 (by decide) ?_
          refine sp_call (W.runV (As := [.int (nI i), .int (2)]) (rest := []) ⟨hx, hb, hml, hown, hts⟩ (c_X10_p l D am cy μ i (by omega) 2 (by omega)) (cwV 2 hts gX10_atTime_X10_p rfl rfl rfl (by decide +kernel) ⟨Nat.le_of_ble_eq_true rfl, Nat.le_of_ble_eq_true rfl⟩) (sp_preV hK hP (κ := 0) (by decide) mE_0 rfl) rfl rfl hl.1 rfl (lv_room (Nat.le_of_ble_eq_true rfl)) dX10_atTime_25 ⟨Nat.le_of_ble_eq_true rfl, Nat.le_of_ble_eq_true rfl⟩) ?_
          refine W.eq (g2 := F0 m 28 ls [.int (gP (μ 1) i 2)]) rfl ?_
          refine lv_iload_n hx hb dX10_atTime_28 rfl (lv_at hl 3 rfl) ?_
          refine lv_icmp_ne (tgt := 34) hx hb dX10_atTime_29 (by decide) (fun c_3 => ?_) (fun c_3 => ?_)
          · skip
            refine lv_iinc (v := nI (i + 1)) (lv' := [(3, .int (nI (i + 1))), (0, .ref (am (0))), (1, .int (x)), (2, .int (u))]) hx hb dX10_atTime_34 hl (k := 0) rfl (nI_1 _) (by decide) rfl (fun ls hl => ?_)
            refine lv_goto (tgt := 2) hx hb dX10_atTime_37 (by decide) ?_
            exact ih (i + 1) (by omega) (by omega) (fstI_succ_no hi_0 (by simp [mP_time, b2i, c_2, c_3])) ls (lv_sub hl [0, 1, 2, 3] rfl)
          · skip
            refine lv_iload_n hx hb dX10_atTime_32 rfl (lv_at hl 0 rfl) ?_
            exact W.iret (v := nI i) hx hb hr (fun T9 hT9 _ => ⟨congrArg (fun z9 => Outcome.returned (some (Value.int z9))) (show (nI i : Int32) = posI (m_time (μ 1) n x u) from (by rw [show m_time (μ 1) n x u = some i from fstI_hit hi_0 (by simp [mP_time, b2i, c_2, c_3]) hb_i]; rfl)), hT9⟩) (fun _ h => by cases h) dX10_atTime_33
  exact loop_2 (n + 1) (0)  (by omega) (by omega) (rfl) ls (lv_sub hl [0, 1, 2, 3] rfl)

theorem wi_X10_beside_X10 : ∀ w ∈ wsX100, w ∈ wsX10_beside := by decide +kernel
set_option maxHeartbeats 4000000 in
set_option maxRecDepth 100000 in
theorem c_X10_beside (l : Launch) (D : va_G) (am : Nat → Nat) (cy : Nat → ClassId) (μ : Nat → Nat → Int32) (n : Nat) (t : Nat) (hM : MS (μ 1) n t) (a : Nat) (ha : a < n) (nx : Bool) : Met l yX10_beside wsX10_beside ({ frames := 1, cells := 0, slots := 0, locals := 22 } : Room) (sp_Pc D (tyG cy) [.ref (am (0)), .int (nI a), .int (b2i nx)] (mW am cy μ)) (sp_S (some (.int (posI (m_bes (μ 1) n a nx))))) 0 0 (fun _ => False) := by
  refine Met.ofW (cc := cX10_beside) (maxL := 7) (ret := (some .int)) (by decide) rfl ?_
  intro p e s m args below meth c s₁ B hml hv
  obtain ⟨rfl, hP, hK⟩ := hv
  have hx := B.exec
  have hb := B.bytes
  have hr := B.returns
  have hts := atoms_spec (ws := wsX10_beside) B.pre
  have hown : s.vm.findClass RX10 = some m.cls := findClass_of_methodNamed B.named
  have hlocks := B.notSynchronized
  have hn30 := hM.2.1
  have ht6 := hM.2.2.2
  cases nx
  · skip
    have hl := lv_entry ([.ref (am (0)), .int (nI a), .int (0)]) (n := 7) (Nat.le_of_ble_eq_true rfl)
    refine W.eq (lg_entry_eq _ ([.ref (am (0)), .int (nI a), .int (0)]) _) ?_
    generalize (lg_sl ([.ref (am (0)), .int (nI a), .int (0)]) ++ List.replicate (7 - (lg_sl ([.ref (am (0)), .int (nI a), .int (0)])).length) Slot.unset).toArray = ls at hl ⊢
    have hl : lv_has ls 7 [(0, .ref (am (0))), (1, .int (nI a)), (2, .int (0))] := hl
    refine lv_iconst (v := (-1)) hx hb dX10_beside_0 (by decide) ?_
    refine lv_istore_n (lv' := [(3, .int ((-1))), (0, .ref (am (0))), (1, .int (nI a)), (2, .int (0))]) hx hb dX10_beside_1 rfl hl (by decide) rfl (fun ls hl => ?_)
    refine lv_iconst (v := 0) hx hb dX10_beside_2 (by decide) ?_
    refine lv_istore (lv' := [(4, .int (0)), (3, .int ((-1))), (0, .ref (am (0))), (1, .int (nI a)), (2, .int (0))]) hx hb dX10_beside_3 hl (by decide) rfl (fun ls hl => ?_)
    have loop_5 : ∀ (fu i : Nat) (x : Option Nat), (i ≤ n) → (n - i < fu) → (x = foldI (S_bes (μ 1) a false) none i) → ∀ ls : Array Slot, lv_has ls 7 [(4, .int (nI i)), (3, .int (posI x)), (0, .ref (am (0))), (1, .int (nI a)), (2, .int (0))] → W p l e (headSpec wsX10_beside ({ frames := 1, cells := 0, slots := 0, locals := 22 } : Room)).room s m ([.ref (am (0)), .int (nI a), .int (0)] : List Value).toArray below meth c s.heap [] 0 0 (MQ below (sp_S (some (.int (posI (m_bes (μ 1) n a false))))) ([.ref (am (0)), .int (nI a), .int (0)] : List Value).toArray s 0 0 (fun _ => False)) (F0 m 5 ls []) := by
      intro fu
      induction fu with
      | zero => intro i x hle hlt hi_0 ls hl; exact absurd hlt (Nat.not_lt_zero _)
      | succ fu ih =>
        intro i x hle hlt hi_0 ls hl
        rcases x with _ | j_1
        · have hl : lv_has ls 7 [(4, .int (nI i)), (3, .int ((-1))), (0, .ref (am (0))), (1, .int (nI a)), (2, .int (0))] := hl
          refine lv_iload hx hb dX10_beside_5 (lv_at hl 0 rfl) ?_
          refine lv_aload_n hx hb dX10_beside_7 rfl (lv_at hl 2 rfl) ?_
          refine sp_get hx hb hts wi_X10_beside_X10 hown hK hP (κ := 0) (by decide) mE_0 rfl 1 (by decide) (hts _ (List.mem_of_getElem? (i := 1) rfl)) (fun _ h => h) rfl dX10_beside_8 ?_
          refine lv_iconst (v := 1) hx hb dX10_beside_11 (by decide) ?_
          refine sp_iald hx hb hK hP (κ := 1) (by decide) 1 mE_1 rfl 1 rfl (by omega) (by decide) dX10_beside_12 ?_
          refine W.eq (g2 := F0 m 13 ls [.int (nI n), .int (nI i)]) (by rw [hM.1]) ?_
          refine lv_icmp_ge (tgt := 144) hx hb dX10_beside_13 (by decide) (fun c_2 => ?_) (fun c_2 => ?_)
          · skip
            have c_2d := Int32.not_lt.mpr c_2
            have hx_i : i = n := by have := (nI_leI (a := n) (b := i) (by omega) (by omega)).mp c_2; omega
            try rw [hx_i] at hi_0
            refine lv_iload_n hx hb dX10_beside_144 rfl (lv_at hl 1 rfl) ?_
            exact W.iret (v := (-1)) hx hb hr (fun T9 hT9 _ => ⟨congrArg (fun z9 => Outcome.returned (some (Value.int z9))) (show ((-1) : Int32) = posI (m_bes (μ 1) n a false) from (by exact congrArg posI hi_0)), hT9⟩) (fun _ h => by cases h) dX10_beside_145
          · skip
            have c_2d := Int32.not_le.mp c_2
            have hb_i : i < n := Nat.lt_of_not_le (fun z => c_2 (nI_le z (by omega)))
            refine lv_iload_n hx hb dX10_beside_16 rfl (lv_at hl 4 rfl) ?_
            refine lv_if_eq (tgt := 37) hx hb dX10_beside_17 (by decide) (fun c_3 => ?_) (fun c_3 => ?_)
            · skip
              refine lv_aload_n hx hb dX10_beside_37 rfl (lv_at hl 2 rfl) ?_
              refine lv_iload_n hx hb dX10_beside_38 rfl (lv_at hl 3 rfl) ?_
              refine lv_iconst (v := 2) hx hb dX10_beside_39 (by decide) ?_
              refine sp_call (W.runV (As := [.int (nI a), .int (2)]) (rest := []) ⟨hx, hb, hml, hown, hts⟩ (c_X10_p l D am cy μ a (by omega) 2 (by omega)) (cwV 2 hts gX10_beside_X10_p rfl rfl rfl (by decide +kernel) ⟨Nat.le_of_ble_eq_true rfl, Nat.le_of_ble_eq_true rfl⟩) (sp_preV hK hP (κ := 0) (by decide) mE_0 rfl) rfl rfl hl.1 rfl (lv_room (Nat.le_of_ble_eq_true rfl)) dX10_beside_40 ⟨Nat.le_of_ble_eq_true rfl, Nat.le_of_ble_eq_true rfl⟩) ?_
              refine W.eq (g2 := F0 m 43 ls [.int (gP (μ 1) a 2)]) rfl ?_
              refine lv_aload_n hx hb dX10_beside_43 rfl (lv_at hl 2 rfl) ?_
              refine lv_iload hx hb dX10_beside_44 (lv_at hl 0 rfl) ?_
              refine lv_iconst (v := 2) hx hb dX10_beside_46 (by decide) ?_
              refine sp_call (W.runV (As := [.int (nI i), .int (2)]) (rest := [.int (gP (μ 1) a 2)]) ⟨hx, hb, hml, hown, hts⟩ (c_X10_p l D am cy μ i (by omega) 2 (by omega)) (cwV 2 hts gX10_beside_X10_p rfl rfl rfl (by decide +kernel) ⟨Nat.le_of_ble_eq_true rfl, Nat.le_of_ble_eq_true rfl⟩) (sp_preV hK hP (κ := 0) (by decide) mE_0 rfl) rfl rfl hl.1 rfl (lv_room (Nat.le_of_ble_eq_true rfl)) dX10_beside_47 ⟨Nat.le_of_ble_eq_true rfl, Nat.le_of_ble_eq_true rfl⟩) ?_
              refine W.eq (g2 := F0 m 50 ls [.int (gP (μ 1) i 2), .int (gP (μ 1) a 2)]) rfl ?_
              refine lv_isub hx hb dX10_beside_50 ?_
              refine lv_istore (lv' := [(5, .int ((gP (μ 1) a 2) - (gP (μ 1) i 2))), (4, .int (nI i)), (3, .int ((-1))), (0, .ref (am (0))), (1, .int (nI a)), (2, .int (0))]) hx hb dX10_beside_51 hl (by decide) rfl (fun ls hl => ?_)
              refine lv_aload_n hx hb dX10_beside_53 rfl (lv_at hl 3 rfl) ?_
              refine lv_iload hx hb dX10_beside_54 (lv_at hl 1 rfl) ?_
              refine lv_iconst (v := 1) hx hb dX10_beside_56 (by decide) ?_
              refine sp_call (W.runV (As := [.int (nI i), .int (1)]) (rest := []) ⟨hx, hb, hml, hown, hts⟩ (c_X10_p l D am cy μ i (by omega) 1 (by omega)) (cwV 2 hts gX10_beside_X10_p rfl rfl rfl (by decide +kernel) ⟨Nat.le_of_ble_eq_true rfl, Nat.le_of_ble_eq_true rfl⟩) (sp_preV hK hP (κ := 0) (by decide) mE_0 rfl) rfl rfl hl.1 rfl (lv_room (Nat.le_of_ble_eq_true rfl)) dX10_beside_57 ⟨Nat.le_of_ble_eq_true rfl, Nat.le_of_ble_eq_true rfl⟩) ?_
              refine W.eq (g2 := F0 m 60 ls [.int (gP (μ 1) i 1)]) rfl ?_
              refine lv_aload_n hx hb dX10_beside_60 rfl (lv_at hl 3 rfl) ?_
              refine lv_iload_n hx hb dX10_beside_61 rfl (lv_at hl 4 rfl) ?_
              refine lv_iconst (v := 1) hx hb dX10_beside_62 (by decide) ?_
              refine sp_call (W.runV (As := [.int (nI a), .int (1)]) (rest := [.int (gP (μ 1) i 1)]) ⟨hx, hb, hml, hown, hts⟩ (c_X10_p l D am cy μ a (by omega) 1 (by omega)) (cwV 2 hts gX10_beside_X10_p rfl rfl rfl (by decide +kernel) ⟨Nat.le_of_ble_eq_true rfl, Nat.le_of_ble_eq_true rfl⟩) (sp_preV hK hP (κ := 0) (by decide) mE_0 rfl) rfl rfl hl.1 rfl (lv_room (Nat.le_of_ble_eq_true rfl)) dX10_beside_63 ⟨Nat.le_of_ble_eq_true rfl, Nat.le_of_ble_eq_true rfl⟩) ?_
              refine W.eq (g2 := F0 m 66 ls [.int (gP (μ 1) a 1), .int (gP (μ 1) i 1)]) rfl ?_
              refine lv_icmp_ne (tgt := 138) hx hb dX10_beside_66 (by decide) (fun c_4 => ?_) (fun c_4 => ?_)
              · skip
                refine lv_iinc (v := nI (i + 1)) (lv' := [(4, .int (nI (i + 1))), (5, .int ((gP (μ 1) a 2) - (gP (μ 1) i 2))), (3, .int ((-1))), (0, .ref (am (0))), (1, .int (nI a)), (2, .int (0))]) hx hb dX10_beside_138 hl (k := 1) rfl (nI_1 _) (by decide) rfl (fun ls hl => ?_)
                refine lv_goto (tgt := 5) hx hb dX10_beside_141 (by decide) ?_
                exact ih (i + 1) none (by omega) (by omega) (by rw [foldI_succ, ← hi_0]; simp [S_bes, b2i, c_4]) ls (lv_sub hl [0, 2, 3, 4, 5] rfl)
              · skip
                refine lv_iload hx hb dX10_beside_69 (lv_at hl 0 rfl) ?_
                refine lv_if_gt (tgt := 77) hx hb dX10_beside_71 (by decide) (fun c_5 => ?_) (fun c_5 => ?_)
                · skip
                  have c_5d := Int32.not_le.mpr c_5
                  refine lv_iload_n hx hb dX10_beside_77 rfl (lv_at hl 2 rfl) ?_
                  refine lv_iconst (v := (-1)) hx hb dX10_beside_78 (by decide) ?_
                  refine lv_icmp_ne (tgt := 89) hx hb dX10_beside_79 (by decide) (fun c_6 => ?_) (fun c_6 => ?_)
                  · exact absurd c_6 (by decide)
                  · skip
                    refine lv_iload hx hb dX10_beside_82 (lv_at hl 0 rfl) ?_
                    refine lv_iconst (v := 1) hx hb dX10_beside_84 (by decide) ?_
                    refine lv_iadd hx hb dX10_beside_85 ?_
                    refine lv_goto (tgt := 122) hx hb dX10_beside_86 (by decide) ?_
                    refine lv_istore (lv' := [(6, .int (((gP (μ 1) a 2) - (gP (μ 1) i 2)) + 1)), (5, .int ((gP (μ 1) a 2) - (gP (μ 1) i 2))), (4, .int (nI i)), (3, .int ((-1))), (0, .ref (am (0))), (1, .int (nI a)), (2, .int (0))]) hx hb dX10_beside_122 hl (by decide) rfl (fun ls hl => ?_)
                    refine lv_iload hx hb dX10_beside_124 (lv_at hl 1 rfl) ?_
                    refine lv_iload hx hb dX10_beside_126 (lv_at hl 0 rfl) ?_
                    refine lv_icmp_ge (tgt := 136) hx hb dX10_beside_128 (by decide) (fun c_7 => ?_) (fun c_7 => ?_)
                    · skip
                      have c_7d := Int32.not_lt.mpr c_7
                      refine lv_iload_n hx hb dX10_beside_136 rfl (lv_at hl 3 rfl) ?_
                      refine lv_istore_n (lv' := [(3, .int ((-1))), (6, .int (((gP (μ 1) a 2) - (gP (μ 1) i 2)) + 1)), (5, .int ((gP (μ 1) a 2) - (gP (μ 1) i 2))), (4, .int (nI i)), (0, .ref (am (0))), (1, .int (nI a)), (2, .int (0))]) hx hb dX10_beside_137 rfl hl (by decide) rfl (fun ls hl => ?_)
                      refine lv_iinc (v := nI (i + 1)) (lv' := [(4, .int (nI (i + 1))), (3, .int ((-1))), (6, .int (((gP (μ 1) a 2) - (gP (μ 1) i 2)) + 1)), (5, .int ((gP (μ 1) a 2) - (gP (μ 1) i 2))), (0, .ref (am (0))), (1, .int (nI a)), (2, .int (0))]) hx hb dX10_beside_138 hl (k := 3) rfl (nI_1 _) (by decide) rfl (fun ls hl => ?_)
                      refine lv_goto (tgt := 5) hx hb dX10_beside_141 (by decide) ?_
                      exact ih (i + 1) none (by omega) (by omega) (by rw [foldI_succ, ← hi_0]; simp [S_bes, b2i, c_4, c_5, c_5d, c_7, c_7d]) ls (lv_sub hl [0, 1, 4, 5, 6] rfl)
                    · skip
                      have c_7d := Int32.not_le.mp c_7
                      refine lv_iload hx hb dX10_beside_131 (lv_at hl 2 rfl) ?_
                      refine lv_goto (tgt := 137) hx hb dX10_beside_133 (by decide) ?_
                      refine lv_istore_n (lv' := [(3, .int (nI i)), (6, .int (((gP (μ 1) a 2) - (gP (μ 1) i 2)) + 1)), (5, .int ((gP (μ 1) a 2) - (gP (μ 1) i 2))), (4, .int (nI i)), (0, .ref (am (0))), (1, .int (nI a)), (2, .int (0))]) hx hb dX10_beside_137 rfl hl (by decide) rfl (fun ls hl => ?_)
                      refine lv_iinc (v := nI (i + 1)) (lv' := [(4, .int (nI (i + 1))), (3, .int (nI i)), (6, .int (((gP (μ 1) a 2) - (gP (μ 1) i 2)) + 1)), (5, .int ((gP (μ 1) a 2) - (gP (μ 1) i 2))), (0, .ref (am (0))), (1, .int (nI a)), (2, .int (0))]) hx hb dX10_beside_138 hl (k := 3) rfl (nI_1 _) (by decide) rfl (fun ls hl => ?_)
                      refine lv_goto (tgt := 5) hx hb dX10_beside_141 (by decide) ?_
                      exact ih (i + 1) (some (i)) (by omega) (by omega) (by rw [foldI_succ, ← hi_0]; simp [S_bes, b2i, c_4, c_5, c_5d, c_7, c_7d]) ls (lv_sub hl [0, 1, 4, 5, 6] rfl)
                · skip
                  have c_5d := Int32.not_lt.mp c_5
                  refine lv_goto (tgt := 138) hx hb dX10_beside_74 (by decide) ?_
                  refine lv_iinc (v := nI (i + 1)) (lv' := [(4, .int (nI (i + 1))), (5, .int ((gP (μ 1) a 2) - (gP (μ 1) i 2))), (3, .int ((-1))), (0, .ref (am (0))), (1, .int (nI a)), (2, .int (0))]) hx hb dX10_beside_138 hl (k := 1) rfl (nI_1 _) (by decide) rfl (fun ls hl => ?_)
                  refine lv_goto (tgt := 5) hx hb dX10_beside_141 (by decide) ?_
                  exact ih (i + 1) none (by omega) (by omega) (by rw [foldI_succ, ← hi_0]; simp [S_bes, b2i, c_4, c_5, c_5d]) ls (lv_sub hl [0, 2, 3, 4, 5] rfl)
            · exact absurd c_3 (by decide)
        · have hl : lv_has ls 7 [(4, .int (nI i)), (3, .int (nI j_1)), (0, .ref (am (0))), (1, .int (nI a)), (2, .int (0))] := hl
          have hj_1 : j_1 < n := Nat.lt_of_lt_of_le (foldI_lt (S_bes_or _ _ _) hi_0.symm) hle
          refine lv_iload hx hb dX10_beside_5 (lv_at hl 0 rfl) ?_
          refine lv_aload_n hx hb dX10_beside_7 rfl (lv_at hl 2 rfl) ?_
          refine sp_get hx hb hts wi_X10_beside_X10 hown hK hP (κ := 0) (by decide) mE_0 rfl 1 (by decide) (hts _ (List.mem_of_getElem? (i := 1) rfl)) (fun _ h => h) rfl dX10_beside_8 ?_
          refine lv_iconst (v := 1) hx hb dX10_beside_11 (by decide) ?_
          refine sp_iald hx hb hK hP (κ := 1) (by decide) 1 mE_1 rfl 1 rfl (by omega) (by decide) dX10_beside_12 ?_
          refine W.eq (g2 := F0 m 13 ls [.int (nI n), .int (nI i)]) (by rw [hM.1]) ?_
          refine lv_icmp_ge (tgt := 144) hx hb dX10_beside_13 (by decide) (fun c_8 => ?_) (fun c_8 => ?_)
          · skip
            have c_8d := Int32.not_lt.mpr c_8
            have hx_i : i = n := by have := (nI_leI (a := n) (b := i) (by omega) (by omega)).mp c_8; omega
            try rw [hx_i] at hi_0
            refine lv_iload_n hx hb dX10_beside_144 rfl (lv_at hl 1 rfl) ?_
            exact W.iret (v := nI j_1) hx hb hr (fun T9 hT9 _ => ⟨congrArg (fun z9 => Outcome.returned (some (Value.int z9))) (show (nI j_1 : Int32) = posI (m_bes (μ 1) n a false) from (by exact congrArg posI hi_0)), hT9⟩) (fun _ h => by cases h) dX10_beside_145
          · skip
            have c_8d := Int32.not_le.mp c_8
            have hb_i : i < n := Nat.lt_of_not_le (fun z => c_8 (nI_le z (by omega)))
            refine lv_iload_n hx hb dX10_beside_16 rfl (lv_at hl 4 rfl) ?_
            refine lv_if_eq (tgt := 37) hx hb dX10_beside_17 (by decide) (fun c_9 => ?_) (fun c_9 => ?_)
            · skip
              refine lv_aload_n hx hb dX10_beside_37 rfl (lv_at hl 2 rfl) ?_
              refine lv_iload_n hx hb dX10_beside_38 rfl (lv_at hl 3 rfl) ?_
              refine lv_iconst (v := 2) hx hb dX10_beside_39 (by decide) ?_
              refine sp_call (W.runV (As := [.int (nI a), .int (2)]) (rest := []) ⟨hx, hb, hml, hown, hts⟩ (c_X10_p l D am cy μ a (by omega) 2 (by omega)) (cwV 2 hts gX10_beside_X10_p rfl rfl rfl (by decide +kernel) ⟨Nat.le_of_ble_eq_true rfl, Nat.le_of_ble_eq_true rfl⟩) (sp_preV hK hP (κ := 0) (by decide) mE_0 rfl) rfl rfl hl.1 rfl (lv_room (Nat.le_of_ble_eq_true rfl)) dX10_beside_40 ⟨Nat.le_of_ble_eq_true rfl, Nat.le_of_ble_eq_true rfl⟩) ?_
              refine W.eq (g2 := F0 m 43 ls [.int (gP (μ 1) a 2)]) rfl ?_
              refine lv_aload_n hx hb dX10_beside_43 rfl (lv_at hl 2 rfl) ?_
              refine lv_iload hx hb dX10_beside_44 (lv_at hl 0 rfl) ?_
              refine lv_iconst (v := 2) hx hb dX10_beside_46 (by decide) ?_
              refine sp_call (W.runV (As := [.int (nI i), .int (2)]) (rest := [.int (gP (μ 1) a 2)]) ⟨hx, hb, hml, hown, hts⟩ (c_X10_p l D am cy μ i (by omega) 2 (by omega)) (cwV 2 hts gX10_beside_X10_p rfl rfl rfl (by decide +kernel) ⟨Nat.le_of_ble_eq_true rfl, Nat.le_of_ble_eq_true rfl⟩) (sp_preV hK hP (κ := 0) (by decide) mE_0 rfl) rfl rfl hl.1 rfl (lv_room (Nat.le_of_ble_eq_true rfl)) dX10_beside_47 ⟨Nat.le_of_ble_eq_true rfl, Nat.le_of_ble_eq_true rfl⟩) ?_
              refine W.eq (g2 := F0 m 50 ls [.int (gP (μ 1) i 2), .int (gP (μ 1) a 2)]) rfl ?_
              refine lv_isub hx hb dX10_beside_50 ?_
              refine lv_istore (lv' := [(5, .int ((gP (μ 1) a 2) - (gP (μ 1) i 2))), (4, .int (nI i)), (3, .int (nI j_1)), (0, .ref (am (0))), (1, .int (nI a)), (2, .int (0))]) hx hb dX10_beside_51 hl (by decide) rfl (fun ls hl => ?_)
              refine lv_aload_n hx hb dX10_beside_53 rfl (lv_at hl 3 rfl) ?_
              refine lv_iload hx hb dX10_beside_54 (lv_at hl 1 rfl) ?_
              refine lv_iconst (v := 1) hx hb dX10_beside_56 (by decide) ?_
              refine sp_call (W.runV (As := [.int (nI i), .int (1)]) (rest := []) ⟨hx, hb, hml, hown, hts⟩ (c_X10_p l D am cy μ i (by omega) 1 (by omega)) (cwV 2 hts gX10_beside_X10_p rfl rfl rfl (by decide +kernel) ⟨Nat.le_of_ble_eq_true rfl, Nat.le_of_ble_eq_true rfl⟩) (sp_preV hK hP (κ := 0) (by decide) mE_0 rfl) rfl rfl hl.1 rfl (lv_room (Nat.le_of_ble_eq_true rfl)) dX10_beside_57 ⟨Nat.le_of_ble_eq_true rfl, Nat.le_of_ble_eq_true rfl⟩) ?_
              refine W.eq (g2 := F0 m 60 ls [.int (gP (μ 1) i 1)]) rfl ?_
              refine lv_aload_n hx hb dX10_beside_60 rfl (lv_at hl 3 rfl) ?_
              refine lv_iload_n hx hb dX10_beside_61 rfl (lv_at hl 4 rfl) ?_
              refine lv_iconst (v := 1) hx hb dX10_beside_62 (by decide) ?_
              refine sp_call (W.runV (As := [.int (nI a), .int (1)]) (rest := [.int (gP (μ 1) i 1)]) ⟨hx, hb, hml, hown, hts⟩ (c_X10_p l D am cy μ a (by omega) 1 (by omega)) (cwV 2 hts gX10_beside_X10_p rfl rfl rfl (by decide +kernel) ⟨Nat.le_of_ble_eq_true rfl, Nat.le_of_ble_eq_true rfl⟩) (sp_preV hK hP (κ := 0) (by decide) mE_0 rfl) rfl rfl hl.1 rfl (lv_room (Nat.le_of_ble_eq_true rfl)) dX10_beside_63 ⟨Nat.le_of_ble_eq_true rfl, Nat.le_of_ble_eq_true rfl⟩) ?_
              refine W.eq (g2 := F0 m 66 ls [.int (gP (μ 1) a 1), .int (gP (μ 1) i 1)]) rfl ?_
              refine lv_icmp_ne (tgt := 138) hx hb dX10_beside_66 (by decide) (fun c_10 => ?_) (fun c_10 => ?_)
              · skip
                refine lv_iinc (v := nI (i + 1)) (lv' := [(4, .int (nI (i + 1))), (5, .int ((gP (μ 1) a 2) - (gP (μ 1) i 2))), (3, .int (nI j_1)), (0, .ref (am (0))), (1, .int (nI a)), (2, .int (0))]) hx hb dX10_beside_138 hl (k := 1) rfl (nI_1 _) (by decide) rfl (fun ls hl => ?_)
                refine lv_goto (tgt := 5) hx hb dX10_beside_141 (by decide) ?_
                exact ih (i + 1) (some (j_1)) (by omega) (by omega) (by rw [foldI_succ, ← hi_0]; simp [S_bes, b2i, c_10]) ls (lv_sub hl [0, 2, 3, 4, 5] rfl)
              · skip
                refine lv_iload hx hb dX10_beside_69 (lv_at hl 0 rfl) ?_
                refine lv_if_gt (tgt := 77) hx hb dX10_beside_71 (by decide) (fun c_11 => ?_) (fun c_11 => ?_)
                · skip
                  have c_11d := Int32.not_le.mpr c_11
                  refine lv_iload_n hx hb dX10_beside_77 rfl (lv_at hl 2 rfl) ?_
                  refine lv_iconst (v := (-1)) hx hb dX10_beside_78 (by decide) ?_
                  refine lv_icmp_ne (tgt := 89) hx hb dX10_beside_79 (by decide) (fun c_12 => ?_) (fun c_12 => ?_)
                  · skip
                    refine lv_iload_n hx hb dX10_beside_89 rfl (lv_at hl 5 rfl) ?_
                    refine lv_if_eq (tgt := 109) hx hb dX10_beside_90 (by decide) (fun c_13 => ?_) (fun c_13 => ?_)
                    · skip
                      refine lv_aload_n hx hb dX10_beside_109 rfl (lv_at hl 3 rfl) ?_
                      refine lv_iload_n hx hb dX10_beside_110 rfl (lv_at hl 4 rfl) ?_
                      refine lv_iconst (v := 2) hx hb dX10_beside_111 (by decide) ?_
                      refine sp_call (W.runV (As := [.int (nI a), .int (2)]) (rest := []) ⟨hx, hb, hml, hown, hts⟩ (c_X10_p l D am cy μ a (by omega) 2 (by omega)) (cwV 2 hts gX10_beside_X10_p rfl rfl rfl (by decide +kernel) ⟨Nat.le_of_ble_eq_true rfl, Nat.le_of_ble_eq_true rfl⟩) (sp_preV hK hP (κ := 0) (by decide) mE_0 rfl) rfl rfl hl.1 rfl (lv_room (Nat.le_of_ble_eq_true rfl)) dX10_beside_112 ⟨Nat.le_of_ble_eq_true rfl, Nat.le_of_ble_eq_true rfl⟩) ?_
                      refine W.eq (g2 := F0 m 115 ls [.int (gP (μ 1) a 2)]) rfl ?_
                      refine lv_aload_n hx hb dX10_beside_115 rfl (lv_at hl 3 rfl) ?_
                      refine lv_iload_n hx hb dX10_beside_116 rfl (lv_at hl 2 rfl) ?_
                      refine lv_iconst (v := 2) hx hb dX10_beside_117 (by decide) ?_
                      refine sp_call (W.runV (As := [.int (nI j_1), .int (2)]) (rest := [.int (gP (μ 1) a 2)]) ⟨hx, hb, hml, hown, hts⟩ (c_X10_p l D am cy μ j_1 (by omega) 2 (by omega)) (cwV 2 hts gX10_beside_X10_p rfl rfl rfl (by decide +kernel) ⟨Nat.le_of_ble_eq_true rfl, Nat.le_of_ble_eq_true rfl⟩) (sp_preV hK hP (κ := 0) (by decide) mE_0 rfl) rfl rfl hl.1 rfl (lv_room (Nat.le_of_ble_eq_true rfl)) dX10_beside_118 ⟨Nat.le_of_ble_eq_true rfl, Nat.le_of_ble_eq_true rfl⟩) ?_
                      refine W.eq (g2 := F0 m 121 ls [.int (gP (μ 1) j_1 2), .int (gP (μ 1) a 2)]) rfl ?_
                      refine lv_isub hx hb dX10_beside_121 ?_
                      refine lv_istore (lv' := [(6, .int ((gP (μ 1) a 2) - (gP (μ 1) j_1 2))), (5, .int ((gP (μ 1) a 2) - (gP (μ 1) i 2))), (4, .int (nI i)), (3, .int (nI j_1)), (0, .ref (am (0))), (1, .int (nI a)), (2, .int (0))]) hx hb dX10_beside_122 hl (by decide) rfl (fun ls hl => ?_)
                      refine lv_iload hx hb dX10_beside_124 (lv_at hl 1 rfl) ?_
                      refine lv_iload hx hb dX10_beside_126 (lv_at hl 0 rfl) ?_
                      refine lv_icmp_ge (tgt := 136) hx hb dX10_beside_128 (by decide) (fun c_14 => ?_) (fun c_14 => ?_)
                      · skip
                        have c_14d := Int32.not_lt.mpr c_14
                        refine lv_iload_n hx hb dX10_beside_136 rfl (lv_at hl 3 rfl) ?_
                        refine lv_istore_n (lv' := [(3, .int (nI j_1)), (6, .int ((gP (μ 1) a 2) - (gP (μ 1) j_1 2))), (5, .int ((gP (μ 1) a 2) - (gP (μ 1) i 2))), (4, .int (nI i)), (0, .ref (am (0))), (1, .int (nI a)), (2, .int (0))]) hx hb dX10_beside_137 rfl hl (by decide) rfl (fun ls hl => ?_)
                        refine lv_iinc (v := nI (i + 1)) (lv' := [(4, .int (nI (i + 1))), (3, .int (nI j_1)), (6, .int ((gP (μ 1) a 2) - (gP (μ 1) j_1 2))), (5, .int ((gP (μ 1) a 2) - (gP (μ 1) i 2))), (0, .ref (am (0))), (1, .int (nI a)), (2, .int (0))]) hx hb dX10_beside_138 hl (k := 3) rfl (nI_1 _) (by decide) rfl (fun ls hl => ?_)
                        refine lv_goto (tgt := 5) hx hb dX10_beside_141 (by decide) ?_
                        exact ih (i + 1) (some (j_1)) (by omega) (by omega) (by rw [foldI_succ, ← hi_0]; simp [S_bes, b2i, c_10, c_11, c_11d, c_12, c_14, c_14d]) ls (lv_sub hl [0, 1, 4, 5, 6] rfl)
                      · skip
                        have c_14d := Int32.not_le.mp c_14
                        refine lv_iload hx hb dX10_beside_131 (lv_at hl 2 rfl) ?_
                        refine lv_goto (tgt := 137) hx hb dX10_beside_133 (by decide) ?_
                        refine lv_istore_n (lv' := [(3, .int (nI i)), (6, .int ((gP (μ 1) a 2) - (gP (μ 1) j_1 2))), (5, .int ((gP (μ 1) a 2) - (gP (μ 1) i 2))), (4, .int (nI i)), (0, .ref (am (0))), (1, .int (nI a)), (2, .int (0))]) hx hb dX10_beside_137 rfl hl (by decide) rfl (fun ls hl => ?_)
                        refine lv_iinc (v := nI (i + 1)) (lv' := [(4, .int (nI (i + 1))), (3, .int (nI i)), (6, .int ((gP (μ 1) a 2) - (gP (μ 1) j_1 2))), (5, .int ((gP (μ 1) a 2) - (gP (μ 1) i 2))), (0, .ref (am (0))), (1, .int (nI a)), (2, .int (0))]) hx hb dX10_beside_138 hl (k := 3) rfl (nI_1 _) (by decide) rfl (fun ls hl => ?_)
                        refine lv_goto (tgt := 5) hx hb dX10_beside_141 (by decide) ?_
                        exact ih (i + 1) (some (i)) (by omega) (by omega) (by rw [foldI_succ, ← hi_0]; simp [S_bes, b2i, c_10, c_11, c_11d, c_12, c_14, c_14d]) ls (lv_sub hl [0, 1, 4, 5, 6] rfl)
                    · exact absurd c_13 (by decide)
                  · exact absurd c_12 (nI_nm1 (by omega))
                · skip
                  have c_11d := Int32.not_lt.mp c_11
                  refine lv_goto (tgt := 138) hx hb dX10_beside_74 (by decide) ?_
                  refine lv_iinc (v := nI (i + 1)) (lv' := [(4, .int (nI (i + 1))), (5, .int ((gP (μ 1) a 2) - (gP (μ 1) i 2))), (3, .int (nI j_1)), (0, .ref (am (0))), (1, .int (nI a)), (2, .int (0))]) hx hb dX10_beside_138 hl (k := 1) rfl (nI_1 _) (by decide) rfl (fun ls hl => ?_)
                  refine lv_goto (tgt := 5) hx hb dX10_beside_141 (by decide) ?_
                  exact ih (i + 1) (some (j_1)) (by omega) (by omega) (by rw [foldI_succ, ← hi_0]; simp [S_bes, b2i, c_10, c_11, c_11d]) ls (lv_sub hl [0, 2, 3, 4, 5] rfl)
            · exact absurd c_9 (by decide)
    exact loop_5 (n + 1) (0) (none)  (by omega) (by omega) (rfl) ls (lv_sub hl [0, 1, 2, 3, 4] rfl)
  · skip
    have hl := lv_entry ([.ref (am (0)), .int (nI a), .int (1)]) (n := 7) (Nat.le_of_ble_eq_true rfl)
    refine W.eq (lg_entry_eq _ ([.ref (am (0)), .int (nI a), .int (1)]) _) ?_
    generalize (lg_sl ([.ref (am (0)), .int (nI a), .int (1)]) ++ List.replicate (7 - (lg_sl ([.ref (am (0)), .int (nI a), .int (1)])).length) Slot.unset).toArray = ls at hl ⊢
    have hl : lv_has ls 7 [(0, .ref (am (0))), (1, .int (nI a)), (2, .int (1))] := hl
    refine lv_iconst (v := (-1)) hx hb dX10_beside_0 (by decide) ?_
    refine lv_istore_n (lv' := [(3, .int ((-1))), (0, .ref (am (0))), (1, .int (nI a)), (2, .int (1))]) hx hb dX10_beside_1 rfl hl (by decide) rfl (fun ls hl => ?_)
    refine lv_iconst (v := 0) hx hb dX10_beside_2 (by decide) ?_
    refine lv_istore (lv' := [(4, .int (0)), (3, .int ((-1))), (0, .ref (am (0))), (1, .int (nI a)), (2, .int (1))]) hx hb dX10_beside_3 hl (by decide) rfl (fun ls hl => ?_)
    have loop_5 : ∀ (fu i : Nat) (x : Option Nat), (i ≤ n) → (n - i < fu) → (x = foldI (S_bes (μ 1) a true) none i) → ∀ ls : Array Slot, lv_has ls 7 [(4, .int (nI i)), (3, .int (posI x)), (0, .ref (am (0))), (1, .int (nI a)), (2, .int (1))] → W p l e (headSpec wsX10_beside ({ frames := 1, cells := 0, slots := 0, locals := 22 } : Room)).room s m ([.ref (am (0)), .int (nI a), .int (1)] : List Value).toArray below meth c s.heap [] 0 0 (MQ below (sp_S (some (.int (posI (m_bes (μ 1) n a true))))) ([.ref (am (0)), .int (nI a), .int (1)] : List Value).toArray s 0 0 (fun _ => False)) (F0 m 5 ls []) := by
      intro fu
      induction fu with
      | zero => intro i x hle hlt hi_0 ls hl; exact absurd hlt (Nat.not_lt_zero _)
      | succ fu ih =>
        intro i x hle hlt hi_0 ls hl
        rcases x with _ | j_15
        · have hl : lv_has ls 7 [(4, .int (nI i)), (3, .int ((-1))), (0, .ref (am (0))), (1, .int (nI a)), (2, .int (1))] := hl
          refine lv_iload hx hb dX10_beside_5 (lv_at hl 0 rfl) ?_
          refine lv_aload_n hx hb dX10_beside_7 rfl (lv_at hl 2 rfl) ?_
          refine sp_get hx hb hts wi_X10_beside_X10 hown hK hP (κ := 0) (by decide) mE_0 rfl 1 (by decide) (hts _ (List.mem_of_getElem? (i := 1) rfl)) (fun _ h => h) rfl dX10_beside_8 ?_
          refine lv_iconst (v := 1) hx hb dX10_beside_11 (by decide) ?_
          refine sp_iald hx hb hK hP (κ := 1) (by decide) 1 mE_1 rfl 1 rfl (by omega) (by decide) dX10_beside_12 ?_
          refine W.eq (g2 := F0 m 13 ls [.int (nI n), .int (nI i)]) (by rw [hM.1]) ?_
          refine lv_icmp_ge (tgt := 144) hx hb dX10_beside_13 (by decide) (fun c_16 => ?_) (fun c_16 => ?_)
          · skip
            have c_16d := Int32.not_lt.mpr c_16
            have hx_i : i = n := by have := (nI_leI (a := n) (b := i) (by omega) (by omega)).mp c_16; omega
            try rw [hx_i] at hi_0
            refine lv_iload_n hx hb dX10_beside_144 rfl (lv_at hl 1 rfl) ?_
            exact W.iret (v := (-1)) hx hb hr (fun T9 hT9 _ => ⟨congrArg (fun z9 => Outcome.returned (some (Value.int z9))) (show ((-1) : Int32) = posI (m_bes (μ 1) n a true) from (by exact congrArg posI hi_0)), hT9⟩) (fun _ h => by cases h) dX10_beside_145
          · skip
            have c_16d := Int32.not_le.mp c_16
            have hb_i : i < n := Nat.lt_of_not_le (fun z => c_16 (nI_le z (by omega)))
            refine lv_iload_n hx hb dX10_beside_16 rfl (lv_at hl 4 rfl) ?_
            refine lv_if_eq (tgt := 37) hx hb dX10_beside_17 (by decide) (fun c_17 => ?_) (fun c_17 => ?_)
            · exact absurd c_17 (by decide)
            · skip
              refine lv_aload_n hx hb dX10_beside_20 rfl (lv_at hl 2 rfl) ?_
              refine lv_iload hx hb dX10_beside_21 (lv_at hl 0 rfl) ?_
              refine lv_iconst (v := 2) hx hb dX10_beside_23 (by decide) ?_
              refine sp_call (W.runV (As := [.int (nI i), .int (2)]) (rest := []) ⟨hx, hb, hml, hown, hts⟩ (c_X10_p l D am cy μ i (by omega) 2 (by omega)) (cwV 2 hts gX10_beside_X10_p rfl rfl rfl (by decide +kernel) ⟨Nat.le_of_ble_eq_true rfl, Nat.le_of_ble_eq_true rfl⟩) (sp_preV hK hP (κ := 0) (by decide) mE_0 rfl) rfl rfl hl.1 rfl (lv_room (Nat.le_of_ble_eq_true rfl)) dX10_beside_24 ⟨Nat.le_of_ble_eq_true rfl, Nat.le_of_ble_eq_true rfl⟩) ?_
              refine W.eq (g2 := F0 m 27 ls [.int (gP (μ 1) i 2)]) rfl ?_
              refine lv_aload_n hx hb dX10_beside_27 rfl (lv_at hl 2 rfl) ?_
              refine lv_iload_n hx hb dX10_beside_28 rfl (lv_at hl 3 rfl) ?_
              refine lv_iconst (v := 2) hx hb dX10_beside_29 (by decide) ?_
              refine sp_call (W.runV (As := [.int (nI a), .int (2)]) (rest := [.int (gP (μ 1) i 2)]) ⟨hx, hb, hml, hown, hts⟩ (c_X10_p l D am cy μ a (by omega) 2 (by omega)) (cwV 2 hts gX10_beside_X10_p rfl rfl rfl (by decide +kernel) ⟨Nat.le_of_ble_eq_true rfl, Nat.le_of_ble_eq_true rfl⟩) (sp_preV hK hP (κ := 0) (by decide) mE_0 rfl) rfl rfl hl.1 rfl (lv_room (Nat.le_of_ble_eq_true rfl)) dX10_beside_30 ⟨Nat.le_of_ble_eq_true rfl, Nat.le_of_ble_eq_true rfl⟩) ?_
              refine W.eq (g2 := F0 m 33 ls [.int (gP (μ 1) a 2), .int (gP (μ 1) i 2)]) rfl ?_
              refine lv_isub hx hb dX10_beside_33 ?_
              refine lv_goto (tgt := 51) hx hb dX10_beside_34 (by decide) ?_
              refine lv_istore (lv' := [(5, .int ((gP (μ 1) i 2) - (gP (μ 1) a 2))), (4, .int (nI i)), (3, .int ((-1))), (0, .ref (am (0))), (1, .int (nI a)), (2, .int (1))]) hx hb dX10_beside_51 hl (by decide) rfl (fun ls hl => ?_)
              refine lv_aload_n hx hb dX10_beside_53 rfl (lv_at hl 3 rfl) ?_
              refine lv_iload hx hb dX10_beside_54 (lv_at hl 1 rfl) ?_
              refine lv_iconst (v := 1) hx hb dX10_beside_56 (by decide) ?_
              refine sp_call (W.runV (As := [.int (nI i), .int (1)]) (rest := []) ⟨hx, hb, hml, hown, hts⟩ (c_X10_p l D am cy μ i (by omega) 1 (by omega)) (cwV 2 hts gX10_beside_X10_p rfl rfl rfl (by decide +kernel) ⟨Nat.le_of_ble_eq_true rfl, Nat.le_of_ble_eq_true rfl⟩) (sp_preV hK hP (κ := 0) (by decide) mE_0 rfl) rfl rfl hl.1 rfl (lv_room (Nat.le_of_ble_eq_true rfl)) dX10_beside_57 ⟨Nat.le_of_ble_eq_true rfl, Nat.le_of_ble_eq_true rfl⟩) ?_
              refine W.eq (g2 := F0 m 60 ls [.int (gP (μ 1) i 1)]) rfl ?_
              refine lv_aload_n hx hb dX10_beside_60 rfl (lv_at hl 3 rfl) ?_
              refine lv_iload_n hx hb dX10_beside_61 rfl (lv_at hl 4 rfl) ?_
              refine lv_iconst (v := 1) hx hb dX10_beside_62 (by decide) ?_
              refine sp_call (W.runV (As := [.int (nI a), .int (1)]) (rest := [.int (gP (μ 1) i 1)]) ⟨hx, hb, hml, hown, hts⟩ (c_X10_p l D am cy μ a (by omega) 1 (by omega)) (cwV 2 hts gX10_beside_X10_p rfl rfl rfl (by decide +kernel) ⟨Nat.le_of_ble_eq_true rfl, Nat.le_of_ble_eq_true rfl⟩) (sp_preV hK hP (κ := 0) (by decide) mE_0 rfl) rfl rfl hl.1 rfl (lv_room (Nat.le_of_ble_eq_true rfl)) dX10_beside_63 ⟨Nat.le_of_ble_eq_true rfl, Nat.le_of_ble_eq_true rfl⟩) ?_
              refine W.eq (g2 := F0 m 66 ls [.int (gP (μ 1) a 1), .int (gP (μ 1) i 1)]) rfl ?_
              refine lv_icmp_ne (tgt := 138) hx hb dX10_beside_66 (by decide) (fun c_18 => ?_) (fun c_18 => ?_)
              · skip
                refine lv_iinc (v := nI (i + 1)) (lv' := [(4, .int (nI (i + 1))), (5, .int ((gP (μ 1) i 2) - (gP (μ 1) a 2))), (3, .int ((-1))), (0, .ref (am (0))), (1, .int (nI a)), (2, .int (1))]) hx hb dX10_beside_138 hl (k := 1) rfl (nI_1 _) (by decide) rfl (fun ls hl => ?_)
                refine lv_goto (tgt := 5) hx hb dX10_beside_141 (by decide) ?_
                exact ih (i + 1) none (by omega) (by omega) (by rw [foldI_succ, ← hi_0]; simp [S_bes, b2i, c_18]) ls (lv_sub hl [0, 2, 3, 4, 5] rfl)
              · skip
                refine lv_iload hx hb dX10_beside_69 (lv_at hl 0 rfl) ?_
                refine lv_if_gt (tgt := 77) hx hb dX10_beside_71 (by decide) (fun c_19 => ?_) (fun c_19 => ?_)
                · skip
                  have c_19d := Int32.not_le.mpr c_19
                  refine lv_iload_n hx hb dX10_beside_77 rfl (lv_at hl 2 rfl) ?_
                  refine lv_iconst (v := (-1)) hx hb dX10_beside_78 (by decide) ?_
                  refine lv_icmp_ne (tgt := 89) hx hb dX10_beside_79 (by decide) (fun c_20 => ?_) (fun c_20 => ?_)
                  · exact absurd c_20 (by decide)
                  · skip
                    refine lv_iload hx hb dX10_beside_82 (lv_at hl 0 rfl) ?_
                    refine lv_iconst (v := 1) hx hb dX10_beside_84 (by decide) ?_
                    refine lv_iadd hx hb dX10_beside_85 ?_
                    refine lv_goto (tgt := 122) hx hb dX10_beside_86 (by decide) ?_
                    refine lv_istore (lv' := [(6, .int (((gP (μ 1) i 2) - (gP (μ 1) a 2)) + 1)), (5, .int ((gP (μ 1) i 2) - (gP (μ 1) a 2))), (4, .int (nI i)), (3, .int ((-1))), (0, .ref (am (0))), (1, .int (nI a)), (2, .int (1))]) hx hb dX10_beside_122 hl (by decide) rfl (fun ls hl => ?_)
                    refine lv_iload hx hb dX10_beside_124 (lv_at hl 1 rfl) ?_
                    refine lv_iload hx hb dX10_beside_126 (lv_at hl 0 rfl) ?_
                    refine lv_icmp_ge (tgt := 136) hx hb dX10_beside_128 (by decide) (fun c_21 => ?_) (fun c_21 => ?_)
                    · skip
                      have c_21d := Int32.not_lt.mpr c_21
                      refine lv_iload_n hx hb dX10_beside_136 rfl (lv_at hl 3 rfl) ?_
                      refine lv_istore_n (lv' := [(3, .int ((-1))), (6, .int (((gP (μ 1) i 2) - (gP (μ 1) a 2)) + 1)), (5, .int ((gP (μ 1) i 2) - (gP (μ 1) a 2))), (4, .int (nI i)), (0, .ref (am (0))), (1, .int (nI a)), (2, .int (1))]) hx hb dX10_beside_137 rfl hl (by decide) rfl (fun ls hl => ?_)
                      refine lv_iinc (v := nI (i + 1)) (lv' := [(4, .int (nI (i + 1))), (3, .int ((-1))), (6, .int (((gP (μ 1) i 2) - (gP (μ 1) a 2)) + 1)), (5, .int ((gP (μ 1) i 2) - (gP (μ 1) a 2))), (0, .ref (am (0))), (1, .int (nI a)), (2, .int (1))]) hx hb dX10_beside_138 hl (k := 3) rfl (nI_1 _) (by decide) rfl (fun ls hl => ?_)
                      refine lv_goto (tgt := 5) hx hb dX10_beside_141 (by decide) ?_
                      exact ih (i + 1) none (by omega) (by omega) (by rw [foldI_succ, ← hi_0]; simp [S_bes, b2i, c_18, c_19, c_19d, c_21, c_21d]) ls (lv_sub hl [0, 1, 4, 5, 6] rfl)
                    · skip
                      have c_21d := Int32.not_le.mp c_21
                      refine lv_iload hx hb dX10_beside_131 (lv_at hl 2 rfl) ?_
                      refine lv_goto (tgt := 137) hx hb dX10_beside_133 (by decide) ?_
                      refine lv_istore_n (lv' := [(3, .int (nI i)), (6, .int (((gP (μ 1) i 2) - (gP (μ 1) a 2)) + 1)), (5, .int ((gP (μ 1) i 2) - (gP (μ 1) a 2))), (4, .int (nI i)), (0, .ref (am (0))), (1, .int (nI a)), (2, .int (1))]) hx hb dX10_beside_137 rfl hl (by decide) rfl (fun ls hl => ?_)
                      refine lv_iinc (v := nI (i + 1)) (lv' := [(4, .int (nI (i + 1))), (3, .int (nI i)), (6, .int (((gP (μ 1) i 2) - (gP (μ 1) a 2)) + 1)), (5, .int ((gP (μ 1) i 2) - (gP (μ 1) a 2))), (0, .ref (am (0))), (1, .int (nI a)), (2, .int (1))]) hx hb dX10_beside_138 hl (k := 3) rfl (nI_1 _) (by decide) rfl (fun ls hl => ?_)
                      refine lv_goto (tgt := 5) hx hb dX10_beside_141 (by decide) ?_
                      exact ih (i + 1) (some (i)) (by omega) (by omega) (by rw [foldI_succ, ← hi_0]; simp [S_bes, b2i, c_18, c_19, c_19d, c_21, c_21d]) ls (lv_sub hl [0, 1, 4, 5, 6] rfl)
                · skip
                  have c_19d := Int32.not_lt.mp c_19
                  refine lv_goto (tgt := 138) hx hb dX10_beside_74 (by decide) ?_
                  refine lv_iinc (v := nI (i + 1)) (lv' := [(4, .int (nI (i + 1))), (5, .int ((gP (μ 1) i 2) - (gP (μ 1) a 2))), (3, .int ((-1))), (0, .ref (am (0))), (1, .int (nI a)), (2, .int (1))]) hx hb dX10_beside_138 hl (k := 1) rfl (nI_1 _) (by decide) rfl (fun ls hl => ?_)
                  refine lv_goto (tgt := 5) hx hb dX10_beside_141 (by decide) ?_
                  exact ih (i + 1) none (by omega) (by omega) (by rw [foldI_succ, ← hi_0]; simp [S_bes, b2i, c_18, c_19, c_19d]) ls (lv_sub hl [0, 2, 3, 4, 5] rfl)
        · have hl : lv_has ls 7 [(4, .int (nI i)), (3, .int (nI j_15)), (0, .ref (am (0))), (1, .int (nI a)), (2, .int (1))] := hl
          have hj_15 : j_15 < n := Nat.lt_of_lt_of_le (foldI_lt (S_bes_or _ _ _) hi_0.symm) hle
          refine lv_iload hx hb dX10_beside_5 (lv_at hl 0 rfl) ?_
          refine lv_aload_n hx hb dX10_beside_7 rfl (lv_at hl 2 rfl) ?_
          refine sp_get hx hb hts wi_X10_beside_X10 hown hK hP (κ := 0) (by decide) mE_0 rfl 1 (by decide) (hts _ (List.mem_of_getElem? (i := 1) rfl)) (fun _ h => h) rfl dX10_beside_8 ?_
          refine lv_iconst (v := 1) hx hb dX10_beside_11 (by decide) ?_
          refine sp_iald hx hb hK hP (κ := 1) (by decide) 1 mE_1 rfl 1 rfl (by omega) (by decide) dX10_beside_12 ?_
          refine W.eq (g2 := F0 m 13 ls [.int (nI n), .int (nI i)]) (by rw [hM.1]) ?_
          refine lv_icmp_ge (tgt := 144) hx hb dX10_beside_13 (by decide) (fun c_22 => ?_) (fun c_22 => ?_)
          · skip
            have c_22d := Int32.not_lt.mpr c_22
            have hx_i : i = n := by have := (nI_leI (a := n) (b := i) (by omega) (by omega)).mp c_22; omega
            try rw [hx_i] at hi_0
            refine lv_iload_n hx hb dX10_beside_144 rfl (lv_at hl 1 rfl) ?_
            exact W.iret (v := nI j_15) hx hb hr (fun T9 hT9 _ => ⟨congrArg (fun z9 => Outcome.returned (some (Value.int z9))) (show (nI j_15 : Int32) = posI (m_bes (μ 1) n a true) from (by exact congrArg posI hi_0)), hT9⟩) (fun _ h => by cases h) dX10_beside_145
          · skip
            have c_22d := Int32.not_le.mp c_22
            have hb_i : i < n := Nat.lt_of_not_le (fun z => c_22 (nI_le z (by omega)))
            refine lv_iload_n hx hb dX10_beside_16 rfl (lv_at hl 4 rfl) ?_
            refine lv_if_eq (tgt := 37) hx hb dX10_beside_17 (by decide) (fun c_23 => ?_) (fun c_23 => ?_)
            · exact absurd c_23 (by decide)
            · skip
              refine lv_aload_n hx hb dX10_beside_20 rfl (lv_at hl 2 rfl) ?_
              refine lv_iload hx hb dX10_beside_21 (lv_at hl 0 rfl) ?_
              refine lv_iconst (v := 2) hx hb dX10_beside_23 (by decide) ?_
              refine sp_call (W.runV (As := [.int (nI i), .int (2)]) (rest := []) ⟨hx, hb, hml, hown, hts⟩ (c_X10_p l D am cy μ i (by omega) 2 (by omega)) (cwV 2 hts gX10_beside_X10_p rfl rfl rfl (by decide +kernel) ⟨Nat.le_of_ble_eq_true rfl, Nat.le_of_ble_eq_true rfl⟩) (sp_preV hK hP (κ := 0) (by decide) mE_0 rfl) rfl rfl hl.1 rfl (lv_room (Nat.le_of_ble_eq_true rfl)) dX10_beside_24 ⟨Nat.le_of_ble_eq_true rfl, Nat.le_of_ble_eq_true rfl⟩) ?_
              refine W.eq (g2 := F0 m 27 ls [.int (gP (μ 1) i 2)]) rfl ?_
              refine lv_aload_n hx hb dX10_beside_27 rfl (lv_at hl 2 rfl) ?_
              refine lv_iload_n hx hb dX10_beside_28 rfl (lv_at hl 3 rfl) ?_
              refine lv_iconst (v := 2) hx hb dX10_beside_29 (by decide) ?_
              refine sp_call (W.runV (As := [.int (nI a), .int (2)]) (rest := [.int (gP (μ 1) i 2)]) ⟨hx, hb, hml, hown, hts⟩ (c_X10_p l D am cy μ a (by omega) 2 (by omega)) (cwV 2 hts gX10_beside_X10_p rfl rfl rfl (by decide +kernel) ⟨Nat.le_of_ble_eq_true rfl, Nat.le_of_ble_eq_true rfl⟩) (sp_preV hK hP (κ := 0) (by decide) mE_0 rfl) rfl rfl hl.1 rfl (lv_room (Nat.le_of_ble_eq_true rfl)) dX10_beside_30 ⟨Nat.le_of_ble_eq_true rfl, Nat.le_of_ble_eq_true rfl⟩) ?_
              refine W.eq (g2 := F0 m 33 ls [.int (gP (μ 1) a 2), .int (gP (μ 1) i 2)]) rfl ?_
              refine lv_isub hx hb dX10_beside_33 ?_
              refine lv_goto (tgt := 51) hx hb dX10_beside_34 (by decide) ?_
              refine lv_istore (lv' := [(5, .int ((gP (μ 1) i 2) - (gP (μ 1) a 2))), (4, .int (nI i)), (3, .int (nI j_15)), (0, .ref (am (0))), (1, .int (nI a)), (2, .int (1))]) hx hb dX10_beside_51 hl (by decide) rfl (fun ls hl => ?_)
              refine lv_aload_n hx hb dX10_beside_53 rfl (lv_at hl 3 rfl) ?_
              refine lv_iload hx hb dX10_beside_54 (lv_at hl 1 rfl) ?_
              refine lv_iconst (v := 1) hx hb dX10_beside_56 (by decide) ?_
              refine sp_call (W.runV (As := [.int (nI i), .int (1)]) (rest := []) ⟨hx, hb, hml, hown, hts⟩ (c_X10_p l D am cy μ i (by omega) 1 (by omega)) (cwV 2 hts gX10_beside_X10_p rfl rfl rfl (by decide +kernel) ⟨Nat.le_of_ble_eq_true rfl, Nat.le_of_ble_eq_true rfl⟩) (sp_preV hK hP (κ := 0) (by decide) mE_0 rfl) rfl rfl hl.1 rfl (lv_room (Nat.le_of_ble_eq_true rfl)) dX10_beside_57 ⟨Nat.le_of_ble_eq_true rfl, Nat.le_of_ble_eq_true rfl⟩) ?_
              refine W.eq (g2 := F0 m 60 ls [.int (gP (μ 1) i 1)]) rfl ?_
              refine lv_aload_n hx hb dX10_beside_60 rfl (lv_at hl 3 rfl) ?_
              refine lv_iload_n hx hb dX10_beside_61 rfl (lv_at hl 4 rfl) ?_
              refine lv_iconst (v := 1) hx hb dX10_beside_62 (by decide) ?_
              refine sp_call (W.runV (As := [.int (nI a), .int (1)]) (rest := [.int (gP (μ 1) i 1)]) ⟨hx, hb, hml, hown, hts⟩ (c_X10_p l D am cy μ a (by omega) 1 (by omega)) (cwV 2 hts gX10_beside_X10_p rfl rfl rfl (by decide +kernel) ⟨Nat.le_of_ble_eq_true rfl, Nat.le_of_ble_eq_true rfl⟩) (sp_preV hK hP (κ := 0) (by decide) mE_0 rfl) rfl rfl hl.1 rfl (lv_room (Nat.le_of_ble_eq_true rfl)) dX10_beside_63 ⟨Nat.le_of_ble_eq_true rfl, Nat.le_of_ble_eq_true rfl⟩) ?_
              refine W.eq (g2 := F0 m 66 ls [.int (gP (μ 1) a 1), .int (gP (μ 1) i 1)]) rfl ?_
              refine lv_icmp_ne (tgt := 138) hx hb dX10_beside_66 (by decide) (fun c_24 => ?_) (fun c_24 => ?_)
              · skip
                refine lv_iinc (v := nI (i + 1)) (lv' := [(4, .int (nI (i + 1))), (5, .int ((gP (μ 1) i 2) - (gP (μ 1) a 2))), (3, .int (nI j_15)), (0, .ref (am (0))), (1, .int (nI a)), (2, .int (1))]) hx hb dX10_beside_138 hl (k := 1) rfl (nI_1 _) (by decide) rfl (fun ls hl => ?_)
                refine lv_goto (tgt := 5) hx hb dX10_beside_141 (by decide) ?_
                exact ih (i + 1) (some (j_15)) (by omega) (by omega) (by rw [foldI_succ, ← hi_0]; simp [S_bes, b2i, c_24]) ls (lv_sub hl [0, 2, 3, 4, 5] rfl)
              · skip
                refine lv_iload hx hb dX10_beside_69 (lv_at hl 0 rfl) ?_
                refine lv_if_gt (tgt := 77) hx hb dX10_beside_71 (by decide) (fun c_25 => ?_) (fun c_25 => ?_)
                · skip
                  have c_25d := Int32.not_le.mpr c_25
                  refine lv_iload_n hx hb dX10_beside_77 rfl (lv_at hl 2 rfl) ?_
                  refine lv_iconst (v := (-1)) hx hb dX10_beside_78 (by decide) ?_
                  refine lv_icmp_ne (tgt := 89) hx hb dX10_beside_79 (by decide) (fun c_26 => ?_) (fun c_26 => ?_)
                  · skip
                    refine lv_iload_n hx hb dX10_beside_89 rfl (lv_at hl 5 rfl) ?_
                    refine lv_if_eq (tgt := 109) hx hb dX10_beside_90 (by decide) (fun c_27 => ?_) (fun c_27 => ?_)
                    · exact absurd c_27 (by decide)
                    · skip
                      refine lv_aload_n hx hb dX10_beside_93 rfl (lv_at hl 3 rfl) ?_
                      refine lv_iload_n hx hb dX10_beside_94 rfl (lv_at hl 2 rfl) ?_
                      refine lv_iconst (v := 2) hx hb dX10_beside_95 (by decide) ?_
                      refine sp_call (W.runV (As := [.int (nI j_15), .int (2)]) (rest := []) ⟨hx, hb, hml, hown, hts⟩ (c_X10_p l D am cy μ j_15 (by omega) 2 (by omega)) (cwV 2 hts gX10_beside_X10_p rfl rfl rfl (by decide +kernel) ⟨Nat.le_of_ble_eq_true rfl, Nat.le_of_ble_eq_true rfl⟩) (sp_preV hK hP (κ := 0) (by decide) mE_0 rfl) rfl rfl hl.1 rfl (lv_room (Nat.le_of_ble_eq_true rfl)) dX10_beside_96 ⟨Nat.le_of_ble_eq_true rfl, Nat.le_of_ble_eq_true rfl⟩) ?_
                      refine W.eq (g2 := F0 m 99 ls [.int (gP (μ 1) j_15 2)]) rfl ?_
                      refine lv_aload_n hx hb dX10_beside_99 rfl (lv_at hl 3 rfl) ?_
                      refine lv_iload_n hx hb dX10_beside_100 rfl (lv_at hl 4 rfl) ?_
                      refine lv_iconst (v := 2) hx hb dX10_beside_101 (by decide) ?_
                      refine sp_call (W.runV (As := [.int (nI a), .int (2)]) (rest := [.int (gP (μ 1) j_15 2)]) ⟨hx, hb, hml, hown, hts⟩ (c_X10_p l D am cy μ a (by omega) 2 (by omega)) (cwV 2 hts gX10_beside_X10_p rfl rfl rfl (by decide +kernel) ⟨Nat.le_of_ble_eq_true rfl, Nat.le_of_ble_eq_true rfl⟩) (sp_preV hK hP (κ := 0) (by decide) mE_0 rfl) rfl rfl hl.1 rfl (lv_room (Nat.le_of_ble_eq_true rfl)) dX10_beside_102 ⟨Nat.le_of_ble_eq_true rfl, Nat.le_of_ble_eq_true rfl⟩) ?_
                      refine W.eq (g2 := F0 m 105 ls [.int (gP (μ 1) a 2), .int (gP (μ 1) j_15 2)]) rfl ?_
                      refine lv_isub hx hb dX10_beside_105 ?_
                      refine lv_goto (tgt := 122) hx hb dX10_beside_106 (by decide) ?_
                      refine lv_istore (lv' := [(6, .int ((gP (μ 1) j_15 2) - (gP (μ 1) a 2))), (5, .int ((gP (μ 1) i 2) - (gP (μ 1) a 2))), (4, .int (nI i)), (3, .int (nI j_15)), (0, .ref (am (0))), (1, .int (nI a)), (2, .int (1))]) hx hb dX10_beside_122 hl (by decide) rfl (fun ls hl => ?_)
                      refine lv_iload hx hb dX10_beside_124 (lv_at hl 1 rfl) ?_
                      refine lv_iload hx hb dX10_beside_126 (lv_at hl 0 rfl) ?_
                      refine lv_icmp_ge (tgt := 136) hx hb dX10_beside_128 (by decide) (fun c_28 => ?_) (fun c_28 => ?_)
                      · skip
                        have c_28d := Int32.not_lt.mpr c_28
                        refine lv_iload_n hx hb dX10_beside_136 rfl (lv_at hl 3 rfl) ?_
                        refine lv_istore_n (lv' := [(3, .int (nI j_15)), (6, .int ((gP (μ 1) j_15 2) - (gP (μ 1) a 2))), (5, .int ((gP (μ 1) i 2) - (gP (μ 1) a 2))), (4, .int (nI i)), (0, .ref (am (0))), (1, .int (nI a)), (2, .int (1))]) hx hb dX10_beside_137 rfl hl (by decide) rfl (fun ls hl => ?_)
                        refine lv_iinc (v := nI (i + 1)) (lv' := [(4, .int (nI (i + 1))), (3, .int (nI j_15)), (6, .int ((gP (μ 1) j_15 2) - (gP (μ 1) a 2))), (5, .int ((gP (μ 1) i 2) - (gP (μ 1) a 2))), (0, .ref (am (0))), (1, .int (nI a)), (2, .int (1))]) hx hb dX10_beside_138 hl (k := 3) rfl (nI_1 _) (by decide) rfl (fun ls hl => ?_)
                        refine lv_goto (tgt := 5) hx hb dX10_beside_141 (by decide) ?_
                        exact ih (i + 1) (some (j_15)) (by omega) (by omega) (by rw [foldI_succ, ← hi_0]; simp [S_bes, b2i, c_24, c_25, c_25d, c_26, c_28, c_28d]) ls (lv_sub hl [0, 1, 4, 5, 6] rfl)
                      · skip
                        have c_28d := Int32.not_le.mp c_28
                        refine lv_iload hx hb dX10_beside_131 (lv_at hl 2 rfl) ?_
                        refine lv_goto (tgt := 137) hx hb dX10_beside_133 (by decide) ?_
                        refine lv_istore_n (lv' := [(3, .int (nI i)), (6, .int ((gP (μ 1) j_15 2) - (gP (μ 1) a 2))), (5, .int ((gP (μ 1) i 2) - (gP (μ 1) a 2))), (4, .int (nI i)), (0, .ref (am (0))), (1, .int (nI a)), (2, .int (1))]) hx hb dX10_beside_137 rfl hl (by decide) rfl (fun ls hl => ?_)
                        refine lv_iinc (v := nI (i + 1)) (lv' := [(4, .int (nI (i + 1))), (3, .int (nI i)), (6, .int ((gP (μ 1) j_15 2) - (gP (μ 1) a 2))), (5, .int ((gP (μ 1) i 2) - (gP (μ 1) a 2))), (0, .ref (am (0))), (1, .int (nI a)), (2, .int (1))]) hx hb dX10_beside_138 hl (k := 3) rfl (nI_1 _) (by decide) rfl (fun ls hl => ?_)
                        refine lv_goto (tgt := 5) hx hb dX10_beside_141 (by decide) ?_
                        exact ih (i + 1) (some (i)) (by omega) (by omega) (by rw [foldI_succ, ← hi_0]; simp [S_bes, b2i, c_24, c_25, c_25d, c_26, c_28, c_28d]) ls (lv_sub hl [0, 1, 4, 5, 6] rfl)
                  · exact absurd c_26 (nI_nm1 (by omega))
                · skip
                  have c_25d := Int32.not_lt.mp c_25
                  refine lv_goto (tgt := 138) hx hb dX10_beside_74 (by decide) ?_
                  refine lv_iinc (v := nI (i + 1)) (lv' := [(4, .int (nI (i + 1))), (5, .int ((gP (μ 1) i 2) - (gP (μ 1) a 2))), (3, .int (nI j_15)), (0, .ref (am (0))), (1, .int (nI a)), (2, .int (1))]) hx hb dX10_beside_138 hl (k := 1) rfl (nI_1 _) (by decide) rfl (fun ls hl => ?_)
                  refine lv_goto (tgt := 5) hx hb dX10_beside_141 (by decide) ?_
                  exact ih (i + 1) (some (j_15)) (by omega) (by omega) (by rw [foldI_succ, ← hi_0]; simp [S_bes, b2i, c_24, c_25, c_25d]) ls (lv_sub hl [0, 2, 3, 4, 5] rfl)
    exact loop_5 (n + 1) (0) (none)  (by omega) (by omega) (rfl) ls (lv_sub hl [0, 1, 2, 3, 4] rfl)

set_option maxHeartbeats 4000000 in
set_option maxRecDepth 100000 in
theorem c_X10_distance (l : Launch) (D : va_G) (am : Nat → Nat) (cy : Nat → ClassId) (μ : Nat → Nat → Int32) (n : Nat) (t : Nat) (hM : MS (μ 1) n t) (a : Nat) (ha : a < n) (r : Int32) (c1 : Int32) : Met l yX10_distance wsX10_distance ({ frames := 1, cells := 0, slots := 0, locals := 22 } : Room) (sp_Pc D (tyG cy) [.ref (am (0)), .int (nI a), .int (r), .int (c1)] (mW am cy μ)) (sp_S (some (.int (m_dist (μ 1) a r c1)))) 0 0 (fun _ => False) := by
  refine Met.ofW (cc := cX10_distance) (maxL := 4) (ret := (some .int)) (by decide) rfl ?_
  intro p e s m args below meth c s₁ B hml hv
  obtain ⟨rfl, hP, hK⟩ := hv
  have hx := B.exec
  have hb := B.bytes
  have hr := B.returns
  have hts := atoms_spec (ws := wsX10_distance) B.pre
  have hown : s.vm.findClass RX10 = some m.cls := findClass_of_methodNamed B.named
  have hlocks := B.notSynchronized
  have hn30 := hM.2.1
  have ht6 := hM.2.2.2
  have hl := lv_entry ([.ref (am (0)), .int (nI a), .int (r), .int (c1)]) (n := 4) (Nat.le_of_ble_eq_true rfl)
  refine W.eq (lg_entry_eq _ ([.ref (am (0)), .int (nI a), .int (r), .int (c1)]) _) ?_
  generalize (lg_sl ([.ref (am (0)), .int (nI a), .int (r), .int (c1)]) ++ List.replicate (4 - (lg_sl ([.ref (am (0)), .int (nI a), .int (r), .int (c1)])).length) Slot.unset).toArray = ls at hl ⊢
  have hl : lv_has ls 4 [(0, .ref (am (0))), (1, .int (nI a)), (2, .int (r)), (3, .int (c1))] := hl
  refine lv_aload_n hx hb dX10_distance_0 rfl (lv_at hl 0 rfl) ?_
  refine lv_iload_n hx hb dX10_distance_1 rfl (lv_at hl 1 rfl) ?_
  refine lv_iconst (v := 3) hx hb dX10_distance_2 (by decide) ?_
  refine sp_call (W.runV (As := [.int (nI a), .int (3)]) (rest := []) ⟨hx, hb, hml, hown, hts⟩ (c_X10_p l D am cy μ a (by omega) 3 (by omega)) (cwV 2 hts gX10_distance_X10_p rfl rfl rfl (by decide +kernel) ⟨Nat.le_of_ble_eq_true rfl, Nat.le_of_ble_eq_true rfl⟩) (sp_preV hK hP (κ := 0) (by decide) mE_0 rfl) rfl rfl hl.1 rfl (lv_room (Nat.le_of_ble_eq_true rfl)) dX10_distance_3 ⟨Nat.le_of_ble_eq_true rfl, Nat.le_of_ble_eq_true rfl⟩) ?_
  refine W.eq (g2 := F0 m 6 ls [.int (gP (μ 1) a 3)]) rfl ?_
  refine lv_iload_n hx hb dX10_distance_6 rfl (lv_at hl 2 rfl) ?_
  refine lv_isub hx hb dX10_distance_7 ?_
  refine sp_call (W.runS (As := [.int ((gP (μ 1) a 3) - r)]) (rest := []) ⟨hx, hb, hml, hown, hts⟩ (c_X10_size l D am cy μ ((gP (μ 1) a 3) - r)) (va_cwS 1 hts gX10_distance_X10_size rfl rfl rfl (by decide +kernel) ⟨Nat.le_of_ble_eq_true rfl, Nat.le_of_ble_eq_true rfl⟩) (sp_preS hK hP) rfl rfl hl.1 rfl (lv_room (Nat.le_of_ble_eq_true rfl)) dX10_distance_8 ⟨Nat.le_of_ble_eq_true rfl, Nat.le_of_ble_eq_true rfl⟩) ?_
  refine W.eq (g2 := F0 m 11 ls [.int (m_size ((gP (μ 1) a 3) - r))]) rfl ?_
  refine lv_aload_n hx hb dX10_distance_11 rfl (lv_at hl 0 rfl) ?_
  refine lv_iload_n hx hb dX10_distance_12 rfl (lv_at hl 1 rfl) ?_
  refine lv_iconst (v := 4) hx hb dX10_distance_13 (by decide) ?_
  refine sp_call (W.runV (As := [.int (nI a), .int (4)]) (rest := [.int (m_size ((gP (μ 1) a 3) - r))]) ⟨hx, hb, hml, hown, hts⟩ (c_X10_p l D am cy μ a (by omega) 4 (by omega)) (cwV 2 hts gX10_distance_X10_p rfl rfl rfl (by decide +kernel) ⟨Nat.le_of_ble_eq_true rfl, Nat.le_of_ble_eq_true rfl⟩) (sp_preV hK hP (κ := 0) (by decide) mE_0 rfl) rfl rfl hl.1 rfl (lv_room (Nat.le_of_ble_eq_true rfl)) dX10_distance_14 ⟨Nat.le_of_ble_eq_true rfl, Nat.le_of_ble_eq_true rfl⟩) ?_
  refine W.eq (g2 := F0 m 17 ls [.int (gP (μ 1) a 4), .int (m_size ((gP (μ 1) a 3) - r))]) rfl ?_
  refine lv_iload_n hx hb dX10_distance_17 rfl (lv_at hl 3 rfl) ?_
  refine lv_isub hx hb dX10_distance_18 ?_
  refine sp_call (W.runS (As := [.int ((gP (μ 1) a 4) - c1)]) (rest := [.int (m_size ((gP (μ 1) a 3) - r))]) ⟨hx, hb, hml, hown, hts⟩ (c_X10_size l D am cy μ ((gP (μ 1) a 4) - c1)) (va_cwS 1 hts gX10_distance_X10_size rfl rfl rfl (by decide +kernel) ⟨Nat.le_of_ble_eq_true rfl, Nat.le_of_ble_eq_true rfl⟩) (sp_preS hK hP) rfl rfl hl.1 rfl (lv_room (Nat.le_of_ble_eq_true rfl)) dX10_distance_19 ⟨Nat.le_of_ble_eq_true rfl, Nat.le_of_ble_eq_true rfl⟩) ?_
  refine W.eq (g2 := F0 m 22 ls [.int (m_size ((gP (μ 1) a 4) - c1)), .int (m_size ((gP (μ 1) a 3) - r))]) rfl ?_
  refine lv_iadd hx hb dX10_distance_22 ?_
  exact W.iret (v := (m_size ((gP (μ 1) a 3) - r)) + (m_size ((gP (μ 1) a 4) - c1))) hx hb hr (fun T9 hT9 _ => ⟨congrArg (fun z9 => Outcome.returned (some (Value.int z9))) (show ((m_size ((gP (μ 1) a 3) - r)) + (m_size ((gP (μ 1) a 4) - c1)) : Int32) = m_dist (μ 1) a r c1 from (by first | rfl | (simp [m_dist, b2i]; done))), hT9⟩) (fun _ h => by cases h) dX10_distance_23

set_option maxHeartbeats 4000000 in
set_option maxRecDepth 100000 in
theorem c_X10_strideAt (l : Launch) (D : va_G) (am : Nat → Nat) (cy : Nat → ClassId) (μ : Nat → Nat → Int32) (n : Nat) (t : Nat) (hM : MS (μ 1) n t) (a : Nat) (ha : a < n) : Met l yX10_strideAt wsX10_strideAt ({ frames := 2, cells := 0, slots := 0, locals := 48 } : Room) (sp_Pc D (tyG cy) [.ref (am (0)), .int (nI a)] (mW am cy μ)) (sp_S (some (.int (m_stride (μ 1) n a)))) 0 0 (fun _ => False) := by
  refine Met.ofW (cc := cX10_strideAt) (maxL := 3) (ret := (some .int)) (by decide) rfl ?_
  intro p e s m args below meth c s₁ B hml hv
  obtain ⟨rfl, hP, hK⟩ := hv
  have hx := B.exec
  have hb := B.bytes
  have hr := B.returns
  have hts := atoms_spec (ws := wsX10_strideAt) B.pre
  have hown : s.vm.findClass RX10 = some m.cls := findClass_of_methodNamed B.named
  have hlocks := B.notSynchronized
  have hn30 := hM.2.1
  have ht6 := hM.2.2.2
  have hl := lv_entry ([.ref (am (0)), .int (nI a)]) (n := 3) (Nat.le_of_ble_eq_true rfl)
  refine W.eq (lg_entry_eq _ ([.ref (am (0)), .int (nI a)]) _) ?_
  generalize (lg_sl ([.ref (am (0)), .int (nI a)]) ++ List.replicate (3 - (lg_sl ([.ref (am (0)), .int (nI a)])).length) Slot.unset).toArray = ls at hl ⊢
  have hl : lv_has ls 3 [(0, .ref (am (0))), (1, .int (nI a))] := hl
  refine lv_aload_n hx hb dX10_strideAt_0 rfl (lv_at hl 0 rfl) ?_
  refine lv_iload_n hx hb dX10_strideAt_1 rfl (lv_at hl 1 rfl) ?_
  refine lv_iconst (v := 0) hx hb dX10_strideAt_2 (by decide) ?_
  refine sp_call (W.runV (As := [.int (nI a), .int (0)]) (rest := []) ⟨hx, hb, hml, hown, hts⟩ (c_X10_beside l D am cy μ n t (by first | exact hM | exact hi_0 | (repeat first | exact hM | exact hi_0 | refine MS.st0 ?_ | refine MS.st ?_ (by omega))) a (by omega) false) (cwV 2 hts gX10_strideAt_X10_beside rfl rfl rfl (by decide +kernel) ⟨Nat.le_of_ble_eq_true rfl, Nat.le_of_ble_eq_true rfl⟩) (sp_preV hK hP (κ := 0) (by decide) mE_0 rfl) rfl rfl hl.1 rfl (lv_room (Nat.le_of_ble_eq_true rfl)) dX10_strideAt_3 ⟨Nat.le_of_ble_eq_true rfl, Nat.le_of_ble_eq_true rfl⟩) ?_
  rcases opt_em (m_bes (μ 1) n a false) with q_1 | ⟨j_2, q_1⟩
  · refine W.eq (g2 := F0 m 6 ls [.int ((-1))]) (by rw [q_1]; rfl) ?_
    refine lv_istore_n (lv' := [(2, .int ((-1))), (0, .ref (am (0))), (1, .int (nI a))]) hx hb dX10_strideAt_6 rfl hl (by decide) rfl (fun ls hl => ?_)
    refine lv_iload_n hx hb dX10_strideAt_7 rfl (lv_at hl 0 rfl) ?_
    refine lv_if_ge (tgt := 15) hx hb dX10_strideAt_8 (by decide) (fun c_3 => ?_) (fun c_3 => ?_)
    · exact absurd c_3 (by decide)
    · skip
      refine lv_iconst (v := 0) hx hb dX10_strideAt_11 (by decide) ?_
      refine lv_goto (tgt := 32) hx hb dX10_strideAt_12 (by decide) ?_
      exact W.iret (v := 0) hx hb hr (fun T9 hT9 _ => ⟨congrArg (fun z9 => Outcome.returned (some (Value.int z9))) (show (0 : Int32) = m_stride (μ 1) n a from (by first | rfl | (simp [m_stride, b2i, q_1]; done))), hT9⟩) (fun _ h => by cases h) dX10_strideAt_32
  · have hj_2 := m_bes_lt q_1
    refine W.eq (g2 := F0 m 6 ls [.int (nI j_2)]) (by rw [q_1]; rfl) ?_
    refine lv_istore_n (lv' := [(2, .int (nI j_2)), (0, .ref (am (0))), (1, .int (nI a))]) hx hb dX10_strideAt_6 rfl hl (by decide) rfl (fun ls hl => ?_)
    refine lv_iload_n hx hb dX10_strideAt_7 rfl (lv_at hl 0 rfl) ?_
    refine lv_if_ge (tgt := 15) hx hb dX10_strideAt_8 (by decide) (fun c_4 => ?_) (fun c_4 => ?_)
    · skip
      have c_4d := Int32.not_lt.mpr c_4
      refine lv_aload_n hx hb dX10_strideAt_15 rfl (lv_at hl 1 rfl) ?_
      refine lv_iload_n hx hb dX10_strideAt_16 rfl (lv_at hl 0 rfl) ?_
      refine lv_aload_n hx hb dX10_strideAt_17 rfl (lv_at hl 1 rfl) ?_
      refine lv_iload_n hx hb dX10_strideAt_18 rfl (lv_at hl 2 rfl) ?_
      refine lv_iconst (v := 3) hx hb dX10_strideAt_19 (by decide) ?_
      refine sp_call (W.runV (As := [.int (nI a), .int (3)]) (rest := [.int (nI j_2), .ref (am (0))]) ⟨hx, hb, hml, hown, hts⟩ (c_X10_p l D am cy μ a (by omega) 3 (by omega)) (cwV 2 hts gX10_strideAt_X10_p rfl rfl rfl (by decide +kernel) ⟨Nat.le_of_ble_eq_true rfl, Nat.le_of_ble_eq_true rfl⟩) (sp_preV hK hP (κ := 0) (by decide) mE_0 rfl) rfl rfl hl.1 rfl (lv_room (Nat.le_of_ble_eq_true rfl)) dX10_strideAt_20 ⟨Nat.le_of_ble_eq_true rfl, Nat.le_of_ble_eq_true rfl⟩) ?_
      refine W.eq (g2 := F0 m 23 ls [.int (gP (μ 1) a 3), .int (nI j_2), .ref (am (0))]) rfl ?_
      refine lv_aload_n hx hb dX10_strideAt_23 rfl (lv_at hl 1 rfl) ?_
      refine lv_iload_n hx hb dX10_strideAt_24 rfl (lv_at hl 2 rfl) ?_
      refine lv_iconst (v := 4) hx hb dX10_strideAt_25 (by decide) ?_
      refine sp_call (W.runV (As := [.int (nI a), .int (4)]) (rest := [.int (gP (μ 1) a 3), .int (nI j_2), .ref (am (0))]) ⟨hx, hb, hml, hown, hts⟩ (c_X10_p l D am cy μ a (by omega) 4 (by omega)) (cwV 2 hts gX10_strideAt_X10_p rfl rfl rfl (by decide +kernel) ⟨Nat.le_of_ble_eq_true rfl, Nat.le_of_ble_eq_true rfl⟩) (sp_preV hK hP (κ := 0) (by decide) mE_0 rfl) rfl rfl hl.1 rfl (lv_room (Nat.le_of_ble_eq_true rfl)) dX10_strideAt_26 ⟨Nat.le_of_ble_eq_true rfl, Nat.le_of_ble_eq_true rfl⟩) ?_
      refine W.eq (g2 := F0 m 29 ls [.int (gP (μ 1) a 4), .int (gP (μ 1) a 3), .int (nI j_2), .ref (am (0))]) rfl ?_
      refine sp_call (W.runV (As := [.int (nI j_2), .int (gP (μ 1) a 3), .int (gP (μ 1) a 4)]) (rest := []) ⟨hx, hb, hml, hown, hts⟩ (c_X10_distance l D am cy μ n t (by first | exact hM | exact hi_0 | (repeat first | exact hM | exact hi_0 | refine MS.st0 ?_ | refine MS.st ?_ (by omega))) j_2 (by omega) (gP (μ 1) a 3) (gP (μ 1) a 4)) (cwV 3 hts gX10_strideAt_X10_distance rfl rfl rfl (by decide +kernel) ⟨Nat.le_of_ble_eq_true rfl, Nat.le_of_ble_eq_true rfl⟩) (sp_preV hK hP (κ := 0) (by decide) mE_0 rfl) rfl rfl hl.1 rfl (lv_room (Nat.le_of_ble_eq_true rfl)) dX10_strideAt_29 ⟨Nat.le_of_ble_eq_true rfl, Nat.le_of_ble_eq_true rfl⟩) ?_
      refine W.eq (g2 := F0 m 32 ls [.int (m_dist (μ 1) j_2 (gP (μ 1) a 3) (gP (μ 1) a 4))]) rfl ?_
      exact W.iret (v := m_dist (μ 1) j_2 (gP (μ 1) a 3) (gP (μ 1) a 4)) hx hb hr (fun T9 hT9 _ => ⟨congrArg (fun z9 => Outcome.returned (some (Value.int z9))) (show (m_dist (μ 1) j_2 (gP (μ 1) a 3) (gP (μ 1) a 4) : Int32) = m_stride (μ 1) n a from (by first | rfl | (simp [m_stride, b2i, q_1, c_4, c_4d]; done))), hT9⟩) (fun _ h => by cases h) dX10_strideAt_32
    · exact absurd (Int32.not_lt.mp (nI_pos (by omega))) c_4

theorem wi_X10_hasError_X10 : ∀ w ∈ wsX100, w ∈ wsX10_hasError := by decide +kernel
set_option maxHeartbeats 4000000 in
set_option maxRecDepth 100000 in
theorem c_X10_hasError (l : Launch) (D : va_G) (am : Nat → Nat) (cy : Nat → ClassId) (μ : Nat → Nat → Int32) (n : Nat) (t : Nat) (hM : MS (μ 1) n t) (a : Nat) (ha : a < n) (z : Int32) : Met l yX10_hasError wsX10_hasError ({ frames := 3, cells := 0, slots := 0, locals := 70 } : Room) (sp_Pc D (tyG cy) [.ref (am (0)), .int (nI a), .int (z)] (mW am cy μ)) (sp_S (some (.int (b2i (m_err (μ 1) n t a z))))) 0 0 (fun _ => False) := by
  refine Met.ofW (cc := cX10_hasError) (maxL := 4) (ret := (some .boolean)) (by decide) rfl ?_
  intro p e s m args below meth c s₁ B hml hv
  obtain ⟨rfl, hP, hK⟩ := hv
  have hx := B.exec
  have hb := B.bytes
  have hr := B.returns
  have hts := atoms_spec (ws := wsX10_hasError) B.pre
  have hown : s.vm.findClass RX10 = some m.cls := findClass_of_methodNamed B.named
  have hlocks := B.notSynchronized
  have hn30 := hM.2.1
  have ht6 := hM.2.2.2
  have hl := lv_entry ([.ref (am (0)), .int (nI a), .int (z)]) (n := 4) (Nat.le_of_ble_eq_true rfl)
  refine W.eq (lg_entry_eq _ ([.ref (am (0)), .int (nI a), .int (z)]) _) ?_
  generalize (lg_sl ([.ref (am (0)), .int (nI a), .int (z)]) ++ List.replicate (4 - (lg_sl ([.ref (am (0)), .int (nI a), .int (z)])).length) Slot.unset).toArray = ls at hl ⊢
  have hl : lv_has ls 4 [(0, .ref (am (0))), (1, .int (nI a)), (2, .int (z))] := hl
  refine lv_aload_n hx hb dX10_hasError_0 rfl (lv_at hl 0 rfl) ?_
  refine lv_iload_n hx hb dX10_hasError_1 rfl (lv_at hl 1 rfl) ?_
  refine lv_iconst (v := 0) hx hb dX10_hasError_2 (by decide) ?_
  refine sp_call (W.runV (As := [.int (nI a), .int (0)]) (rest := []) ⟨hx, hb, hml, hown, hts⟩ (c_X10_beside l D am cy μ n t (by first | exact hM | exact hi_0 | (repeat first | exact hM | exact hi_0 | refine MS.st0 ?_ | refine MS.st ?_ (by omega))) a (by omega) false) (cwV 2 hts gX10_hasError_X10_beside rfl rfl rfl (by decide +kernel) ⟨Nat.le_of_ble_eq_true rfl, Nat.le_of_ble_eq_true rfl⟩) (sp_preV hK hP (κ := 0) (by decide) mE_0 rfl) rfl rfl hl.1 rfl (lv_room (Nat.le_of_ble_eq_true rfl)) dX10_hasError_3 ⟨Nat.le_of_ble_eq_true rfl, Nat.le_of_ble_eq_true rfl⟩) ?_
  rcases opt_em (m_bes (μ 1) n a false) with q_1 | ⟨j_2, q_1⟩
  · refine W.eq (g2 := F0 m 6 ls [.int ((-1))]) (by rw [q_1]; rfl) ?_
    refine lv_istore_n (lv' := [(3, .int ((-1))), (0, .ref (am (0))), (1, .int (nI a)), (2, .int (z))]) hx hb dX10_hasError_6 rfl hl (by decide) rfl (fun ls hl => ?_)
    refine lv_iload_n hx hb dX10_hasError_7 rfl (lv_at hl 0 rfl) ?_
    refine lv_if_ge (tgt := 13) hx hb dX10_hasError_8 (by decide) (fun c_3 => ?_) (fun c_3 => ?_)
    · exact absurd c_3 (by decide)
    · skip
      refine lv_iconst (v := 0) hx hb dX10_hasError_11 (by decide) ?_
      exact W.zret (v := 0) hx hb hr (by decide) (fun T9 hT9 _ => ⟨congrArg (fun z9 => Outcome.returned (some (Value.int z9))) (show (0 : Int32) = b2i (m_err (μ 1) n t a z) from (by first | rfl | (simp [m_err, m_lim, gS, b2i, q_1]; done))), hT9⟩) (fun _ h => by cases h) dX10_hasError_12
  · have hj_2 := m_bes_lt q_1
    refine W.eq (g2 := F0 m 6 ls [.int (nI j_2)]) (by rw [q_1]; rfl) ?_
    refine lv_istore_n (lv' := [(3, .int (nI j_2)), (0, .ref (am (0))), (1, .int (nI a)), (2, .int (z))]) hx hb dX10_hasError_6 rfl hl (by decide) rfl (fun ls hl => ?_)
    refine lv_iload_n hx hb dX10_hasError_7 rfl (lv_at hl 0 rfl) ?_
    refine lv_if_ge (tgt := 13) hx hb dX10_hasError_8 (by decide) (fun c_4 => ?_) (fun c_4 => ?_)
    · skip
      have c_4d := Int32.not_lt.mpr c_4
      refine lv_iload_n hx hb dX10_hasError_13 rfl (lv_at hl 3 rfl) ?_
      refine lv_if_ne (tgt := 53) hx hb dX10_hasError_14 (by decide) (fun c_5 => ?_) (fun c_5 => ?_)
      · skip
        refine lv_iload_n hx hb dX10_hasError_53 rfl (lv_at hl 3 rfl) ?_
        refine lv_iconst (v := 1) hx hb dX10_hasError_54 (by decide) ?_
        refine lv_icmp_ne (tgt := 81) hx hb dX10_hasError_55 (by decide) (fun c_6 => ?_) (fun c_6 => ?_)
        · skip
          refine lv_aload_n hx hb dX10_hasError_81 rfl (lv_at hl 1 rfl) ?_
          refine lv_iload_n hx hb dX10_hasError_82 rfl (lv_at hl 2 rfl) ?_
          refine lv_bipush (v := 6) hx hb dX10_hasError_83 (by decide) ?_
          refine sp_call (W.runV (As := [.int (nI a), .int (6)]) (rest := []) ⟨hx, hb, hml, hown, hts⟩ (c_X10_p l D am cy μ a (by omega) 6 (by omega)) (cwV 2 hts gX10_hasError_X10_p rfl rfl rfl (by decide +kernel) ⟨Nat.le_of_ble_eq_true rfl, Nat.le_of_ble_eq_true rfl⟩) (sp_preV hK hP (κ := 0) (by decide) mE_0 rfl) rfl rfl hl.1 rfl (lv_room (Nat.le_of_ble_eq_true rfl)) dX10_hasError_85 ⟨Nat.le_of_ble_eq_true rfl, Nat.le_of_ble_eq_true rfl⟩) ?_
          refine W.eq (g2 := F0 m 88 ls [.int (gP (μ 1) a 6)]) rfl ?_
          refine lv_aload_n hx hb dX10_hasError_88 rfl (lv_at hl 1 rfl) ?_
          refine lv_iload_n hx hb dX10_hasError_89 rfl (lv_at hl 0 rfl) ?_
          refine lv_bipush (v := 6) hx hb dX10_hasError_90 (by decide) ?_
          refine sp_call (W.runV (As := [.int (nI j_2), .int (6)]) (rest := [.int (gP (μ 1) a 6)]) ⟨hx, hb, hml, hown, hts⟩ (c_X10_p l D am cy μ j_2 (by omega) 6 (by omega)) (cwV 2 hts gX10_hasError_X10_p rfl rfl rfl (by decide +kernel) ⟨Nat.le_of_ble_eq_true rfl, Nat.le_of_ble_eq_true rfl⟩) (sp_preV hK hP (κ := 0) (by decide) mE_0 rfl) rfl rfl hl.1 rfl (lv_room (Nat.le_of_ble_eq_true rfl)) dX10_hasError_92 ⟨Nat.le_of_ble_eq_true rfl, Nat.le_of_ble_eq_true rfl⟩) ?_
          refine W.eq (g2 := F0 m 95 ls [.int (gP (μ 1) j_2 6), .int (gP (μ 1) a 6)]) rfl ?_
          refine lv_isub hx hb dX10_hasError_95 ?_
          refine sp_call (W.runS (As := [.int ((gP (μ 1) a 6) - (gP (μ 1) j_2 6))]) (rest := []) ⟨hx, hb, hml, hown, hts⟩ (c_X10_size l D am cy μ ((gP (μ 1) a 6) - (gP (μ 1) j_2 6))) (va_cwS 1 hts gX10_hasError_X10_size rfl rfl rfl (by decide +kernel) ⟨Nat.le_of_ble_eq_true rfl, Nat.le_of_ble_eq_true rfl⟩) (sp_preS hK hP) rfl rfl hl.1 rfl (lv_room (Nat.le_of_ble_eq_true rfl)) dX10_hasError_96 ⟨Nat.le_of_ble_eq_true rfl, Nat.le_of_ble_eq_true rfl⟩) ?_
          refine W.eq (g2 := F0 m 99 ls [.int (m_size ((gP (μ 1) a 6) - (gP (μ 1) j_2 6)))]) rfl ?_
          refine lv_iconst (v := 3) hx hb dX10_hasError_99 (by decide) ?_
          refine lv_icmp_le (tgt := 107) hx hb dX10_hasError_100 (by decide) (fun c_7 => ?_) (fun c_7 => ?_)
          · skip
            have c_7d := Int32.not_lt.mpr c_7
            refine lv_iconst (v := 0) hx hb dX10_hasError_107 (by decide) ?_
            exact W.zret (v := 0) hx hb hr (by decide) (fun T9 hT9 _ => ⟨congrArg (fun z9 => Outcome.returned (some (Value.int z9))) (show (0 : Int32) = b2i (m_err (μ 1) n t a z) from (by first | rfl | (simp [m_err, m_lim, gS, b2i, q_1, c_4, c_4d, c_5, c_6, c_7, c_7d]; done))), hT9⟩) (fun _ h => by cases h) dX10_hasError_108
          · skip
            have c_7d := Int32.not_le.mp c_7
            refine lv_iconst (v := 1) hx hb dX10_hasError_103 (by decide) ?_
            refine lv_goto (tgt := 108) hx hb dX10_hasError_104 (by decide) ?_
            exact W.zret (v := 1) hx hb hr (by decide) (fun T9 hT9 _ => ⟨congrArg (fun z9 => Outcome.returned (some (Value.int z9))) (show (1 : Int32) = b2i (m_err (μ 1) n t a z) from (by first | rfl | (simp [m_err, m_lim, gS, b2i, q_1, c_4, c_4d, c_5, c_6, c_7, c_7d]; done))), hT9⟩) (fun _ h => by cases h) dX10_hasError_108
        · skip
          refine lv_aload_n hx hb dX10_hasError_58 rfl (lv_at hl 1 rfl) ?_
          refine lv_iload_n hx hb dX10_hasError_59 rfl (lv_at hl 2 rfl) ?_
          refine lv_iconst (v := 5) hx hb dX10_hasError_60 (by decide) ?_
          refine sp_call (W.runV (As := [.int (nI a), .int (5)]) (rest := []) ⟨hx, hb, hml, hown, hts⟩ (c_X10_p l D am cy μ a (by omega) 5 (by omega)) (cwV 2 hts gX10_hasError_X10_p rfl rfl rfl (by decide +kernel) ⟨Nat.le_of_ble_eq_true rfl, Nat.le_of_ble_eq_true rfl⟩) (sp_preV hK hP (κ := 0) (by decide) mE_0 rfl) rfl rfl hl.1 rfl (lv_room (Nat.le_of_ble_eq_true rfl)) dX10_hasError_61 ⟨Nat.le_of_ble_eq_true rfl, Nat.le_of_ble_eq_true rfl⟩) ?_
          refine W.eq (g2 := F0 m 64 ls [.int (gP (μ 1) a 5)]) rfl ?_
          refine lv_aload_n hx hb dX10_hasError_64 rfl (lv_at hl 1 rfl) ?_
          refine lv_iload_n hx hb dX10_hasError_65 rfl (lv_at hl 0 rfl) ?_
          refine lv_iconst (v := 5) hx hb dX10_hasError_66 (by decide) ?_
          refine sp_call (W.runV (As := [.int (nI j_2), .int (5)]) (rest := [.int (gP (μ 1) a 5)]) ⟨hx, hb, hml, hown, hts⟩ (c_X10_p l D am cy μ j_2 (by omega) 5 (by omega)) (cwV 2 hts gX10_hasError_X10_p rfl rfl rfl (by decide +kernel) ⟨Nat.le_of_ble_eq_true rfl, Nat.le_of_ble_eq_true rfl⟩) (sp_preV hK hP (κ := 0) (by decide) mE_0 rfl) rfl rfl hl.1 rfl (lv_room (Nat.le_of_ble_eq_true rfl)) dX10_hasError_67 ⟨Nat.le_of_ble_eq_true rfl, Nat.le_of_ble_eq_true rfl⟩) ?_
          refine W.eq (g2 := F0 m 70 ls [.int (gP (μ 1) j_2 5), .int (gP (μ 1) a 5)]) rfl ?_
          refine lv_icmp_ne (tgt := 77) hx hb dX10_hasError_70 (by decide) (fun c_8 => ?_) (fun c_8 => ?_)
          · skip
            refine lv_iconst (v := 0) hx hb dX10_hasError_77 (by decide) ?_
            refine lv_goto (tgt := 108) hx hb dX10_hasError_78 (by decide) ?_
            exact W.zret (v := 0) hx hb hr (by decide) (fun T9 hT9 _ => ⟨congrArg (fun z9 => Outcome.returned (some (Value.int z9))) (show (0 : Int32) = b2i (m_err (μ 1) n t a z) from (by first | rfl | (simp [m_err, m_lim, gS, b2i, q_1, c_4, c_4d, c_5, c_6, c_8]; done))), hT9⟩) (fun _ h => by cases h) dX10_hasError_108
          · skip
            refine lv_iconst (v := 1) hx hb dX10_hasError_73 (by decide) ?_
            refine lv_goto (tgt := 108) hx hb dX10_hasError_74 (by decide) ?_
            exact W.zret (v := 1) hx hb hr (by decide) (fun T9 hT9 _ => ⟨congrArg (fun z9 => Outcome.returned (some (Value.int z9))) (show (1 : Int32) = b2i (m_err (μ 1) n t a z) from (by first | rfl | (simp [m_err, m_lim, gS, b2i, q_1, c_4, c_4d, c_5, c_6, c_8]; done))), hT9⟩) (fun _ h => by cases h) dX10_hasError_108
      · skip
        refine lv_aload_n hx hb dX10_hasError_17 rfl (lv_at hl 1 rfl) ?_
        refine lv_iload_n hx hb dX10_hasError_18 rfl (lv_at hl 2 rfl) ?_
        refine sp_call (W.runV (As := [.int (nI a)]) (rest := []) ⟨hx, hb, hml, hown, hts⟩ (c_X10_strideAt l D am cy μ n t (by first | exact hM | exact hi_0 | (repeat first | exact hM | exact hi_0 | refine MS.st0 ?_ | refine MS.st ?_ (by omega))) a (by omega)) (cwV 1 hts gX10_hasError_X10_strideAt rfl rfl rfl (by decide +kernel) ⟨Nat.le_of_ble_eq_true rfl, Nat.le_of_ble_eq_true rfl⟩) (sp_preV hK hP (κ := 0) (by decide) mE_0 rfl) rfl rfl hl.1 rfl (lv_room (Nat.le_of_ble_eq_true rfl)) dX10_hasError_19 ⟨Nat.le_of_ble_eq_true rfl, Nat.le_of_ble_eq_true rfl⟩) ?_
        refine W.eq (g2 := F0 m 22 ls [.int (m_stride (μ 1) n a)]) rfl ?_
        refine lv_aload_n hx hb dX10_hasError_22 rfl (lv_at hl 1 rfl) ?_
        refine sp_get hx hb hts wi_X10_hasError_X10 hown hK hP (κ := 0) (by decide) mE_0 rfl 1 (by decide) (hts _ (List.mem_of_getElem? (i := 1) rfl)) (fun _ h => h) rfl dX10_hasError_23 ?_
        refine lv_bipush (v := 7) hx hb dX10_hasError_26 (by decide) ?_
        refine lv_iconst (v := 2) hx hb dX10_hasError_28 (by decide) ?_
        refine lv_aload_n hx hb dX10_hasError_29 rfl (lv_at hl 1 rfl) ?_
        refine lv_aload_n hx hb dX10_hasError_30 rfl (lv_at hl 1 rfl) ?_
        refine lv_iload_n hx hb dX10_hasError_31 rfl (lv_at hl 2 rfl) ?_
        refine lv_iconst (v := 1) hx hb dX10_hasError_32 (by decide) ?_
        refine sp_call (W.runV (As := [.int (nI a), .int (1)]) (rest := [.ref (am (0)), .int (2), .int (7), .ref (am (1)), .int (m_stride (μ 1) n a)]) ⟨hx, hb, hml, hown, hts⟩ (c_X10_p l D am cy μ a (by omega) 1 (by omega)) (cwV 2 hts gX10_hasError_X10_p rfl rfl rfl (by decide +kernel) ⟨Nat.le_of_ble_eq_true rfl, Nat.le_of_ble_eq_true rfl⟩) (sp_preV hK hP (κ := 0) (by decide) mE_0 rfl) rfl rfl hl.1 rfl (lv_room (Nat.le_of_ble_eq_true rfl)) dX10_hasError_33 ⟨Nat.le_of_ble_eq_true rfl, Nat.le_of_ble_eq_true rfl⟩) ?_
        refine W.eq (g2 := F0 m 36 ls [.int (gP (μ 1) a 1), .ref (am (0)), .int (2), .int (7), .ref (am (1)), .int (m_stride (μ 1) n a)]) rfl ?_
        refine sp_call (W.runV (As := [.int (gP (μ 1) a 1)]) (rest := [.int (2), .int (7), .ref (am (1)), .int (m_stride (μ 1) n a)]) ⟨hx, hb, hml, hown, hts⟩ (c_X10_findTrack l D am cy μ n t (by first | exact hM | exact hi_0 | (repeat first | exact hM | exact hi_0 | refine MS.st0 ?_ | refine MS.st ?_ (by omega))) (gP (μ 1) a 1)) (cwV 1 hts gX10_hasError_X10_findTrack rfl rfl rfl (by decide +kernel) ⟨Nat.le_of_ble_eq_true rfl, Nat.le_of_ble_eq_true rfl⟩) (sp_preV hK hP (κ := 0) (by decide) mE_0 rfl) rfl rfl hl.1 rfl (lv_room (Nat.le_of_ble_eq_true rfl)) dX10_hasError_36 ⟨Nat.le_of_ble_eq_true rfl, Nat.le_of_ble_eq_true rfl⟩) ?_
        rcases opt_em (m_ft (μ 1) t (gP (μ 1) a 1)) with q_9 | ⟨j_10, q_9⟩
        · refine W.eq (g2 := F0 m 39 ls [.int ((-1)), .int (2), .int (7), .ref (am (1)), .int (m_stride (μ 1) n a)]) (by rw [q_9]; rfl) ?_
          refine lv_imul hx hb dX10_hasError_39 ?_
          refine W.eq (g2 := F0 m 40 ls [.int ((-2)), .int (7), .ref (am (1)), .int (m_stride (μ 1) n a)]) rfl ?_
          refine lv_iadd hx hb dX10_hasError_40 ?_
          refine W.eq (g2 := F0 m 41 ls [.int (5), .ref (am (1)), .int (m_stride (μ 1) n a)]) rfl ?_
          refine lv_iconst (v := 1) hx hb dX10_hasError_41 (by decide) ?_
          refine lv_iadd hx hb dX10_hasError_42 ?_
          refine W.eq (g2 := F0 m 43 ls [.int (6), .ref (am (1)), .int (m_stride (μ 1) n a)]) rfl ?_
          refine sp_iald hx hb hK hP (κ := 1) (by decide) 1 mE_1 rfl 6 rfl (by omega) (by decide) dX10_hasError_43 ?_
          refine lv_icmp_le (tgt := 51) hx hb dX10_hasError_44 (by decide) (fun c_11 => ?_) (fun c_11 => ?_)
          · skip
            have c_11d := Int32.not_lt.mpr c_11
            refine lv_iconst (v := 0) hx hb dX10_hasError_51 (by decide) ?_
            exact W.zret (v := 0) hx hb hr (by decide) (fun T9 hT9 _ => ⟨congrArg (fun z9 => Outcome.returned (some (Value.int z9))) (show (0 : Int32) = b2i (m_err (μ 1) n t a z) from (by first | rfl | (simp [m_err, m_lim, gS, b2i, q_1, c_4, c_4d, c_5, q_9, c_11, c_11d]; done))), hT9⟩) (fun _ h => by cases h) dX10_hasError_52
          · skip
            have c_11d := Int32.not_le.mp c_11
            refine lv_iconst (v := 1) hx hb dX10_hasError_47 (by decide) ?_
            refine lv_goto (tgt := 52) hx hb dX10_hasError_48 (by decide) ?_
            exact W.zret (v := 1) hx hb hr (by decide) (fun T9 hT9 _ => ⟨congrArg (fun z9 => Outcome.returned (some (Value.int z9))) (show (1 : Int32) = b2i (m_err (μ 1) n t a z) from (by first | rfl | (simp [m_err, m_lim, gS, b2i, q_1, c_4, c_4d, c_5, q_9, c_11, c_11d]; done))), hT9⟩) (fun _ h => by cases h) dX10_hasError_52
        · have hj_10 := m_ft_lt q_9
          refine W.eq (g2 := F0 m 39 ls [.int (nI j_10), .int (2), .int (7), .ref (am (1)), .int (m_stride (μ 1) n a)]) (by rw [q_9]; rfl) ?_
          refine lv_imul hx hb dX10_hasError_39 ?_
          refine lv_iadd hx hb dX10_hasError_40 ?_
          refine lv_iconst (v := 1) hx hb dX10_hasError_41 (by decide) ?_
          refine lv_iadd hx hb dX10_hasError_42 ?_
          refine sp_iald hx hb hK hP (κ := 1) (by decide) 1 mE_1 rfl ((7 + (2 * j_10)) + 1) (nI_addE (nI_addE rfl (nI_mulE rfl rfl)) rfl) (by omega) (by decide) dX10_hasError_43 ?_
          refine lv_icmp_le (tgt := 51) hx hb dX10_hasError_44 (by decide) (fun c_12 => ?_) (fun c_12 => ?_)
          · skip
            have c_12d := Int32.not_lt.mpr c_12
            refine lv_iconst (v := 0) hx hb dX10_hasError_51 (by decide) ?_
            exact W.zret (v := 0) hx hb hr (by decide) (fun T9 hT9 _ => ⟨congrArg (fun z9 => Outcome.returned (some (Value.int z9))) (show (0 : Int32) = b2i (m_err (μ 1) n t a z) from (by first | rfl | (simp [m_err, m_lim, gS, b2i, q_1, c_4, c_4d, c_5, q_9, c_12, c_12d]; done))), hT9⟩) (fun _ h => by cases h) dX10_hasError_52
          · skip
            have c_12d := Int32.not_le.mp c_12
            refine lv_iconst (v := 1) hx hb dX10_hasError_47 (by decide) ?_
            refine lv_goto (tgt := 52) hx hb dX10_hasError_48 (by decide) ?_
            exact W.zret (v := 1) hx hb hr (by decide) (fun T9 hT9 _ => ⟨congrArg (fun z9 => Outcome.returned (some (Value.int z9))) (show (1 : Int32) = b2i (m_err (μ 1) n t a z) from (by first | rfl | (simp [m_err, m_lim, gS, b2i, q_1, c_4, c_4d, c_5, q_9, c_12, c_12d]; done))), hT9⟩) (fun _ h => by cases h) dX10_hasError_52
    · exact absurd (Int32.not_lt.mp (nI_pos (by omega))) c_4

set_option maxHeartbeats 4000000 in
set_option maxRecDepth 100000 in
theorem c_X10_errorsAt (l : Launch) (D : va_G) (am : Nat → Nat) (cy : Nat → ClassId) (μ : Nat → Nat → Int32) (n : Nat) (t : Nat) (hM : MS (μ 1) n t) (a : Nat) (ha : a < n) : Met l yX10_errorsAt wsX10_errorsAt ({ frames := 4, cells := 0, slots := 0, locals := 93 } : Room) (sp_Pc D (tyG cy) [.ref (am (0)), .int (nI a)] (mW am cy μ)) (sp_S (some (.int (m_errs1 (μ 1) n t a)))) 0 0 (fun _ => False) := by
  refine Met.ofW (cc := cX10_errorsAt) (maxL := 2) (ret := (some .int)) (by decide) rfl ?_
  intro p e s m args below meth c s₁ B hml hv
  obtain ⟨rfl, hP, hK⟩ := hv
  have hx := B.exec
  have hb := B.bytes
  have hr := B.returns
  have hts := atoms_spec (ws := wsX10_errorsAt) B.pre
  have hown : s.vm.findClass RX10 = some m.cls := findClass_of_methodNamed B.named
  have hlocks := B.notSynchronized
  have hn30 := hM.2.1
  have ht6 := hM.2.2.2
  have hl := lv_entry ([.ref (am (0)), .int (nI a)]) (n := 2) (Nat.le_of_ble_eq_true rfl)
  refine W.eq (lg_entry_eq _ ([.ref (am (0)), .int (nI a)]) _) ?_
  generalize (lg_sl ([.ref (am (0)), .int (nI a)]) ++ List.replicate (2 - (lg_sl ([.ref (am (0)), .int (nI a)])).length) Slot.unset).toArray = ls at hl ⊢
  have hl : lv_has ls 2 [(0, .ref (am (0))), (1, .int (nI a))] := hl
  refine lv_aload_n hx hb dX10_errorsAt_0 rfl (lv_at hl 0 rfl) ?_
  refine lv_iload_n hx hb dX10_errorsAt_1 rfl (lv_at hl 1 rfl) ?_
  refine lv_iconst (v := 0) hx hb dX10_errorsAt_2 (by decide) ?_
  refine sp_call (W.runV (As := [.int (nI a), .int (0)]) (rest := []) ⟨hx, hb, hml, hown, hts⟩ (c_X10_hasError l D am cy μ n t (by first | exact hM | exact hi_0 | (repeat first | exact hM | exact hi_0 | refine MS.st0 ?_ | refine MS.st ?_ (by omega))) a (by omega) 0) (cwV 2 hts gX10_errorsAt_X10_hasError rfl rfl rfl (by decide +kernel) ⟨Nat.le_of_ble_eq_true rfl, Nat.le_of_ble_eq_true rfl⟩) (sp_preV hK hP (κ := 0) (by decide) mE_0 rfl) rfl rfl hl.1 rfl (lv_room (Nat.le_of_ble_eq_true rfl)) dX10_errorsAt_3 ⟨Nat.le_of_ble_eq_true rfl, Nat.le_of_ble_eq_true rfl⟩) ?_
  refine W.eq (g2 := F0 m 6 ls [.int (b2i (m_err (μ 1) n t a 0))]) rfl ?_
  refine lv_if_eq (tgt := 13) hx hb dX10_errorsAt_6 (by decide) (fun c_1 => ?_) (fun c_1 => ?_)
  · rw [b2i_eq0] at c_1
    refine lv_iconst (v := 0) hx hb dX10_errorsAt_13 (by decide) ?_
    refine lv_aload_n hx hb dX10_errorsAt_14 rfl (lv_at hl 0 rfl) ?_
    refine lv_iload_n hx hb dX10_errorsAt_15 rfl (lv_at hl 1 rfl) ?_
    refine lv_iconst (v := 1) hx hb dX10_errorsAt_16 (by decide) ?_
    refine sp_call (W.runV (As := [.int (nI a), .int (1)]) (rest := [.int (0)]) ⟨hx, hb, hml, hown, hts⟩ (c_X10_hasError l D am cy μ n t (by first | exact hM | exact hi_0 | (repeat first | exact hM | exact hi_0 | refine MS.st0 ?_ | refine MS.st ?_ (by omega))) a (by omega) 1) (cwV 2 hts gX10_errorsAt_X10_hasError rfl rfl rfl (by decide +kernel) ⟨Nat.le_of_ble_eq_true rfl, Nat.le_of_ble_eq_true rfl⟩) (sp_preV hK hP (κ := 0) (by decide) mE_0 rfl) rfl rfl hl.1 rfl (lv_room (Nat.le_of_ble_eq_true rfl)) dX10_errorsAt_17 ⟨Nat.le_of_ble_eq_true rfl, Nat.le_of_ble_eq_true rfl⟩) ?_
    refine W.eq (g2 := F0 m 20 ls [.int (b2i (m_err (μ 1) n t a 1)), .int (0)]) rfl ?_
    refine lv_if_eq (tgt := 27) hx hb dX10_errorsAt_20 (by decide) (fun c_2 => ?_) (fun c_2 => ?_)
    · rw [b2i_eq0] at c_2
      refine lv_iconst (v := 0) hx hb dX10_errorsAt_27 (by decide) ?_
      refine lv_iadd hx hb dX10_errorsAt_28 ?_
      refine W.eq (g2 := F0 m 29 ls [.int (0)]) rfl ?_
      refine lv_aload_n hx hb dX10_errorsAt_29 rfl (lv_at hl 0 rfl) ?_
      refine lv_iload_n hx hb dX10_errorsAt_30 rfl (lv_at hl 1 rfl) ?_
      refine lv_iconst (v := 2) hx hb dX10_errorsAt_31 (by decide) ?_
      refine sp_call (W.runV (As := [.int (nI a), .int (2)]) (rest := [.int (0)]) ⟨hx, hb, hml, hown, hts⟩ (c_X10_hasError l D am cy μ n t (by first | exact hM | exact hi_0 | (repeat first | exact hM | exact hi_0 | refine MS.st0 ?_ | refine MS.st ?_ (by omega))) a (by omega) 2) (cwV 2 hts gX10_errorsAt_X10_hasError rfl rfl rfl (by decide +kernel) ⟨Nat.le_of_ble_eq_true rfl, Nat.le_of_ble_eq_true rfl⟩) (sp_preV hK hP (κ := 0) (by decide) mE_0 rfl) rfl rfl hl.1 rfl (lv_room (Nat.le_of_ble_eq_true rfl)) dX10_errorsAt_32 ⟨Nat.le_of_ble_eq_true rfl, Nat.le_of_ble_eq_true rfl⟩) ?_
      refine W.eq (g2 := F0 m 35 ls [.int (b2i (m_err (μ 1) n t a 2)), .int (0)]) rfl ?_
      refine lv_if_eq (tgt := 42) hx hb dX10_errorsAt_35 (by decide) (fun c_3 => ?_) (fun c_3 => ?_)
      · rw [b2i_eq0] at c_3
        refine lv_iconst (v := 0) hx hb dX10_errorsAt_42 (by decide) ?_
        refine lv_iadd hx hb dX10_errorsAt_43 ?_
        refine W.eq (g2 := F0 m 44 ls [.int (0)]) rfl ?_
        exact W.iret (v := 0) hx hb hr (fun T9 hT9 _ => ⟨congrArg (fun z9 => Outcome.returned (some (Value.int z9))) (show (0 : Int32) = m_errs1 (μ 1) n t a from (by first | rfl | (simp [m_errs1, b2i, c_1, c_2, c_3]; done))), hT9⟩) (fun _ h => by cases h) dX10_errorsAt_44
      · rw [b2i_eq0] at c_3
        refine lv_iconst (v := 1) hx hb dX10_errorsAt_38 (by decide) ?_
        refine lv_goto (tgt := 43) hx hb dX10_errorsAt_39 (by decide) ?_
        refine lv_iadd hx hb dX10_errorsAt_43 ?_
        refine W.eq (g2 := F0 m 44 ls [.int (1)]) rfl ?_
        exact W.iret (v := 1) hx hb hr (fun T9 hT9 _ => ⟨congrArg (fun z9 => Outcome.returned (some (Value.int z9))) (show (1 : Int32) = m_errs1 (μ 1) n t a from (by first | rfl | (simp [m_errs1, b2i, c_1, c_2, c_3]; done))), hT9⟩) (fun _ h => by cases h) dX10_errorsAt_44
    · rw [b2i_eq0] at c_2
      refine lv_iconst (v := 1) hx hb dX10_errorsAt_23 (by decide) ?_
      refine lv_goto (tgt := 28) hx hb dX10_errorsAt_24 (by decide) ?_
      refine lv_iadd hx hb dX10_errorsAt_28 ?_
      refine W.eq (g2 := F0 m 29 ls [.int (1)]) rfl ?_
      refine lv_aload_n hx hb dX10_errorsAt_29 rfl (lv_at hl 0 rfl) ?_
      refine lv_iload_n hx hb dX10_errorsAt_30 rfl (lv_at hl 1 rfl) ?_
      refine lv_iconst (v := 2) hx hb dX10_errorsAt_31 (by decide) ?_
      refine sp_call (W.runV (As := [.int (nI a), .int (2)]) (rest := [.int (1)]) ⟨hx, hb, hml, hown, hts⟩ (c_X10_hasError l D am cy μ n t (by first | exact hM | exact hi_0 | (repeat first | exact hM | exact hi_0 | refine MS.st0 ?_ | refine MS.st ?_ (by omega))) a (by omega) 2) (cwV 2 hts gX10_errorsAt_X10_hasError rfl rfl rfl (by decide +kernel) ⟨Nat.le_of_ble_eq_true rfl, Nat.le_of_ble_eq_true rfl⟩) (sp_preV hK hP (κ := 0) (by decide) mE_0 rfl) rfl rfl hl.1 rfl (lv_room (Nat.le_of_ble_eq_true rfl)) dX10_errorsAt_32 ⟨Nat.le_of_ble_eq_true rfl, Nat.le_of_ble_eq_true rfl⟩) ?_
      refine W.eq (g2 := F0 m 35 ls [.int (b2i (m_err (μ 1) n t a 2)), .int (1)]) rfl ?_
      refine lv_if_eq (tgt := 42) hx hb dX10_errorsAt_35 (by decide) (fun c_4 => ?_) (fun c_4 => ?_)
      · rw [b2i_eq0] at c_4
        refine lv_iconst (v := 0) hx hb dX10_errorsAt_42 (by decide) ?_
        refine lv_iadd hx hb dX10_errorsAt_43 ?_
        refine W.eq (g2 := F0 m 44 ls [.int (1)]) rfl ?_
        exact W.iret (v := 1) hx hb hr (fun T9 hT9 _ => ⟨congrArg (fun z9 => Outcome.returned (some (Value.int z9))) (show (1 : Int32) = m_errs1 (μ 1) n t a from (by first | rfl | (simp [m_errs1, b2i, c_1, c_2, c_4]; done))), hT9⟩) (fun _ h => by cases h) dX10_errorsAt_44
      · rw [b2i_eq0] at c_4
        refine lv_iconst (v := 1) hx hb dX10_errorsAt_38 (by decide) ?_
        refine lv_goto (tgt := 43) hx hb dX10_errorsAt_39 (by decide) ?_
        refine lv_iadd hx hb dX10_errorsAt_43 ?_
        refine W.eq (g2 := F0 m 44 ls [.int (2)]) rfl ?_
        exact W.iret (v := 2) hx hb hr (fun T9 hT9 _ => ⟨congrArg (fun z9 => Outcome.returned (some (Value.int z9))) (show (2 : Int32) = m_errs1 (μ 1) n t a from (by first | rfl | (simp [m_errs1, b2i, c_1, c_2, c_4]; done))), hT9⟩) (fun _ h => by cases h) dX10_errorsAt_44
  · rw [b2i_eq0] at c_1
    refine lv_iconst (v := 1) hx hb dX10_errorsAt_9 (by decide) ?_
    refine lv_goto (tgt := 14) hx hb dX10_errorsAt_10 (by decide) ?_
    refine lv_aload_n hx hb dX10_errorsAt_14 rfl (lv_at hl 0 rfl) ?_
    refine lv_iload_n hx hb dX10_errorsAt_15 rfl (lv_at hl 1 rfl) ?_
    refine lv_iconst (v := 1) hx hb dX10_errorsAt_16 (by decide) ?_
    refine sp_call (W.runV (As := [.int (nI a), .int (1)]) (rest := [.int (1)]) ⟨hx, hb, hml, hown, hts⟩ (c_X10_hasError l D am cy μ n t (by first | exact hM | exact hi_0 | (repeat first | exact hM | exact hi_0 | refine MS.st0 ?_ | refine MS.st ?_ (by omega))) a (by omega) 1) (cwV 2 hts gX10_errorsAt_X10_hasError rfl rfl rfl (by decide +kernel) ⟨Nat.le_of_ble_eq_true rfl, Nat.le_of_ble_eq_true rfl⟩) (sp_preV hK hP (κ := 0) (by decide) mE_0 rfl) rfl rfl hl.1 rfl (lv_room (Nat.le_of_ble_eq_true rfl)) dX10_errorsAt_17 ⟨Nat.le_of_ble_eq_true rfl, Nat.le_of_ble_eq_true rfl⟩) ?_
    refine W.eq (g2 := F0 m 20 ls [.int (b2i (m_err (μ 1) n t a 1)), .int (1)]) rfl ?_
    refine lv_if_eq (tgt := 27) hx hb dX10_errorsAt_20 (by decide) (fun c_5 => ?_) (fun c_5 => ?_)
    · rw [b2i_eq0] at c_5
      refine lv_iconst (v := 0) hx hb dX10_errorsAt_27 (by decide) ?_
      refine lv_iadd hx hb dX10_errorsAt_28 ?_
      refine W.eq (g2 := F0 m 29 ls [.int (1)]) rfl ?_
      refine lv_aload_n hx hb dX10_errorsAt_29 rfl (lv_at hl 0 rfl) ?_
      refine lv_iload_n hx hb dX10_errorsAt_30 rfl (lv_at hl 1 rfl) ?_
      refine lv_iconst (v := 2) hx hb dX10_errorsAt_31 (by decide) ?_
      refine sp_call (W.runV (As := [.int (nI a), .int (2)]) (rest := [.int (1)]) ⟨hx, hb, hml, hown, hts⟩ (c_X10_hasError l D am cy μ n t (by first | exact hM | exact hi_0 | (repeat first | exact hM | exact hi_0 | refine MS.st0 ?_ | refine MS.st ?_ (by omega))) a (by omega) 2) (cwV 2 hts gX10_errorsAt_X10_hasError rfl rfl rfl (by decide +kernel) ⟨Nat.le_of_ble_eq_true rfl, Nat.le_of_ble_eq_true rfl⟩) (sp_preV hK hP (κ := 0) (by decide) mE_0 rfl) rfl rfl hl.1 rfl (lv_room (Nat.le_of_ble_eq_true rfl)) dX10_errorsAt_32 ⟨Nat.le_of_ble_eq_true rfl, Nat.le_of_ble_eq_true rfl⟩) ?_
      refine W.eq (g2 := F0 m 35 ls [.int (b2i (m_err (μ 1) n t a 2)), .int (1)]) rfl ?_
      refine lv_if_eq (tgt := 42) hx hb dX10_errorsAt_35 (by decide) (fun c_6 => ?_) (fun c_6 => ?_)
      · rw [b2i_eq0] at c_6
        refine lv_iconst (v := 0) hx hb dX10_errorsAt_42 (by decide) ?_
        refine lv_iadd hx hb dX10_errorsAt_43 ?_
        refine W.eq (g2 := F0 m 44 ls [.int (1)]) rfl ?_
        exact W.iret (v := 1) hx hb hr (fun T9 hT9 _ => ⟨congrArg (fun z9 => Outcome.returned (some (Value.int z9))) (show (1 : Int32) = m_errs1 (μ 1) n t a from (by first | rfl | (simp [m_errs1, b2i, c_1, c_5, c_6]; done))), hT9⟩) (fun _ h => by cases h) dX10_errorsAt_44
      · rw [b2i_eq0] at c_6
        refine lv_iconst (v := 1) hx hb dX10_errorsAt_38 (by decide) ?_
        refine lv_goto (tgt := 43) hx hb dX10_errorsAt_39 (by decide) ?_
        refine lv_iadd hx hb dX10_errorsAt_43 ?_
        refine W.eq (g2 := F0 m 44 ls [.int (2)]) rfl ?_
        exact W.iret (v := 2) hx hb hr (fun T9 hT9 _ => ⟨congrArg (fun z9 => Outcome.returned (some (Value.int z9))) (show (2 : Int32) = m_errs1 (μ 1) n t a from (by first | rfl | (simp [m_errs1, b2i, c_1, c_5, c_6]; done))), hT9⟩) (fun _ h => by cases h) dX10_errorsAt_44
    · rw [b2i_eq0] at c_5
      refine lv_iconst (v := 1) hx hb dX10_errorsAt_23 (by decide) ?_
      refine lv_goto (tgt := 28) hx hb dX10_errorsAt_24 (by decide) ?_
      refine lv_iadd hx hb dX10_errorsAt_28 ?_
      refine W.eq (g2 := F0 m 29 ls [.int (2)]) rfl ?_
      refine lv_aload_n hx hb dX10_errorsAt_29 rfl (lv_at hl 0 rfl) ?_
      refine lv_iload_n hx hb dX10_errorsAt_30 rfl (lv_at hl 1 rfl) ?_
      refine lv_iconst (v := 2) hx hb dX10_errorsAt_31 (by decide) ?_
      refine sp_call (W.runV (As := [.int (nI a), .int (2)]) (rest := [.int (2)]) ⟨hx, hb, hml, hown, hts⟩ (c_X10_hasError l D am cy μ n t (by first | exact hM | exact hi_0 | (repeat first | exact hM | exact hi_0 | refine MS.st0 ?_ | refine MS.st ?_ (by omega))) a (by omega) 2) (cwV 2 hts gX10_errorsAt_X10_hasError rfl rfl rfl (by decide +kernel) ⟨Nat.le_of_ble_eq_true rfl, Nat.le_of_ble_eq_true rfl⟩) (sp_preV hK hP (κ := 0) (by decide) mE_0 rfl) rfl rfl hl.1 rfl (lv_room (Nat.le_of_ble_eq_true rfl)) dX10_errorsAt_32 ⟨Nat.le_of_ble_eq_true rfl, Nat.le_of_ble_eq_true rfl⟩) ?_
      refine W.eq (g2 := F0 m 35 ls [.int (b2i (m_err (μ 1) n t a 2)), .int (2)]) rfl ?_
      refine lv_if_eq (tgt := 42) hx hb dX10_errorsAt_35 (by decide) (fun c_7 => ?_) (fun c_7 => ?_)
      · rw [b2i_eq0] at c_7
        refine lv_iconst (v := 0) hx hb dX10_errorsAt_42 (by decide) ?_
        refine lv_iadd hx hb dX10_errorsAt_43 ?_
        refine W.eq (g2 := F0 m 44 ls [.int (2)]) rfl ?_
        exact W.iret (v := 2) hx hb hr (fun T9 hT9 _ => ⟨congrArg (fun z9 => Outcome.returned (some (Value.int z9))) (show (2 : Int32) = m_errs1 (μ 1) n t a from (by first | rfl | (simp [m_errs1, b2i, c_1, c_5, c_7]; done))), hT9⟩) (fun _ h => by cases h) dX10_errorsAt_44
      · rw [b2i_eq0] at c_7
        refine lv_iconst (v := 1) hx hb dX10_errorsAt_38 (by decide) ?_
        refine lv_goto (tgt := 43) hx hb dX10_errorsAt_39 (by decide) ?_
        refine lv_iadd hx hb dX10_errorsAt_43 ?_
        refine W.eq (g2 := F0 m 44 ls [.int (3)]) rfl ?_
        exact W.iret (v := 3) hx hb hr (fun T9 hT9 _ => ⟨congrArg (fun z9 => Outcome.returned (some (Value.int z9))) (show (3 : Int32) = m_errs1 (μ 1) n t a from (by first | rfl | (simp [m_errs1, b2i, c_1, c_5, c_7]; done))), hT9⟩) (fun _ h => by cases h) dX10_errorsAt_44

theorem wi_X10_countOf_X10 : ∀ w ∈ wsX100, w ∈ wsX10_countOf := by decide +kernel
set_option maxHeartbeats 4000000 in
set_option maxRecDepth 100000 in
theorem c_X10_countOf (l : Launch) (D : va_G) (am : Nat → Nat) (cy : Nat → ClassId) (μ : Nat → Nat → Int32) (n : Nat) (t : Nat) (hM : MS (μ 1) n t) (x : Int32) : Met l yX10_countOf wsX10_countOf ({ frames := 1, cells := 0, slots := 0, locals := 22 } : Room) (sp_Pc D (tyG cy) [.ref (am (0)), .int (x)] (mW am cy μ)) (sp_S (some (.int (m_count (μ 1) n x)))) 0 0 (fun _ => False) := by
  refine Met.ofW (cc := cX10_countOf) (maxL := 4) (ret := (some .int)) (by decide) rfl ?_
  intro p e s m args below meth c s₁ B hml hv
  obtain ⟨rfl, hP, hK⟩ := hv
  have hx := B.exec
  have hb := B.bytes
  have hr := B.returns
  have hts := atoms_spec (ws := wsX10_countOf) B.pre
  have hown : s.vm.findClass RX10 = some m.cls := findClass_of_methodNamed B.named
  have hlocks := B.notSynchronized
  have hn30 := hM.2.1
  have ht6 := hM.2.2.2
  have hl := lv_entry ([.ref (am (0)), .int (x)]) (n := 4) (Nat.le_of_ble_eq_true rfl)
  refine W.eq (lg_entry_eq _ ([.ref (am (0)), .int (x)]) _) ?_
  generalize (lg_sl ([.ref (am (0)), .int (x)]) ++ List.replicate (4 - (lg_sl ([.ref (am (0)), .int (x)])).length) Slot.unset).toArray = ls at hl ⊢
  have hl : lv_has ls 4 [(0, .ref (am (0))), (1, .int (x))] := hl
  refine lv_iconst (v := 0) hx hb dX10_countOf_0 (by decide) ?_
  refine lv_istore_n (lv' := [(2, .int (0)), (0, .ref (am (0))), (1, .int (x))]) hx hb dX10_countOf_1 rfl hl (by decide) rfl (fun ls hl => ?_)
  refine lv_iconst (v := 0) hx hb dX10_countOf_2 (by decide) ?_
  refine lv_istore_n (lv' := [(3, .int (0)), (2, .int (0)), (0, .ref (am (0))), (1, .int (x))]) hx hb dX10_countOf_3 rfl hl (by decide) rfl (fun ls hl => ?_)
  have loop_4 : ∀ (fu i : Nat) (y0 : Int32), (i ≤ n) → (n - i < fu) → (y0 = sumI (mF_cnt (μ 1) x) i) → ∀ ls : Array Slot, lv_has ls 4 [(3, .int (nI i)), (2, .int (y0)), (0, .ref (am (0))), (1, .int (x))] → W p l e (headSpec wsX10_countOf ({ frames := 1, cells := 0, slots := 0, locals := 22 } : Room)).room s m ([.ref (am (0)), .int (x)] : List Value).toArray below meth c s.heap [] 0 0 (MQ below (sp_S (some (.int (m_count (μ 1) n x)))) ([.ref (am (0)), .int (x)] : List Value).toArray s 0 0 (fun _ => False)) (F0 m 4 ls []) := by
    intro fu
    induction fu with
    | zero => intro i y0 hle hlt hi_0 ls hl; exact absurd hlt (Nat.not_lt_zero _)
    | succ fu ih =>
      intro i y0 hle hlt hi_0 ls hl
      refine lv_iload_n hx hb dX10_countOf_4 rfl (lv_at hl 0 rfl) ?_
      refine lv_aload_n hx hb dX10_countOf_5 rfl (lv_at hl 2 rfl) ?_
      refine sp_get hx hb hts wi_X10_countOf_X10 hown hK hP (κ := 0) (by decide) mE_0 rfl 1 (by decide) (hts _ (List.mem_of_getElem? (i := 1) rfl)) (fun _ h => h) rfl dX10_countOf_6 ?_
      refine lv_iconst (v := 1) hx hb dX10_countOf_9 (by decide) ?_
      refine sp_iald hx hb hK hP (κ := 1) (by decide) 1 mE_1 rfl 1 rfl (by omega) (by decide) dX10_countOf_10 ?_
      refine W.eq (g2 := F0 m 11 ls [.int (nI n), .int (nI i)]) (by rw [hM.1]) ?_
      refine lv_icmp_ge (tgt := 38) hx hb dX10_countOf_11 (by decide) (fun c_1 => ?_) (fun c_1 => ?_)
      · skip
        have c_1d := Int32.not_lt.mpr c_1
        have hx_i : i = n := by have := (nI_leI (a := n) (b := i) (by omega) (by omega)).mp c_1; omega
        try rw [hx_i] at hi_0
        refine lv_iload_n hx hb dX10_countOf_38 rfl (lv_at hl 1 rfl) ?_
        exact W.iret (v := y0) hx hb hr (fun T9 hT9 _ => ⟨congrArg (fun z9 => Outcome.returned (some (Value.int z9))) (show (y0 : Int32) = m_count (μ 1) n x from (by exact hi_0)), hT9⟩) (fun _ h => by cases h) dX10_countOf_39
      · skip
        have c_1d := Int32.not_le.mp c_1
        have hb_i : i < n := Nat.lt_of_not_le (fun z => c_1 (nI_le z (by omega)))
        refine lv_iload_n hx hb dX10_countOf_14 rfl (lv_at hl 1 rfl) ?_
        refine lv_aload_n hx hb dX10_countOf_15 rfl (lv_at hl 2 rfl) ?_
        refine lv_iload_n hx hb dX10_countOf_16 rfl (lv_at hl 0 rfl) ?_
        refine lv_iconst (v := 1) hx hb dX10_countOf_17 (by decide) ?_
        refine sp_call (W.runV (As := [.int (nI i), .int (1)]) (rest := [.int (y0)]) ⟨hx, hb, hml, hown, hts⟩ (c_X10_p l D am cy μ i (by omega) 1 (by omega)) (cwV 2 hts gX10_countOf_X10_p rfl rfl rfl (by decide +kernel) ⟨Nat.le_of_ble_eq_true rfl, Nat.le_of_ble_eq_true rfl⟩) (sp_preV hK hP (κ := 0) (by decide) mE_0 rfl) rfl rfl hl.1 rfl (lv_room (Nat.le_of_ble_eq_true rfl)) dX10_countOf_18 ⟨Nat.le_of_ble_eq_true rfl, Nat.le_of_ble_eq_true rfl⟩) ?_
        refine W.eq (g2 := F0 m 21 ls [.int (gP (μ 1) i 1), .int (y0)]) rfl ?_
        refine lv_iload_n hx hb dX10_countOf_21 rfl (lv_at hl 3 rfl) ?_
        refine lv_icmp_ne (tgt := 29) hx hb dX10_countOf_22 (by decide) (fun c_2 => ?_) (fun c_2 => ?_)
        · skip
          refine lv_iconst (v := 0) hx hb dX10_countOf_29 (by decide) ?_
          refine lv_iadd hx hb dX10_countOf_30 ?_
          refine lv_istore_n (lv' := [(2, .int (y0 + 0)), (3, .int (nI i)), (0, .ref (am (0))), (1, .int (x))]) hx hb dX10_countOf_31 rfl hl (by decide) rfl (fun ls hl => ?_)
          refine lv_iinc (v := nI (i + 1)) (lv' := [(3, .int (nI (i + 1))), (2, .int (y0 + 0)), (0, .ref (am (0))), (1, .int (x))]) hx hb dX10_countOf_32 hl (k := 1) rfl (nI_1 _) (by decide) rfl (fun ls hl => ?_)
          refine lv_goto (tgt := 4) hx hb dX10_countOf_35 (by decide) ?_
          exact ih (i + 1) (y0 + 0) (by omega) (by omega) (by rw [sumI_succ, ← hi_0]; simp [mF_cnt, b2i, c_2]) ls (lv_sub hl [0, 1, 2, 3] rfl)
        · skip
          refine lv_iconst (v := 1) hx hb dX10_countOf_25 (by decide) ?_
          refine lv_goto (tgt := 30) hx hb dX10_countOf_26 (by decide) ?_
          refine lv_iadd hx hb dX10_countOf_30 ?_
          refine lv_istore_n (lv' := [(2, .int (y0 + 1)), (3, .int (nI i)), (0, .ref (am (0))), (1, .int (x))]) hx hb dX10_countOf_31 rfl hl (by decide) rfl (fun ls hl => ?_)
          refine lv_iinc (v := nI (i + 1)) (lv' := [(3, .int (nI (i + 1))), (2, .int (y0 + 1)), (0, .ref (am (0))), (1, .int (x))]) hx hb dX10_countOf_32 hl (k := 1) rfl (nI_1 _) (by decide) rfl (fun ls hl => ?_)
          refine lv_goto (tgt := 4) hx hb dX10_countOf_35 (by decide) ?_
          exact ih (i + 1) (y0 + 1) (by omega) (by omega) (by rw [sumI_succ, ← hi_0]; simp [mF_cnt, b2i, c_2]) ls (lv_sub hl [0, 1, 2, 3] rfl)
  exact loop_4 (n + 1) (0) (0)  (by omega) (by omega) (rfl) ls (lv_sub hl [0, 1, 2, 3] rfl)

theorem wi_X10_errorsOf_X10 : ∀ w ∈ wsX100, w ∈ wsX10_errorsOf := by decide +kernel
set_option maxHeartbeats 4000000 in
set_option maxRecDepth 100000 in
theorem c_X10_errorsOf (l : Launch) (D : va_G) (am : Nat → Nat) (cy : Nat → ClassId) (μ : Nat → Nat → Int32) (n : Nat) (t : Nat) (hM : MS (μ 1) n t) (x : Int32) : Met l yX10_errorsOf wsX10_errorsOf ({ frames := 5, cells := 0, slots := 0, locals := 114 } : Room) (sp_Pc D (tyG cy) [.ref (am (0)), .int (x)] (mW am cy μ)) (sp_S (some (.int (m_errs (μ 1) n t x)))) 0 0 (fun _ => False) := by
  refine Met.ofW (cc := cX10_errorsOf) (maxL := 4) (ret := (some .int)) (by decide) rfl ?_
  intro p e s m args below meth c s₁ B hml hv
  obtain ⟨rfl, hP, hK⟩ := hv
  have hx := B.exec
  have hb := B.bytes
  have hr := B.returns
  have hts := atoms_spec (ws := wsX10_errorsOf) B.pre
  have hown : s.vm.findClass RX10 = some m.cls := findClass_of_methodNamed B.named
  have hlocks := B.notSynchronized
  have hn30 := hM.2.1
  have ht6 := hM.2.2.2
  have hl := lv_entry ([.ref (am (0)), .int (x)]) (n := 4) (Nat.le_of_ble_eq_true rfl)
  refine W.eq (lg_entry_eq _ ([.ref (am (0)), .int (x)]) _) ?_
  generalize (lg_sl ([.ref (am (0)), .int (x)]) ++ List.replicate (4 - (lg_sl ([.ref (am (0)), .int (x)])).length) Slot.unset).toArray = ls at hl ⊢
  have hl : lv_has ls 4 [(0, .ref (am (0))), (1, .int (x))] := hl
  refine lv_iconst (v := 0) hx hb dX10_errorsOf_0 (by decide) ?_
  refine lv_istore_n (lv' := [(2, .int (0)), (0, .ref (am (0))), (1, .int (x))]) hx hb dX10_errorsOf_1 rfl hl (by decide) rfl (fun ls hl => ?_)
  refine lv_iconst (v := 0) hx hb dX10_errorsOf_2 (by decide) ?_
  refine lv_istore_n (lv' := [(3, .int (0)), (2, .int (0)), (0, .ref (am (0))), (1, .int (x))]) hx hb dX10_errorsOf_3 rfl hl (by decide) rfl (fun ls hl => ?_)
  have loop_4 : ∀ (fu i : Nat) (y0 : Int32), (i ≤ n) → (n - i < fu) → (y0 = sumI (mF_errs (μ 1) n t x) i) → ∀ ls : Array Slot, lv_has ls 4 [(3, .int (nI i)), (2, .int (y0)), (0, .ref (am (0))), (1, .int (x))] → W p l e (headSpec wsX10_errorsOf ({ frames := 5, cells := 0, slots := 0, locals := 114 } : Room)).room s m ([.ref (am (0)), .int (x)] : List Value).toArray below meth c s.heap [] 0 0 (MQ below (sp_S (some (.int (m_errs (μ 1) n t x)))) ([.ref (am (0)), .int (x)] : List Value).toArray s 0 0 (fun _ => False)) (F0 m 4 ls []) := by
    intro fu
    induction fu with
    | zero => intro i y0 hle hlt hi_0 ls hl; exact absurd hlt (Nat.not_lt_zero _)
    | succ fu ih =>
      intro i y0 hle hlt hi_0 ls hl
      refine lv_iload_n hx hb dX10_errorsOf_4 rfl (lv_at hl 0 rfl) ?_
      refine lv_aload_n hx hb dX10_errorsOf_5 rfl (lv_at hl 2 rfl) ?_
      refine sp_get hx hb hts wi_X10_errorsOf_X10 hown hK hP (κ := 0) (by decide) mE_0 rfl 1 (by decide) (hts _ (List.mem_of_getElem? (i := 1) rfl)) (fun _ h => h) rfl dX10_errorsOf_6 ?_
      refine lv_iconst (v := 1) hx hb dX10_errorsOf_9 (by decide) ?_
      refine sp_iald hx hb hK hP (κ := 1) (by decide) 1 mE_1 rfl 1 rfl (by omega) (by decide) dX10_errorsOf_10 ?_
      refine W.eq (g2 := F0 m 11 ls [.int (nI n), .int (nI i)]) (by rw [hM.1]) ?_
      refine lv_icmp_ge (tgt := 42) hx hb dX10_errorsOf_11 (by decide) (fun c_1 => ?_) (fun c_1 => ?_)
      · skip
        have c_1d := Int32.not_lt.mpr c_1
        have hx_i : i = n := by have := (nI_leI (a := n) (b := i) (by omega) (by omega)).mp c_1; omega
        try rw [hx_i] at hi_0
        refine lv_iload_n hx hb dX10_errorsOf_42 rfl (lv_at hl 1 rfl) ?_
        exact W.iret (v := y0) hx hb hr (fun T9 hT9 _ => ⟨congrArg (fun z9 => Outcome.returned (some (Value.int z9))) (show (y0 : Int32) = m_errs (μ 1) n t x from (by exact hi_0)), hT9⟩) (fun _ h => by cases h) dX10_errorsOf_43
      · skip
        have c_1d := Int32.not_le.mp c_1
        have hb_i : i < n := Nat.lt_of_not_le (fun z => c_1 (nI_le z (by omega)))
        refine lv_iload_n hx hb dX10_errorsOf_14 rfl (lv_at hl 1 rfl) ?_
        refine lv_aload_n hx hb dX10_errorsOf_15 rfl (lv_at hl 2 rfl) ?_
        refine lv_iload_n hx hb dX10_errorsOf_16 rfl (lv_at hl 0 rfl) ?_
        refine lv_iconst (v := 1) hx hb dX10_errorsOf_17 (by decide) ?_
        refine sp_call (W.runV (As := [.int (nI i), .int (1)]) (rest := [.int (y0)]) ⟨hx, hb, hml, hown, hts⟩ (c_X10_p l D am cy μ i (by omega) 1 (by omega)) (cwV 2 hts gX10_errorsOf_X10_p rfl rfl rfl (by decide +kernel) ⟨Nat.le_of_ble_eq_true rfl, Nat.le_of_ble_eq_true rfl⟩) (sp_preV hK hP (κ := 0) (by decide) mE_0 rfl) rfl rfl hl.1 rfl (lv_room (Nat.le_of_ble_eq_true rfl)) dX10_errorsOf_18 ⟨Nat.le_of_ble_eq_true rfl, Nat.le_of_ble_eq_true rfl⟩) ?_
        refine W.eq (g2 := F0 m 21 ls [.int (gP (μ 1) i 1), .int (y0)]) rfl ?_
        refine lv_iload_n hx hb dX10_errorsOf_21 rfl (lv_at hl 3 rfl) ?_
        refine lv_icmp_ne (tgt := 33) hx hb dX10_errorsOf_22 (by decide) (fun c_2 => ?_) (fun c_2 => ?_)
        · skip
          refine lv_iconst (v := 0) hx hb dX10_errorsOf_33 (by decide) ?_
          refine lv_iadd hx hb dX10_errorsOf_34 ?_
          refine lv_istore_n (lv' := [(2, .int (y0 + 0)), (3, .int (nI i)), (0, .ref (am (0))), (1, .int (x))]) hx hb dX10_errorsOf_35 rfl hl (by decide) rfl (fun ls hl => ?_)
          refine lv_iinc (v := nI (i + 1)) (lv' := [(3, .int (nI (i + 1))), (2, .int (y0 + 0)), (0, .ref (am (0))), (1, .int (x))]) hx hb dX10_errorsOf_36 hl (k := 1) rfl (nI_1 _) (by decide) rfl (fun ls hl => ?_)
          refine lv_goto (tgt := 4) hx hb dX10_errorsOf_39 (by decide) ?_
          exact ih (i + 1) (y0 + 0) (by omega) (by omega) (by rw [sumI_succ, ← hi_0]; simp [mF_errs, b2i, c_2]) ls (lv_sub hl [0, 1, 2, 3] rfl)
        · skip
          refine lv_aload_n hx hb dX10_errorsOf_25 rfl (lv_at hl 2 rfl) ?_
          refine lv_iload_n hx hb dX10_errorsOf_26 rfl (lv_at hl 0 rfl) ?_
          refine sp_call (W.runV (As := [.int (nI i)]) (rest := [.int (y0)]) ⟨hx, hb, hml, hown, hts⟩ (c_X10_errorsAt l D am cy μ n t (by first | exact hM | exact hi_0 | (repeat first | exact hM | exact hi_0 | refine MS.st0 ?_ | refine MS.st ?_ (by omega))) i (by omega)) (cwV 1 hts gX10_errorsOf_X10_errorsAt rfl rfl rfl (by decide +kernel) ⟨Nat.le_of_ble_eq_true rfl, Nat.le_of_ble_eq_true rfl⟩) (sp_preV hK hP (κ := 0) (by decide) mE_0 rfl) rfl rfl hl.1 rfl (lv_room (Nat.le_of_ble_eq_true rfl)) dX10_errorsOf_27 ⟨Nat.le_of_ble_eq_true rfl, Nat.le_of_ble_eq_true rfl⟩) ?_
          refine W.eq (g2 := F0 m 30 ls [.int (m_errs1 (μ 1) n t i), .int (y0)]) rfl ?_
          refine lv_goto (tgt := 34) hx hb dX10_errorsOf_30 (by decide) ?_
          refine lv_iadd hx hb dX10_errorsOf_34 ?_
          refine lv_istore_n (lv' := [(2, .int (y0 + (m_errs1 (μ 1) n t i))), (3, .int (nI i)), (0, .ref (am (0))), (1, .int (x))]) hx hb dX10_errorsOf_35 rfl hl (by decide) rfl (fun ls hl => ?_)
          refine lv_iinc (v := nI (i + 1)) (lv' := [(3, .int (nI (i + 1))), (2, .int (y0 + (m_errs1 (μ 1) n t i))), (0, .ref (am (0))), (1, .int (x))]) hx hb dX10_errorsOf_36 hl (k := 1) rfl (nI_1 _) (by decide) rfl (fun ls hl => ?_)
          refine lv_goto (tgt := 4) hx hb dX10_errorsOf_39 (by decide) ?_
          exact ih (i + 1) (y0 + (m_errs1 (μ 1) n t i)) (by omega) (by omega) (by rw [sumI_succ, ← hi_0]; simp [mF_errs, b2i, c_2]) ls (lv_sub hl [0, 1, 2, 3] rfl)
  exact loop_4 (n + 1) (0) (0)  (by omega) (by omega) (rfl) ls (lv_sub hl [0, 1, 2, 3] rfl)

theorem wi_X10_lengthOf_X10 : ∀ w ∈ wsX100, w ∈ wsX10_lengthOf := by decide +kernel
set_option maxHeartbeats 4000000 in
set_option maxRecDepth 100000 in
theorem c_X10_lengthOf (l : Launch) (D : va_G) (am : Nat → Nat) (cy : Nat → ClassId) (μ : Nat → Nat → Int32) (n : Nat) (t : Nat) (hM : MS (μ 1) n t) (x : Int32) : Met l yX10_lengthOf wsX10_lengthOf ({ frames := 3, cells := 0, slots := 0, locals := 70 } : Room) (sp_Pc D (tyG cy) [.ref (am (0)), .int (x)] (mW am cy μ)) (sp_S (some (.int (m_len (μ 1) n x)))) 0 0 (fun _ => False) := by
  refine Met.ofW (cc := cX10_lengthOf) (maxL := 4) (ret := (some .int)) (by decide) rfl ?_
  intro p e s m args below meth c s₁ B hml hv
  obtain ⟨rfl, hP, hK⟩ := hv
  have hx := B.exec
  have hb := B.bytes
  have hr := B.returns
  have hts := atoms_spec (ws := wsX10_lengthOf) B.pre
  have hown : s.vm.findClass RX10 = some m.cls := findClass_of_methodNamed B.named
  have hlocks := B.notSynchronized
  have hn30 := hM.2.1
  have ht6 := hM.2.2.2
  have hl := lv_entry ([.ref (am (0)), .int (x)]) (n := 4) (Nat.le_of_ble_eq_true rfl)
  refine W.eq (lg_entry_eq _ ([.ref (am (0)), .int (x)]) _) ?_
  generalize (lg_sl ([.ref (am (0)), .int (x)]) ++ List.replicate (4 - (lg_sl ([.ref (am (0)), .int (x)])).length) Slot.unset).toArray = ls at hl ⊢
  have hl : lv_has ls 4 [(0, .ref (am (0))), (1, .int (x))] := hl
  refine lv_iconst (v := 0) hx hb dX10_lengthOf_0 (by decide) ?_
  refine lv_istore_n (lv' := [(2, .int (0)), (0, .ref (am (0))), (1, .int (x))]) hx hb dX10_lengthOf_1 rfl hl (by decide) rfl (fun ls hl => ?_)
  refine lv_iconst (v := 0) hx hb dX10_lengthOf_2 (by decide) ?_
  refine lv_istore_n (lv' := [(3, .int (0)), (2, .int (0)), (0, .ref (am (0))), (1, .int (x))]) hx hb dX10_lengthOf_3 rfl hl (by decide) rfl (fun ls hl => ?_)
  have loop_4 : ∀ (fu i : Nat) (y0 : Int32), (i ≤ n) → (n - i < fu) → (y0 = sumI (mF_len (μ 1) n x) i) → ∀ ls : Array Slot, lv_has ls 4 [(3, .int (nI i)), (2, .int (y0)), (0, .ref (am (0))), (1, .int (x))] → W p l e (headSpec wsX10_lengthOf ({ frames := 3, cells := 0, slots := 0, locals := 70 } : Room)).room s m ([.ref (am (0)), .int (x)] : List Value).toArray below meth c s.heap [] 0 0 (MQ below (sp_S (some (.int (m_len (μ 1) n x)))) ([.ref (am (0)), .int (x)] : List Value).toArray s 0 0 (fun _ => False)) (F0 m 4 ls []) := by
    intro fu
    induction fu with
    | zero => intro i y0 hle hlt hi_0 ls hl; exact absurd hlt (Nat.not_lt_zero _)
    | succ fu ih =>
      intro i y0 hle hlt hi_0 ls hl
      refine lv_iload_n hx hb dX10_lengthOf_4 rfl (lv_at hl 0 rfl) ?_
      refine lv_aload_n hx hb dX10_lengthOf_5 rfl (lv_at hl 2 rfl) ?_
      refine sp_get hx hb hts wi_X10_lengthOf_X10 hown hK hP (κ := 0) (by decide) mE_0 rfl 1 (by decide) (hts _ (List.mem_of_getElem? (i := 1) rfl)) (fun _ h => h) rfl dX10_lengthOf_6 ?_
      refine lv_iconst (v := 1) hx hb dX10_lengthOf_9 (by decide) ?_
      refine sp_iald hx hb hK hP (κ := 1) (by decide) 1 mE_1 rfl 1 rfl (by omega) (by decide) dX10_lengthOf_10 ?_
      refine W.eq (g2 := F0 m 11 ls [.int (nI n), .int (nI i)]) (by rw [hM.1]) ?_
      refine lv_icmp_ge (tgt := 42) hx hb dX10_lengthOf_11 (by decide) (fun c_1 => ?_) (fun c_1 => ?_)
      · skip
        have c_1d := Int32.not_lt.mpr c_1
        have hx_i : i = n := by have := (nI_leI (a := n) (b := i) (by omega) (by omega)).mp c_1; omega
        try rw [hx_i] at hi_0
        refine lv_iload_n hx hb dX10_lengthOf_42 rfl (lv_at hl 1 rfl) ?_
        exact W.iret (v := y0) hx hb hr (fun T9 hT9 _ => ⟨congrArg (fun z9 => Outcome.returned (some (Value.int z9))) (show (y0 : Int32) = m_len (μ 1) n x from (by exact hi_0)), hT9⟩) (fun _ h => by cases h) dX10_lengthOf_43
      · skip
        have c_1d := Int32.not_le.mp c_1
        have hb_i : i < n := Nat.lt_of_not_le (fun z => c_1 (nI_le z (by omega)))
        refine lv_iload_n hx hb dX10_lengthOf_14 rfl (lv_at hl 1 rfl) ?_
        refine lv_aload_n hx hb dX10_lengthOf_15 rfl (lv_at hl 2 rfl) ?_
        refine lv_iload_n hx hb dX10_lengthOf_16 rfl (lv_at hl 0 rfl) ?_
        refine lv_iconst (v := 1) hx hb dX10_lengthOf_17 (by decide) ?_
        refine sp_call (W.runV (As := [.int (nI i), .int (1)]) (rest := [.int (y0)]) ⟨hx, hb, hml, hown, hts⟩ (c_X10_p l D am cy μ i (by omega) 1 (by omega)) (cwV 2 hts gX10_lengthOf_X10_p rfl rfl rfl (by decide +kernel) ⟨Nat.le_of_ble_eq_true rfl, Nat.le_of_ble_eq_true rfl⟩) (sp_preV hK hP (κ := 0) (by decide) mE_0 rfl) rfl rfl hl.1 rfl (lv_room (Nat.le_of_ble_eq_true rfl)) dX10_lengthOf_18 ⟨Nat.le_of_ble_eq_true rfl, Nat.le_of_ble_eq_true rfl⟩) ?_
        refine W.eq (g2 := F0 m 21 ls [.int (gP (μ 1) i 1), .int (y0)]) rfl ?_
        refine lv_iload_n hx hb dX10_lengthOf_21 rfl (lv_at hl 3 rfl) ?_
        refine lv_icmp_ne (tgt := 33) hx hb dX10_lengthOf_22 (by decide) (fun c_2 => ?_) (fun c_2 => ?_)
        · skip
          refine lv_iconst (v := 0) hx hb dX10_lengthOf_33 (by decide) ?_
          refine lv_iadd hx hb dX10_lengthOf_34 ?_
          refine lv_istore_n (lv' := [(2, .int (y0 + 0)), (3, .int (nI i)), (0, .ref (am (0))), (1, .int (x))]) hx hb dX10_lengthOf_35 rfl hl (by decide) rfl (fun ls hl => ?_)
          refine lv_iinc (v := nI (i + 1)) (lv' := [(3, .int (nI (i + 1))), (2, .int (y0 + 0)), (0, .ref (am (0))), (1, .int (x))]) hx hb dX10_lengthOf_36 hl (k := 1) rfl (nI_1 _) (by decide) rfl (fun ls hl => ?_)
          refine lv_goto (tgt := 4) hx hb dX10_lengthOf_39 (by decide) ?_
          exact ih (i + 1) (y0 + 0) (by omega) (by omega) (by rw [sumI_succ, ← hi_0]; simp [mF_len, b2i, c_2]) ls (lv_sub hl [0, 1, 2, 3] rfl)
        · skip
          refine lv_aload_n hx hb dX10_lengthOf_25 rfl (lv_at hl 2 rfl) ?_
          refine lv_iload_n hx hb dX10_lengthOf_26 rfl (lv_at hl 0 rfl) ?_
          refine sp_call (W.runV (As := [.int (nI i)]) (rest := [.int (y0)]) ⟨hx, hb, hml, hown, hts⟩ (c_X10_strideAt l D am cy μ n t (by first | exact hM | exact hi_0 | (repeat first | exact hM | exact hi_0 | refine MS.st0 ?_ | refine MS.st ?_ (by omega))) i (by omega)) (cwV 1 hts gX10_lengthOf_X10_strideAt rfl rfl rfl (by decide +kernel) ⟨Nat.le_of_ble_eq_true rfl, Nat.le_of_ble_eq_true rfl⟩) (sp_preV hK hP (κ := 0) (by decide) mE_0 rfl) rfl rfl hl.1 rfl (lv_room (Nat.le_of_ble_eq_true rfl)) dX10_lengthOf_27 ⟨Nat.le_of_ble_eq_true rfl, Nat.le_of_ble_eq_true rfl⟩) ?_
          refine W.eq (g2 := F0 m 30 ls [.int (m_stride (μ 1) n i), .int (y0)]) rfl ?_
          refine lv_goto (tgt := 34) hx hb dX10_lengthOf_30 (by decide) ?_
          refine lv_iadd hx hb dX10_lengthOf_34 ?_
          refine lv_istore_n (lv' := [(2, .int (y0 + (m_stride (μ 1) n i))), (3, .int (nI i)), (0, .ref (am (0))), (1, .int (x))]) hx hb dX10_lengthOf_35 rfl hl (by decide) rfl (fun ls hl => ?_)
          refine lv_iinc (v := nI (i + 1)) (lv' := [(3, .int (nI (i + 1))), (2, .int (y0 + (m_stride (μ 1) n i))), (0, .ref (am (0))), (1, .int (x))]) hx hb dX10_lengthOf_36 hl (k := 1) rfl (nI_1 _) (by decide) rfl (fun ls hl => ?_)
          refine lv_goto (tgt := 4) hx hb dX10_lengthOf_39 (by decide) ?_
          exact ih (i + 1) (y0 + (m_stride (μ 1) n i)) (by omega) (by omega) (by rw [sumI_succ, ← hi_0]; simp [mF_len, b2i, c_2]) ls (lv_sub hl [0, 1, 2, 3] rfl)
  exact loop_4 (n + 1) (0) (0)  (by omega) (by omega) (rfl) ls (lv_sub hl [0, 1, 2, 3] rfl)

theorem wi_X10_belowRow_X10 : ∀ w ∈ wsX100, w ∈ wsX10_belowRow := by decide +kernel
set_option maxHeartbeats 4000000 in
set_option maxRecDepth 100000 in
theorem c_X10_belowRow (l : Launch) (D : va_G) (am : Nat → Nat) (cy : Nat → ClassId) (μ : Nat → Nat → Int32) (n : Nat) (t : Nat) (hM : MS (μ 1) n t) (x : Int32) : Met l yX10_belowRow wsX10_belowRow ({ frames := 1, cells := 0, slots := 0, locals := 22 } : Room) (sp_Pc D (tyG cy) [.ref (am (0)), .int (x)] (mW am cy μ)) (sp_S (some (.int (m_below (μ 1) n x)))) 0 0 (fun _ => False) := by
  refine Met.ofW (cc := cX10_belowRow) (maxL := 4) (ret := (some .int)) (by decide) rfl ?_
  intro p e s m args below meth c s₁ B hml hv
  obtain ⟨rfl, hP, hK⟩ := hv
  have hx := B.exec
  have hb := B.bytes
  have hr := B.returns
  have hts := atoms_spec (ws := wsX10_belowRow) B.pre
  have hown : s.vm.findClass RX10 = some m.cls := findClass_of_methodNamed B.named
  have hlocks := B.notSynchronized
  have hn30 := hM.2.1
  have ht6 := hM.2.2.2
  have hl := lv_entry ([.ref (am (0)), .int (x)]) (n := 4) (Nat.le_of_ble_eq_true rfl)
  refine W.eq (lg_entry_eq _ ([.ref (am (0)), .int (x)]) _) ?_
  generalize (lg_sl ([.ref (am (0)), .int (x)]) ++ List.replicate (4 - (lg_sl ([.ref (am (0)), .int (x)])).length) Slot.unset).toArray = ls at hl ⊢
  have hl : lv_has ls 4 [(0, .ref (am (0))), (1, .int (x))] := hl
  refine lv_iconst (v := 0) hx hb dX10_belowRow_0 (by decide) ?_
  refine lv_istore_n (lv' := [(2, .int (0)), (0, .ref (am (0))), (1, .int (x))]) hx hb dX10_belowRow_1 rfl hl (by decide) rfl (fun ls hl => ?_)
  refine lv_iconst (v := 0) hx hb dX10_belowRow_2 (by decide) ?_
  refine lv_istore_n (lv' := [(3, .int (0)), (2, .int (0)), (0, .ref (am (0))), (1, .int (x))]) hx hb dX10_belowRow_3 rfl hl (by decide) rfl (fun ls hl => ?_)
  have loop_4 : ∀ (fu i : Nat) (y0 : Int32), (i ≤ n) → (n - i < fu) → (y0 = sumI (mF_below (μ 1) x) i) → ∀ ls : Array Slot, lv_has ls 4 [(3, .int (nI i)), (2, .int (y0)), (0, .ref (am (0))), (1, .int (x))] → W p l e (headSpec wsX10_belowRow ({ frames := 1, cells := 0, slots := 0, locals := 22 } : Room)).room s m ([.ref (am (0)), .int (x)] : List Value).toArray below meth c s.heap [] 0 0 (MQ below (sp_S (some (.int (m_below (μ 1) n x)))) ([.ref (am (0)), .int (x)] : List Value).toArray s 0 0 (fun _ => False)) (F0 m 4 ls []) := by
    intro fu
    induction fu with
    | zero => intro i y0 hle hlt hi_0 ls hl; exact absurd hlt (Nat.not_lt_zero _)
    | succ fu ih =>
      intro i y0 hle hlt hi_0 ls hl
      refine lv_iload_n hx hb dX10_belowRow_4 rfl (lv_at hl 0 rfl) ?_
      refine lv_aload_n hx hb dX10_belowRow_5 rfl (lv_at hl 2 rfl) ?_
      refine sp_get hx hb hts wi_X10_belowRow_X10 hown hK hP (κ := 0) (by decide) mE_0 rfl 1 (by decide) (hts _ (List.mem_of_getElem? (i := 1) rfl)) (fun _ h => h) rfl dX10_belowRow_6 ?_
      refine lv_iconst (v := 1) hx hb dX10_belowRow_9 (by decide) ?_
      refine sp_iald hx hb hK hP (κ := 1) (by decide) 1 mE_1 rfl 1 rfl (by omega) (by decide) dX10_belowRow_10 ?_
      refine W.eq (g2 := F0 m 11 ls [.int (nI n), .int (nI i)]) (by rw [hM.1]) ?_
      refine lv_icmp_ge (tgt := 38) hx hb dX10_belowRow_11 (by decide) (fun c_1 => ?_) (fun c_1 => ?_)
      · skip
        have c_1d := Int32.not_lt.mpr c_1
        have hx_i : i = n := by have := (nI_leI (a := n) (b := i) (by omega) (by omega)).mp c_1; omega
        try rw [hx_i] at hi_0
        refine lv_iload_n hx hb dX10_belowRow_38 rfl (lv_at hl 1 rfl) ?_
        exact W.iret (v := y0) hx hb hr (fun T9 hT9 _ => ⟨congrArg (fun z9 => Outcome.returned (some (Value.int z9))) (show (y0 : Int32) = m_below (μ 1) n x from (by exact hi_0)), hT9⟩) (fun _ h => by cases h) dX10_belowRow_39
      · skip
        have c_1d := Int32.not_le.mp c_1
        have hb_i : i < n := Nat.lt_of_not_le (fun z => c_1 (nI_le z (by omega)))
        refine lv_iload_n hx hb dX10_belowRow_14 rfl (lv_at hl 1 rfl) ?_
        refine lv_aload_n hx hb dX10_belowRow_15 rfl (lv_at hl 2 rfl) ?_
        refine lv_iload_n hx hb dX10_belowRow_16 rfl (lv_at hl 0 rfl) ?_
        refine lv_iconst (v := 3) hx hb dX10_belowRow_17 (by decide) ?_
        refine sp_call (W.runV (As := [.int (nI i), .int (3)]) (rest := [.int (y0)]) ⟨hx, hb, hml, hown, hts⟩ (c_X10_p l D am cy μ i (by omega) 3 (by omega)) (cwV 2 hts gX10_belowRow_X10_p rfl rfl rfl (by decide +kernel) ⟨Nat.le_of_ble_eq_true rfl, Nat.le_of_ble_eq_true rfl⟩) (sp_preV hK hP (κ := 0) (by decide) mE_0 rfl) rfl rfl hl.1 rfl (lv_room (Nat.le_of_ble_eq_true rfl)) dX10_belowRow_18 ⟨Nat.le_of_ble_eq_true rfl, Nat.le_of_ble_eq_true rfl⟩) ?_
        refine W.eq (g2 := F0 m 21 ls [.int (gP (μ 1) i 3), .int (y0)]) rfl ?_
        refine lv_iload_n hx hb dX10_belowRow_21 rfl (lv_at hl 3 rfl) ?_
        refine lv_icmp_ge (tgt := 29) hx hb dX10_belowRow_22 (by decide) (fun c_2 => ?_) (fun c_2 => ?_)
        · skip
          have c_2d := Int32.not_lt.mpr c_2
          refine lv_iconst (v := 0) hx hb dX10_belowRow_29 (by decide) ?_
          refine lv_iadd hx hb dX10_belowRow_30 ?_
          refine lv_istore_n (lv' := [(2, .int (y0 + 0)), (3, .int (nI i)), (0, .ref (am (0))), (1, .int (x))]) hx hb dX10_belowRow_31 rfl hl (by decide) rfl (fun ls hl => ?_)
          refine lv_iinc (v := nI (i + 1)) (lv' := [(3, .int (nI (i + 1))), (2, .int (y0 + 0)), (0, .ref (am (0))), (1, .int (x))]) hx hb dX10_belowRow_32 hl (k := 1) rfl (nI_1 _) (by decide) rfl (fun ls hl => ?_)
          refine lv_goto (tgt := 4) hx hb dX10_belowRow_35 (by decide) ?_
          exact ih (i + 1) (y0 + 0) (by omega) (by omega) (by rw [sumI_succ, ← hi_0]; simp [mF_below, b2i, c_2, c_2d]) ls (lv_sub hl [0, 1, 2, 3] rfl)
        · skip
          have c_2d := Int32.not_le.mp c_2
          refine lv_iconst (v := 1) hx hb dX10_belowRow_25 (by decide) ?_
          refine lv_goto (tgt := 30) hx hb dX10_belowRow_26 (by decide) ?_
          refine lv_iadd hx hb dX10_belowRow_30 ?_
          refine lv_istore_n (lv' := [(2, .int (y0 + 1)), (3, .int (nI i)), (0, .ref (am (0))), (1, .int (x))]) hx hb dX10_belowRow_31 rfl hl (by decide) rfl (fun ls hl => ?_)
          refine lv_iinc (v := nI (i + 1)) (lv' := [(3, .int (nI (i + 1))), (2, .int (y0 + 1)), (0, .ref (am (0))), (1, .int (x))]) hx hb dX10_belowRow_32 hl (k := 1) rfl (nI_1 _) (by decide) rfl (fun ls hl => ?_)
          refine lv_goto (tgt := 4) hx hb dX10_belowRow_35 (by decide) ?_
          exact ih (i + 1) (y0 + 1) (by omega) (by omega) (by rw [sumI_succ, ← hi_0]; simp [mF_below, b2i, c_2, c_2d]) ls (lv_sub hl [0, 1, 2, 3] rfl)
  exact loop_4 (n + 1) (0) (0)  (by omega) (by omega) (rfl) ls (lv_sub hl [0, 1, 2, 3] rfl)

theorem wi_X10_isLaterThere_X10 : ∀ w ∈ wsX100, w ∈ wsX10_isLaterThere := by decide +kernel
set_option maxHeartbeats 4000000 in
set_option maxRecDepth 100000 in
theorem c_X10_isLaterThere (l : Launch) (D : va_G) (am : Nat → Nat) (cy : Nat → ClassId) (μ : Nat → Nat → Int32) (n : Nat) (t : Nat) (hM : MS (μ 1) n t) (x : Int32) (u : Int32) : Met l yX10_isLaterThere wsX10_isLaterThere ({ frames := 1, cells := 0, slots := 0, locals := 22 } : Room) (sp_Pc D (tyG cy) [.ref (am (0)), .int (x), .int (u)] (mW am cy μ)) (sp_S (some (.int (b2i (m_later (μ 1) n x u))))) 0 0 (fun _ => False) := by
  refine Met.ofW (cc := cX10_isLaterThere) (maxL := 5) (ret := (some .int)) (by decide) rfl ?_
  intro p e s m args below meth c s₁ B hml hv
  obtain ⟨rfl, hP, hK⟩ := hv
  have hx := B.exec
  have hb := B.bytes
  have hr := B.returns
  have hts := atoms_spec (ws := wsX10_isLaterThere) B.pre
  have hown : s.vm.findClass RX10 = some m.cls := findClass_of_methodNamed B.named
  have hlocks := B.notSynchronized
  have hn30 := hM.2.1
  have ht6 := hM.2.2.2
  have hl := lv_entry ([.ref (am (0)), .int (x), .int (u)]) (n := 5) (Nat.le_of_ble_eq_true rfl)
  refine W.eq (lg_entry_eq _ ([.ref (am (0)), .int (x), .int (u)]) _) ?_
  generalize (lg_sl ([.ref (am (0)), .int (x), .int (u)]) ++ List.replicate (5 - (lg_sl ([.ref (am (0)), .int (x), .int (u)])).length) Slot.unset).toArray = ls at hl ⊢
  have hl : lv_has ls 5 [(0, .ref (am (0))), (1, .int (x)), (2, .int (u))] := hl
  refine lv_iconst (v := 0) hx hb dX10_isLaterThere_0 (by decide) ?_
  refine lv_istore_n (lv' := [(3, .int (0)), (0, .ref (am (0))), (1, .int (x)), (2, .int (u))]) hx hb dX10_isLaterThere_1 rfl hl (by decide) rfl (fun ls hl => ?_)
  refine lv_iconst (v := 0) hx hb dX10_isLaterThere_2 (by decide) ?_
  refine lv_istore (lv' := [(4, .int (0)), (3, .int (0)), (0, .ref (am (0))), (1, .int (x)), (2, .int (u))]) hx hb dX10_isLaterThere_3 hl (by decide) rfl (fun ls hl => ?_)
  have loop_5 : ∀ (fu i : Nat) (y0 : Int32), (i ≤ n) → (n - i < fu) → (y0 = sumI (mF_later (μ 1) x u) i) → ∀ ls : Array Slot, lv_has ls 5 [(4, .int (nI i)), (3, .int (y0)), (0, .ref (am (0))), (1, .int (x)), (2, .int (u))] → W p l e (headSpec wsX10_isLaterThere ({ frames := 1, cells := 0, slots := 0, locals := 22 } : Room)).room s m ([.ref (am (0)), .int (x), .int (u)] : List Value).toArray below meth c s.heap [] 0 0 (MQ below (sp_S (some (.int (b2i (m_later (μ 1) n x u))))) ([.ref (am (0)), .int (x), .int (u)] : List Value).toArray s 0 0 (fun _ => False)) (F0 m 5 ls []) := by
    intro fu
    induction fu with
    | zero => intro i y0 hle hlt hi_0 ls hl; exact absurd hlt (Nat.not_lt_zero _)
    | succ fu ih =>
      intro i y0 hle hlt hi_0 ls hl
      refine lv_iload hx hb dX10_isLaterThere_5 (lv_at hl 0 rfl) ?_
      refine lv_aload_n hx hb dX10_isLaterThere_7 rfl (lv_at hl 2 rfl) ?_
      refine sp_get hx hb hts wi_X10_isLaterThere_X10 hown hK hP (κ := 0) (by decide) mE_0 rfl 1 (by decide) (hts _ (List.mem_of_getElem? (i := 1) rfl)) (fun _ h => h) rfl dX10_isLaterThere_8 ?_
      refine lv_iconst (v := 1) hx hb dX10_isLaterThere_11 (by decide) ?_
      refine sp_iald hx hb hK hP (κ := 1) (by decide) 1 mE_1 rfl 1 rfl (by omega) (by decide) dX10_isLaterThere_12 ?_
      refine W.eq (g2 := F0 m 13 ls [.int (nI n), .int (nI i)]) (by rw [hM.1]) ?_
      refine lv_icmp_ge (tgt := 52) hx hb dX10_isLaterThere_13 (by decide) (fun c_1 => ?_) (fun c_1 => ?_)
      · skip
        have c_1d := Int32.not_lt.mpr c_1
        have hx_i : i = n := by have := (nI_leI (a := n) (b := i) (by omega) (by omega)).mp c_1; omega
        try rw [hx_i] at hi_0
        refine lv_iload_n hx hb dX10_isLaterThere_52 rfl (lv_at hl 1 rfl) ?_
        refine lv_if_le (tgt := 60) hx hb dX10_isLaterThere_53 (by decide) (fun c_2 => ?_) (fun c_2 => ?_)
        · skip
          have c_2d := Int32.not_lt.mpr c_2
          refine lv_iconst (v := 0) hx hb dX10_isLaterThere_60 (by decide) ?_
          exact W.zret (v := 0) hx hb hr (by decide) (fun T9 hT9 _ => ⟨congrArg (fun z9 => Outcome.returned (some (Value.int z9))) (show (0 : Int32) = b2i (m_later (μ 1) n x u) from (by unfold m_later; rw [← hi_0]; simp [b2i, c_2, c_2d])), hT9⟩) (fun _ h => by cases h) dX10_isLaterThere_61
        · skip
          have c_2d := Int32.not_le.mp c_2
          refine lv_iconst (v := 1) hx hb dX10_isLaterThere_56 (by decide) ?_
          refine lv_goto (tgt := 61) hx hb dX10_isLaterThere_57 (by decide) ?_
          exact W.zret (v := 1) hx hb hr (by decide) (fun T9 hT9 _ => ⟨congrArg (fun z9 => Outcome.returned (some (Value.int z9))) (show (1 : Int32) = b2i (m_later (μ 1) n x u) from (by unfold m_later; rw [← hi_0]; simp [b2i, c_2, c_2d])), hT9⟩) (fun _ h => by cases h) dX10_isLaterThere_61
      · skip
        have c_1d := Int32.not_le.mp c_1
        have hb_i : i < n := Nat.lt_of_not_le (fun z => c_1 (nI_le z (by omega)))
        refine lv_iload_n hx hb dX10_isLaterThere_16 rfl (lv_at hl 1 rfl) ?_
        refine lv_aload_n hx hb dX10_isLaterThere_17 rfl (lv_at hl 2 rfl) ?_
        refine lv_iload hx hb dX10_isLaterThere_18 (lv_at hl 0 rfl) ?_
        refine lv_iconst (v := 1) hx hb dX10_isLaterThere_20 (by decide) ?_
        refine sp_call (W.runV (As := [.int (nI i), .int (1)]) (rest := [.int (y0)]) ⟨hx, hb, hml, hown, hts⟩ (c_X10_p l D am cy μ i (by omega) 1 (by omega)) (cwV 2 hts gX10_isLaterThere_X10_p rfl rfl rfl (by decide +kernel) ⟨Nat.le_of_ble_eq_true rfl, Nat.le_of_ble_eq_true rfl⟩) (sp_preV hK hP (κ := 0) (by decide) mE_0 rfl) rfl rfl hl.1 rfl (lv_room (Nat.le_of_ble_eq_true rfl)) dX10_isLaterThere_21 ⟨Nat.le_of_ble_eq_true rfl, Nat.le_of_ble_eq_true rfl⟩) ?_
        refine W.eq (g2 := F0 m 24 ls [.int (gP (μ 1) i 1), .int (y0)]) rfl ?_
        refine lv_iload_n hx hb dX10_isLaterThere_24 rfl (lv_at hl 3 rfl) ?_
        refine lv_icmp_ne (tgt := 43) hx hb dX10_isLaterThere_25 (by decide) (fun c_3 => ?_) (fun c_3 => ?_)
        · skip
          refine lv_iconst (v := 0) hx hb dX10_isLaterThere_43 (by decide) ?_
          refine lv_iadd hx hb dX10_isLaterThere_44 ?_
          refine lv_istore_n (lv' := [(3, .int (y0 + 0)), (4, .int (nI i)), (0, .ref (am (0))), (1, .int (x)), (2, .int (u))]) hx hb dX10_isLaterThere_45 rfl hl (by decide) rfl (fun ls hl => ?_)
          refine lv_iinc (v := nI (i + 1)) (lv' := [(4, .int (nI (i + 1))), (3, .int (y0 + 0)), (0, .ref (am (0))), (1, .int (x)), (2, .int (u))]) hx hb dX10_isLaterThere_46 hl (k := 1) rfl (nI_1 _) (by decide) rfl (fun ls hl => ?_)
          refine lv_goto (tgt := 5) hx hb dX10_isLaterThere_49 (by decide) ?_
          exact ih (i + 1) (y0 + 0) (by omega) (by omega) (by rw [sumI_succ, ← hi_0]; simp [mF_later, b2i, c_3]) ls (lv_sub hl [0, 1, 2, 3, 4] rfl)
        · skip
          refine lv_aload_n hx hb dX10_isLaterThere_28 rfl (lv_at hl 2 rfl) ?_
          refine lv_iload hx hb dX10_isLaterThere_29 (lv_at hl 0 rfl) ?_
          refine lv_iconst (v := 2) hx hb dX10_isLaterThere_31 (by decide) ?_
          refine sp_call (W.runV (As := [.int (nI i), .int (2)]) (rest := [.int (y0)]) ⟨hx, hb, hml, hown, hts⟩ (c_X10_p l D am cy μ i (by omega) 2 (by omega)) (cwV 2 hts gX10_isLaterThere_X10_p rfl rfl rfl (by decide +kernel) ⟨Nat.le_of_ble_eq_true rfl, Nat.le_of_ble_eq_true rfl⟩) (sp_preV hK hP (κ := 0) (by decide) mE_0 rfl) rfl rfl hl.1 rfl (lv_room (Nat.le_of_ble_eq_true rfl)) dX10_isLaterThere_32 ⟨Nat.le_of_ble_eq_true rfl, Nat.le_of_ble_eq_true rfl⟩) ?_
          refine W.eq (g2 := F0 m 35 ls [.int (gP (μ 1) i 2), .int (y0)]) rfl ?_
          refine lv_iload_n hx hb dX10_isLaterThere_35 rfl (lv_at hl 4 rfl) ?_
          refine lv_icmp_le (tgt := 43) hx hb dX10_isLaterThere_36 (by decide) (fun c_4 => ?_) (fun c_4 => ?_)
          · skip
            have c_4d := Int32.not_lt.mpr c_4
            refine lv_iconst (v := 0) hx hb dX10_isLaterThere_43 (by decide) ?_
            refine lv_iadd hx hb dX10_isLaterThere_44 ?_
            refine lv_istore_n (lv' := [(3, .int (y0 + 0)), (4, .int (nI i)), (0, .ref (am (0))), (1, .int (x)), (2, .int (u))]) hx hb dX10_isLaterThere_45 rfl hl (by decide) rfl (fun ls hl => ?_)
            refine lv_iinc (v := nI (i + 1)) (lv' := [(4, .int (nI (i + 1))), (3, .int (y0 + 0)), (0, .ref (am (0))), (1, .int (x)), (2, .int (u))]) hx hb dX10_isLaterThere_46 hl (k := 1) rfl (nI_1 _) (by decide) rfl (fun ls hl => ?_)
            refine lv_goto (tgt := 5) hx hb dX10_isLaterThere_49 (by decide) ?_
            exact ih (i + 1) (y0 + 0) (by omega) (by omega) (by rw [sumI_succ, ← hi_0]; simp [mF_later, b2i, c_3, c_4, c_4d]) ls (lv_sub hl [0, 1, 2, 3, 4] rfl)
          · skip
            have c_4d := Int32.not_le.mp c_4
            refine lv_iconst (v := 1) hx hb dX10_isLaterThere_39 (by decide) ?_
            refine lv_goto (tgt := 44) hx hb dX10_isLaterThere_40 (by decide) ?_
            refine lv_iadd hx hb dX10_isLaterThere_44 ?_
            refine lv_istore_n (lv' := [(3, .int (y0 + 1)), (4, .int (nI i)), (0, .ref (am (0))), (1, .int (x)), (2, .int (u))]) hx hb dX10_isLaterThere_45 rfl hl (by decide) rfl (fun ls hl => ?_)
            refine lv_iinc (v := nI (i + 1)) (lv' := [(4, .int (nI (i + 1))), (3, .int (y0 + 1)), (0, .ref (am (0))), (1, .int (x)), (2, .int (u))]) hx hb dX10_isLaterThere_46 hl (k := 1) rfl (nI_1 _) (by decide) rfl (fun ls hl => ?_)
            refine lv_goto (tgt := 5) hx hb dX10_isLaterThere_49 (by decide) ?_
            exact ih (i + 1) (y0 + 1) (by omega) (by omega) (by rw [sumI_succ, ← hi_0]; simp [mF_later, b2i, c_3, c_4, c_4d]) ls (lv_sub hl [0, 1, 2, 3, 4] rfl)
  exact loop_5 (n + 1) (0) (0)  (by omega) (by omega) (rfl) ls (lv_sub hl [0, 1, 2, 3, 4] rfl)

theorem wi_X10_printOf_X10 : ∀ w ∈ wsX100, w ∈ wsX10_printOf := by decide +kernel
set_option maxHeartbeats 4000000 in
set_option maxRecDepth 100000 in
theorem c_X10_printOf (l : Launch) (D : va_G) (am : Nat → Nat) (cy : Nat → ClassId) (μ : Nat → Nat → Int32) (n : Nat) (t : Nat) (hM : MS (μ 1) n t) (x : Int32) (q : Int32) : Met l yX10_printOf wsX10_printOf ({ frames := 1, cells := 0, slots := 0, locals := 22 } : Room) (sp_Pc D (tyG cy) [.ref (am (0)), .int (x), .int (q)] (mW am cy μ)) (sp_S (some (.int (posI (m_po (μ 1) n x q))))) 0 0 (fun _ => False) := by
  refine Met.ofW (cc := cX10_printOf) (maxL := 6) (ret := (some .int)) (by decide) rfl ?_
  intro p e s m args below meth c s₁ B hml hv
  obtain ⟨rfl, hP, hK⟩ := hv
  have hx := B.exec
  have hb := B.bytes
  have hr := B.returns
  have hts := atoms_spec (ws := wsX10_printOf) B.pre
  have hown : s.vm.findClass RX10 = some m.cls := findClass_of_methodNamed B.named
  have hlocks := B.notSynchronized
  have hn30 := hM.2.1
  have ht6 := hM.2.2.2
  have hl := lv_entry ([.ref (am (0)), .int (x), .int (q)]) (n := 6) (Nat.le_of_ble_eq_true rfl)
  refine W.eq (lg_entry_eq _ ([.ref (am (0)), .int (x), .int (q)]) _) ?_
  generalize (lg_sl ([.ref (am (0)), .int (x), .int (q)]) ++ List.replicate (6 - (lg_sl ([.ref (am (0)), .int (x), .int (q)])).length) Slot.unset).toArray = ls at hl ⊢
  have hl : lv_has ls 6 [(0, .ref (am (0))), (1, .int (x)), (2, .int (q))] := hl
  refine lv_iconst (v := 0) hx hb dX10_printOf_0 (by decide) ?_
  refine lv_istore_n (lv' := [(3, .int (0)), (0, .ref (am (0))), (1, .int (x)), (2, .int (q))]) hx hb dX10_printOf_1 rfl hl (by decide) rfl (fun ls hl => ?_)
  have loop_2 : ∀ (fu i : Nat), (i ≤ n) → (n - i < fu) → (fstI (mP_po (μ 1) n x q) i = none) → ∀ ls : Array Slot, lv_has ls 6 [(3, .int (nI i)), (0, .ref (am (0))), (1, .int (x)), (2, .int (q))] → W p l e (headSpec wsX10_printOf ({ frames := 1, cells := 0, slots := 0, locals := 22 } : Room)).room s m ([.ref (am (0)), .int (x), .int (q)] : List Value).toArray below meth c s.heap [] 0 0 (MQ below (sp_S (some (.int (posI (m_po (μ 1) n x q))))) ([.ref (am (0)), .int (x), .int (q)] : List Value).toArray s 0 0 (fun _ => False)) (F0 m 2 ls []) := by
    intro fu
    induction fu with
    | zero => intro i hle hlt hi_0 ls hl; exact absurd hlt (Nat.not_lt_zero _)
    | succ fu ih =>
      intro i hle hlt hi_0 ls hl
      refine lv_iload_n hx hb dX10_printOf_2 rfl (lv_at hl 0 rfl) ?_
      refine lv_aload_n hx hb dX10_printOf_3 rfl (lv_at hl 1 rfl) ?_
      refine sp_get hx hb hts wi_X10_printOf_X10 hown hK hP (κ := 0) (by decide) mE_0 rfl 1 (by decide) (hts _ (List.mem_of_getElem? (i := 1) rfl)) (fun _ h => h) rfl dX10_printOf_4 ?_
      refine lv_iconst (v := 1) hx hb dX10_printOf_7 (by decide) ?_
      refine sp_iald hx hb hK hP (κ := 1) (by decide) 1 mE_1 rfl 1 rfl (by omega) (by decide) dX10_printOf_8 ?_
      refine W.eq (g2 := F0 m 9 ls [.int (nI n), .int (nI i)]) (by rw [hM.1]) ?_
      refine lv_icmp_ge (tgt := 99) hx hb dX10_printOf_9 (by decide) (fun c_1 => ?_) (fun c_1 => ?_)
      · skip
        have c_1d := Int32.not_lt.mpr c_1
        have hx_i : i = n := by have := (nI_leI (a := n) (b := i) (by omega) (by omega)).mp c_1; omega
        try rw [hx_i] at hi_0
        refine lv_iconst (v := (-1)) hx hb dX10_printOf_99 (by decide) ?_
        exact W.iret (v := (-1)) hx hb hr (fun T9 hT9 _ => ⟨congrArg (fun z9 => Outcome.returned (some (Value.int z9))) (show ((-1) : Int32) = posI (m_po (μ 1) n x q) from (by rw [show m_po (μ 1) n x q = none from hi_0]; rfl)), hT9⟩) (fun _ h => by cases h) dX10_printOf_100
      · skip
        have c_1d := Int32.not_le.mp c_1
        have hb_i : i < n := Nat.lt_of_not_le (fun z => c_1 (nI_le z (by omega)))
        refine lv_iconst (v := 0) hx hb dX10_printOf_12 (by decide) ?_
        refine lv_istore (lv' := [(4, .int (0)), (3, .int (nI i)), (0, .ref (am (0))), (1, .int (x)), (2, .int (q))]) hx hb dX10_printOf_13 hl (by decide) rfl (fun ls hl => ?_)
        refine lv_aload_n hx hb dX10_printOf_15 rfl (lv_at hl 2 rfl) ?_
        refine lv_iload_n hx hb dX10_printOf_16 rfl (lv_at hl 1 rfl) ?_
        refine lv_iconst (v := 1) hx hb dX10_printOf_17 (by decide) ?_
        refine sp_call (W.runV (As := [.int (nI i), .int (1)]) (rest := []) ⟨hx, hb, hml, hown, hts⟩ (c_X10_p l D am cy μ i (by omega) 1 (by omega)) (cwV 2 hts gX10_printOf_X10_p rfl rfl rfl (by decide +kernel) ⟨Nat.le_of_ble_eq_true rfl, Nat.le_of_ble_eq_true rfl⟩) (sp_preV hK hP (κ := 0) (by decide) mE_0 rfl) rfl rfl hl.1 rfl (lv_room (Nat.le_of_ble_eq_true rfl)) dX10_printOf_18 ⟨Nat.le_of_ble_eq_true rfl, Nat.le_of_ble_eq_true rfl⟩) ?_
        refine W.eq (g2 := F0 m 21 ls [.int (gP (μ 1) i 1)]) rfl ?_
        refine lv_iload_n hx hb dX10_printOf_21 rfl (lv_at hl 3 rfl) ?_
        refine lv_icmp_eq (tgt := 28) hx hb dX10_printOf_22 (by decide) (fun c_2 => ?_) (fun c_2 => ?_)
        · skip
          refine lv_iconst (v := 0) hx hb dX10_printOf_28 (by decide) ?_
          refine lv_istore (lv' := [(5, .int (0)), (4, .int (0)), (3, .int (nI i)), (0, .ref (am (0))), (1, .int (x)), (2, .int (q))]) hx hb dX10_printOf_29 hl (by decide) rfl (fun ls hl => ?_)
          have loop_31 : ∀ (fu j : Nat) (y : Int32), (j ≤ n) → (n - j < fu) → (y = sumI (mF_ah (μ 1) x i) j) → ∀ ls : Array Slot, lv_has ls 6 [(5, .int (nI j)), (4, .int (y)), (3, .int (nI i)), (0, .ref (am (0))), (1, .int (x)), (2, .int (q))] → W p l e (headSpec wsX10_printOf ({ frames := 1, cells := 0, slots := 0, locals := 22 } : Room)).room s m ([.ref (am (0)), .int (x), .int (q)] : List Value).toArray below meth c s.heap [] 0 0 (MQ below (sp_S (some (.int (posI (m_po (μ 1) n x q))))) ([.ref (am (0)), .int (x), .int (q)] : List Value).toArray s 0 0 (fun _ => False)) (F0 m 31 ls []) := by
            intro fu
            induction fu with
            | zero => intro j y hle hlt hj_0 ls hl; exact absurd hlt (Nat.not_lt_zero _)
            | succ fu ih2 =>
              intro j y hle hlt hj_0 ls hl
              refine lv_iload hx hb dX10_printOf_31 (lv_at hl 0 rfl) ?_
              refine lv_aload_n hx hb dX10_printOf_33 rfl (lv_at hl 3 rfl) ?_
              refine sp_get hx hb hts wi_X10_printOf_X10 hown hK hP (κ := 0) (by decide) mE_0 rfl 1 (by decide) (hts _ (List.mem_of_getElem? (i := 1) rfl)) (fun _ h => h) rfl dX10_printOf_34 ?_
              refine lv_iconst (v := 1) hx hb dX10_printOf_37 (by decide) ?_
              refine sp_iald hx hb hK hP (κ := 1) (by decide) 1 mE_1 rfl 1 rfl (by omega) (by decide) dX10_printOf_38 ?_
              refine W.eq (g2 := F0 m 39 ls [.int (nI n), .int (nI j)]) (by rw [hM.1]) ?_
              refine lv_icmp_ge (tgt := 85) hx hb dX10_printOf_39 (by decide) (fun c_3 => ?_) (fun c_3 => ?_)
              · skip
                have c_3d := Int32.not_lt.mpr c_3
                have hx_j : j = n := by have := (nI_leI (a := n) (b := j) (by omega) (by omega)).mp c_3; omega
                try rw [hx_j] at hj_0
                refine lv_iload hx hb dX10_printOf_85 (lv_at hl 1 rfl) ?_
                refine lv_iload_n hx hb dX10_printOf_87 rfl (lv_at hl 5 rfl) ?_
                refine lv_icmp_ne (tgt := 93) hx hb dX10_printOf_88 (by decide) (fun c_4 => ?_) (fun c_4 => ?_)
                · skip
                  refine lv_iinc (v := nI (i + 1)) (lv' := [(3, .int (nI (i + 1))), (5, .int (nI j)), (4, .int (y)), (0, .ref (am (0))), (1, .int (x)), (2, .int (q))]) hx hb dX10_printOf_93 hl (k := 2) rfl (nI_1 _) (by decide) rfl (fun ls hl => ?_)
                  refine lv_goto (tgt := 2) hx hb dX10_printOf_96 (by decide) ?_
                  exact ih (i + 1) (by omega) (by omega) (fstI_succ_no hi_0 (by first | (simp [mP_po, b2i, c_2, c_4]; done) | (simp [mP_po, ← hj_0, b2i, c_2, c_4]; done))) ls (lv_sub hl [0, 3, 4, 5] rfl)
                · skip
                  refine lv_iload_n hx hb dX10_printOf_91 rfl (lv_at hl 2 rfl) ?_
                  exact W.iret (v := nI i) hx hb hr (fun T9 hT9 _ => ⟨congrArg (fun z9 => Outcome.returned (some (Value.int z9))) (show (nI i : Int32) = posI (m_po (μ 1) n x q) from (by rw [show m_po (μ 1) n x q = some i from fstI_hit hi_0 (by simp [mP_po, ← hj_0, b2i, c_2, c_4]) hb_i]; rfl)), hT9⟩) (fun _ h => by cases h) dX10_printOf_92
              · skip
                have c_3d := Int32.not_le.mp c_3
                have hb_j : j < n := Nat.lt_of_not_le (fun z => c_3 (nI_le z (by omega)))
                refine lv_iload hx hb dX10_printOf_42 (lv_at hl 1 rfl) ?_
                refine lv_aload_n hx hb dX10_printOf_44 rfl (lv_at hl 3 rfl) ?_
                refine lv_iload hx hb dX10_printOf_45 (lv_at hl 0 rfl) ?_
                refine lv_iconst (v := 1) hx hb dX10_printOf_47 (by decide) ?_
                refine sp_call (W.runV (As := [.int (nI j), .int (1)]) (rest := [.int (y)]) ⟨hx, hb, hml, hown, hts⟩ (c_X10_p l D am cy μ j (by omega) 1 (by omega)) (cwV 2 hts gX10_printOf_X10_p rfl rfl rfl (by decide +kernel) ⟨Nat.le_of_ble_eq_true rfl, Nat.le_of_ble_eq_true rfl⟩) (sp_preV hK hP (κ := 0) (by decide) mE_0 rfl) rfl rfl hl.1 rfl (lv_room (Nat.le_of_ble_eq_true rfl)) dX10_printOf_48 ⟨Nat.le_of_ble_eq_true rfl, Nat.le_of_ble_eq_true rfl⟩) ?_
                refine W.eq (g2 := F0 m 51 ls [.int (gP (μ 1) j 1), .int (y)]) rfl ?_
                refine lv_iload_n hx hb dX10_printOf_51 rfl (lv_at hl 4 rfl) ?_
                refine lv_icmp_ne (tgt := 75) hx hb dX10_printOf_52 (by decide) (fun c_5 => ?_) (fun c_5 => ?_)
                · skip
                  refine lv_iconst (v := 0) hx hb dX10_printOf_75 (by decide) ?_
                  refine lv_iadd hx hb dX10_printOf_76 ?_
                  refine lv_istore (lv' := [(4, .int (y + 0)), (5, .int (nI j)), (3, .int (nI i)), (0, .ref (am (0))), (1, .int (x)), (2, .int (q))]) hx hb dX10_printOf_77 hl (by decide) rfl (fun ls hl => ?_)
                  refine lv_iinc (v := nI (j + 1)) (lv' := [(5, .int (nI (j + 1))), (4, .int (y + 0)), (3, .int (nI i)), (0, .ref (am (0))), (1, .int (x)), (2, .int (q))]) hx hb dX10_printOf_79 hl (k := 1) rfl (nI_1 _) (by decide) rfl (fun ls hl => ?_)
                  refine lv_goto (tgt := 31) hx hb dX10_printOf_82 (by decide) ?_
                  exact ih2 (j + 1) (y + 0) (by omega) (by omega) (by rw [sumI_succ, ← hj_0]; simp [mF_ah, b2i, c_2, c_5]) ls (lv_sub hl [0, 1, 2, 3, 4, 5] rfl)
                · skip
                  refine lv_aload_n hx hb dX10_printOf_55 rfl (lv_at hl 3 rfl) ?_
                  refine lv_iload hx hb dX10_printOf_56 (lv_at hl 0 rfl) ?_
                  refine lv_iconst (v := 2) hx hb dX10_printOf_58 (by decide) ?_
                  refine sp_call (W.runV (As := [.int (nI j), .int (2)]) (rest := [.int (y)]) ⟨hx, hb, hml, hown, hts⟩ (c_X10_p l D am cy μ j (by omega) 2 (by omega)) (cwV 2 hts gX10_printOf_X10_p rfl rfl rfl (by decide +kernel) ⟨Nat.le_of_ble_eq_true rfl, Nat.le_of_ble_eq_true rfl⟩) (sp_preV hK hP (κ := 0) (by decide) mE_0 rfl) rfl rfl hl.1 rfl (lv_room (Nat.le_of_ble_eq_true rfl)) dX10_printOf_59 ⟨Nat.le_of_ble_eq_true rfl, Nat.le_of_ble_eq_true rfl⟩) ?_
                  refine W.eq (g2 := F0 m 62 ls [.int (gP (μ 1) j 2), .int (y)]) rfl ?_
                  refine lv_aload_n hx hb dX10_printOf_62 rfl (lv_at hl 3 rfl) ?_
                  refine lv_iload_n hx hb dX10_printOf_63 rfl (lv_at hl 2 rfl) ?_
                  refine lv_iconst (v := 2) hx hb dX10_printOf_64 (by decide) ?_
                  refine sp_call (W.runV (As := [.int (nI i), .int (2)]) (rest := [.int (gP (μ 1) j 2), .int (y)]) ⟨hx, hb, hml, hown, hts⟩ (c_X10_p l D am cy μ i (by omega) 2 (by omega)) (cwV 2 hts gX10_printOf_X10_p rfl rfl rfl (by decide +kernel) ⟨Nat.le_of_ble_eq_true rfl, Nat.le_of_ble_eq_true rfl⟩) (sp_preV hK hP (κ := 0) (by decide) mE_0 rfl) rfl rfl hl.1 rfl (lv_room (Nat.le_of_ble_eq_true rfl)) dX10_printOf_65 ⟨Nat.le_of_ble_eq_true rfl, Nat.le_of_ble_eq_true rfl⟩) ?_
                  refine W.eq (g2 := F0 m 68 ls [.int (gP (μ 1) i 2), .int (gP (μ 1) j 2), .int (y)]) rfl ?_
                  refine lv_icmp_ge (tgt := 75) hx hb dX10_printOf_68 (by decide) (fun c_6 => ?_) (fun c_6 => ?_)
                  · skip
                    have c_6d := Int32.not_lt.mpr c_6
                    refine lv_iconst (v := 0) hx hb dX10_printOf_75 (by decide) ?_
                    refine lv_iadd hx hb dX10_printOf_76 ?_
                    refine lv_istore (lv' := [(4, .int (y + 0)), (5, .int (nI j)), (3, .int (nI i)), (0, .ref (am (0))), (1, .int (x)), (2, .int (q))]) hx hb dX10_printOf_77 hl (by decide) rfl (fun ls hl => ?_)
                    refine lv_iinc (v := nI (j + 1)) (lv' := [(5, .int (nI (j + 1))), (4, .int (y + 0)), (3, .int (nI i)), (0, .ref (am (0))), (1, .int (x)), (2, .int (q))]) hx hb dX10_printOf_79 hl (k := 1) rfl (nI_1 _) (by decide) rfl (fun ls hl => ?_)
                    refine lv_goto (tgt := 31) hx hb dX10_printOf_82 (by decide) ?_
                    exact ih2 (j + 1) (y + 0) (by omega) (by omega) (by rw [sumI_succ, ← hj_0]; simp [mF_ah, b2i, c_2, c_5, c_6, c_6d]) ls (lv_sub hl [0, 1, 2, 3, 4, 5] rfl)
                  · skip
                    have c_6d := Int32.not_le.mp c_6
                    refine lv_iconst (v := 1) hx hb dX10_printOf_71 (by decide) ?_
                    refine lv_goto (tgt := 76) hx hb dX10_printOf_72 (by decide) ?_
                    refine lv_iadd hx hb dX10_printOf_76 ?_
                    refine lv_istore (lv' := [(4, .int (y + 1)), (5, .int (nI j)), (3, .int (nI i)), (0, .ref (am (0))), (1, .int (x)), (2, .int (q))]) hx hb dX10_printOf_77 hl (by decide) rfl (fun ls hl => ?_)
                    refine lv_iinc (v := nI (j + 1)) (lv' := [(5, .int (nI (j + 1))), (4, .int (y + 1)), (3, .int (nI i)), (0, .ref (am (0))), (1, .int (x)), (2, .int (q))]) hx hb dX10_printOf_79 hl (k := 1) rfl (nI_1 _) (by decide) rfl (fun ls hl => ?_)
                    refine lv_goto (tgt := 31) hx hb dX10_printOf_82 (by decide) ?_
                    exact ih2 (j + 1) (y + 1) (by omega) (by omega) (by rw [sumI_succ, ← hj_0]; simp [mF_ah, b2i, c_2, c_5, c_6, c_6d]) ls (lv_sub hl [0, 1, 2, 3, 4, 5] rfl)
          exact loop_31 (n + 1) (0) (0)  (by omega) (by omega) (rfl) ls (lv_sub hl [0, 1, 2, 3, 4, 5] rfl)
        · skip
          refine lv_goto (tgt := 93) hx hb dX10_printOf_25 (by decide) ?_
          refine lv_iinc (v := nI (i + 1)) (lv' := [(3, .int (nI (i + 1))), (4, .int (0)), (0, .ref (am (0))), (1, .int (x)), (2, .int (q))]) hx hb dX10_printOf_93 hl (k := 1) rfl (nI_1 _) (by decide) rfl (fun ls hl => ?_)
          refine lv_goto (tgt := 2) hx hb dX10_printOf_96 (by decide) ?_
          exact ih (i + 1) (by omega) (by omega) (fstI_succ_no hi_0 (by first | (simp [mP_po, b2i, c_2]; done) | (simp [mP_po, ← hj_0, b2i, c_2]; done))) ls (lv_sub hl [0, 2, 3, 4] rfl)
  exact loop_2 (n + 1) (0)  (by omega) (by omega) (rfl) ls (lv_sub hl [0, 1, 2, 3] rfl)

set_option maxHeartbeats 4000000 in
set_option maxRecDepth 100000 in
theorem c_X10_idAt (l : Launch) (D : va_G) (am : Nat → Nat) (cy : Nat → ClassId) (μ : Nat → Nat → Int32) (n : Nat) (t : Nat) (hM : MS (μ 1) n t) (x : Option Nat) (hx0 : ∀ j, x = some j → j < n) : Met l yX10_idAt wsX10_idAt ({ frames := 1, cells := 0, slots := 0, locals := 22 } : Room) (sp_Pc D (tyG cy) [.ref (am (0)), .int (posI x)] (mW am cy μ)) (sp_S (some (.int (m_idAt (μ 1) x)))) 0 0 (fun _ => False) := by
  refine Met.ofW (cc := cX10_idAt) (maxL := 2) (ret := (some .int)) (by decide) rfl ?_
  intro p e s m args below meth c s₁ B hml hv
  obtain ⟨rfl, hP, hK⟩ := hv
  have hx := B.exec
  have hb := B.bytes
  have hr := B.returns
  have hts := atoms_spec (ws := wsX10_idAt) B.pre
  have hown : s.vm.findClass RX10 = some m.cls := findClass_of_methodNamed B.named
  have hlocks := B.notSynchronized
  have hn30 := hM.2.1
  have ht6 := hM.2.2.2
  rcases x with _ | k
  · skip
    have hl := lv_entry ([.ref (am (0)), .int ((-1))]) (n := 2) (Nat.le_of_ble_eq_true rfl)
    refine W.eq (lg_entry_eq _ ([.ref (am (0)), .int ((-1))]) _) ?_
    generalize (lg_sl ([.ref (am (0)), .int ((-1))]) ++ List.replicate (2 - (lg_sl ([.ref (am (0)), .int ((-1))])).length) Slot.unset).toArray = ls at hl ⊢
    have hl : lv_has ls 2 [(0, .ref (am (0))), (1, .int ((-1)))] := hl
    refine lv_iload_n hx hb dX10_idAt_0 rfl (lv_at hl 1 rfl) ?_
    refine lv_if_ge (tgt := 8) hx hb dX10_idAt_1 (by decide) (fun c_1 => ?_) (fun c_1 => ?_)
    · exact absurd c_1 (by decide)
    · skip
      refine lv_iconst (v := 0) hx hb dX10_idAt_4 (by decide) ?_
      refine lv_goto (tgt := 14) hx hb dX10_idAt_5 (by decide) ?_
      exact W.iret (v := 0) hx hb hr (fun T9 hT9 _ => ⟨congrArg (fun z9 => Outcome.returned (some (Value.int z9))) (show (0 : Int32) = m_idAt (μ 1) none from (by first | rfl | (simp [m_idAt, b2i]; done))), hT9⟩) (fun _ h => by cases h) dX10_idAt_14
  · skip
    have hk : k < n := hx0 k rfl
    have hl := lv_entry ([.ref (am (0)), .int (nI k)]) (n := 2) (Nat.le_of_ble_eq_true rfl)
    refine W.eq (lg_entry_eq _ ([.ref (am (0)), .int (nI k)]) _) ?_
    generalize (lg_sl ([.ref (am (0)), .int (nI k)]) ++ List.replicate (2 - (lg_sl ([.ref (am (0)), .int (nI k)])).length) Slot.unset).toArray = ls at hl ⊢
    have hl : lv_has ls 2 [(0, .ref (am (0))), (1, .int (nI k))] := hl
    refine lv_iload_n hx hb dX10_idAt_0 rfl (lv_at hl 1 rfl) ?_
    refine lv_if_ge (tgt := 8) hx hb dX10_idAt_1 (by decide) (fun c_2 => ?_) (fun c_2 => ?_)
    · skip
      have c_2d := Int32.not_lt.mpr c_2
      refine lv_aload_n hx hb dX10_idAt_8 rfl (lv_at hl 0 rfl) ?_
      refine lv_iload_n hx hb dX10_idAt_9 rfl (lv_at hl 1 rfl) ?_
      refine lv_iconst (v := 0) hx hb dX10_idAt_10 (by decide) ?_
      refine sp_call (W.runV (As := [.int (nI k), .int (0)]) (rest := []) ⟨hx, hb, hml, hown, hts⟩ (c_X10_p l D am cy μ k (by omega) 0 (by omega)) (cwV 2 hts gX10_idAt_X10_p rfl rfl rfl (by decide +kernel) ⟨Nat.le_of_ble_eq_true rfl, Nat.le_of_ble_eq_true rfl⟩) (sp_preV hK hP (κ := 0) (by decide) mE_0 rfl) rfl rfl hl.1 rfl (lv_room (Nat.le_of_ble_eq_true rfl)) dX10_idAt_11 ⟨Nat.le_of_ble_eq_true rfl, Nat.le_of_ble_eq_true rfl⟩) ?_
      refine W.eq (g2 := F0 m 14 ls [.int (gP (μ 1) k 0)]) rfl ?_
      exact W.iret (v := gP (μ 1) k 0) hx hb hr (fun T9 hT9 _ => ⟨congrArg (fun z9 => Outcome.returned (some (Value.int z9))) (show (gP (μ 1) k 0 : Int32) = m_idAt (μ 1) (some k) from (by first | rfl | (simp [m_idAt, b2i, c_2, c_2d]; done))), hT9⟩) (fun _ h => by cases h) dX10_idAt_14
    · exact absurd (Int32.not_lt.mp (nI_pos (by omega))) c_2

