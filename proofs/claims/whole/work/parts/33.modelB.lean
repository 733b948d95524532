
/-! the model's changes -/
theorem mW_eq {am : Nat → Nat} {cy : Nat → ClassId} {μ μ2 : Nat → Nat → Int32} (h : μ = μ2) : mW am cy μ = mW am cy μ2 := by rw [h]
theorem nI_lt30 {n : Nat} (h : ¬ nI n = 30) (hn : n ≤ 30) : n < 30 := by
  rcases Nat.lt_or_ge n 30 with h9 | h9
  · exact h9
  · exact absurd (show nI n = 30 by rw [show n = 30 by omega]; rfl) h
def m_cp (μ : Nat → Nat → Int32) (a b i : Nat) : Nat → Nat → Int32 := fun k j => if k = 1 ∧ 289 * b ≤ j ∧ j < 289 * b + i then μ 1 (289 * a + (j - 289 * b)) else μ k j
def m_copy (μ : Nat → Nat → Int32) (a b : Nat) : Nat → Nat → Int32 := m_cp μ a b 289
theorem m_cp_0 (μ : Nat → Nat → Int32) (a b : Nat) : m_cp μ a b 0 = μ := by
  funext k j; unfold m_cp; rw [if_neg (by omega)]
theorem m_cp_s {μ : Nat → Nat → Int32} {a b i : Nat} (hab : a ≠ b) (hi : i < 289) : sp_st (m_cp μ a b i) 1 (289 * b + i) (m_cp μ a b i 1 (289 * a + i)) = m_cp μ a b (i + 1) := by
  have h1 : m_cp μ a b i 1 (289 * a + i) = μ 1 (289 * a + i) := by unfold m_cp; rw [if_neg (by omega)]
  rw [h1]
  funext k j
  rw [sp_st_at]
  unfold m_cp
  by_cases h : k = 1 ∧ j = 289 * b + i
  · rw [if_pos h, if_pos (by omega)]; congr 1; omega
  · rw [if_neg h]
    by_cases h2 : k = 1 ∧ 289 * b ≤ j ∧ j < 289 * b + i
    · rw [if_pos h2, if_pos (by omega)]
    · rw [if_neg h2, if_neg (by omega)]
theorem m_copy0 {μ : Nat → Nat → Int32} {a b j : Nat} : m_copy μ a b 0 j = μ 0 j := by unfold m_copy m_cp; rw [if_neg (by omega)]
def m_rej (μ : Nat → Nat → Int32) (x y : Int32) : Nat → Nat → Int32 := sp_st (sp_st (sp_st μ 0 5 x) 0 6 y) 0 7 0
def m_by (x : Option Nat) : Int32 := match x with
  | none => 1
  | some _ => 0
/-- the print at place a goes: those behind it move up -/
def m_g1 (μ : Nat → Nat → Int32) (a i : Nat) : Nat → Nat → Int32 := fun k j => if k = 1 ∧ 19 + 9 * a ≤ j ∧ j < 19 + i then μ 1 (j + 9) else μ k j
theorem m_g1_0 (μ : Nat → Nat → Int32) (a : Nat) : m_g1 μ a (9 * a) = μ := by
  funext k j; unfold m_g1; rw [if_neg (by omega)]
theorem m_g1_s {μ : Nat → Nat → Int32} {a i : Nat} (hi : 9 * a ≤ i) : sp_st (m_g1 μ a i) 1 (19 + i) (m_g1 μ a i 1 (19 + i + 9)) = m_g1 μ a (i + 1) := by
  have h1 : m_g1 μ a i 1 (19 + i + 9) = μ 1 (19 + i + 9) := by unfold m_g1; rw [if_neg (by omega)]
  rw [h1]
  funext k j
  rw [sp_st_at]
  unfold m_g1
  by_cases h : k = 1 ∧ j = 19 + i
  · rw [if_pos h, if_pos (by omega), h.2]
  · rw [if_neg h]
    by_cases h2 : k = 1 ∧ 19 + 9 * a ≤ j ∧ j < 19 + i
    · rw [if_pos h2, if_pos (by omega)]
    · rw [if_neg h2, if_neg (by omega)]
def m_g2 (μ : Nat → Nat → Int32) (n a i : Nat) : Nat → Nat → Int32 := fun k j => if k = 1 ∧ 19 + 9 * (n - 1) ≤ j ∧ j < 19 + 9 * (n - 1) + i then 0 else m_g1 μ a (9 * (n - 1)) k j
theorem m_g2_0 (μ : Nat → Nat → Int32) (n a : Nat) : m_g2 μ n a 0 = m_g1 μ a (9 * (n - 1)) := by
  funext k j; unfold m_g2; rw [if_neg (by omega)]
theorem m_g2_s {μ : Nat → Nat → Int32} {n a i : Nat} (hi : i < 9) : sp_st (m_g2 μ n a i) 1 (19 + 9 * (n - 1) + i) 0 = m_g2 μ n a (i + 1) := by
  funext k j
  rw [sp_st_at]
  unfold m_g2
  by_cases h : k = 1 ∧ j = 19 + 9 * (n - 1) + i
  · rw [if_pos h, if_pos (by omega)]
  · rw [if_neg h]
    by_cases h2 : k = 1 ∧ 19 + 9 * (n - 1) ≤ j ∧ j < 19 + 9 * (n - 1) + i
    · rw [if_pos h2, if_pos (by omega)]
    · rw [if_neg h2, if_neg (by omega)]
def m_goes (μ : Nat → Nat → Int32) (n a : Nat) : Nat → Nat → Int32 := sp_st (m_g2 μ n a 9) 1 1 (nI (n - 1))
def m_addTv (t : Nat) (z : Int32) : Int32 := if m_in z 1 9 = true then (if nI t = 6 then 3 else 0) else 2
def m_addT (μ : Nat → Nat → Int32) (t : Nat) (z : Int32) : Nat → Nat → Int32 := if m_in z 1 9 = true then (if nI t = 6 then m_rej μ 1 6 else sp_st (sp_st (sp_st (sp_st (sp_st μ 0 4 (μ 1 2)) 1 2 (μ 1 2 + 1)) 1 0 (nI t + 1)) 1 (7 + 2 * t) (μ 1 2)) 1 (7 + 2 * t + 1) z) else μ
def m_mv (μ : Nat → Nat → Int32) (w a b : Nat) : Nat → Nat → Int32 := fun k j => if k = 1 ∧ a ≤ j ∧ j < b then μ 1 (j + w) else μ k j
theorem m_mv_0 (μ : Nat → Nat → Int32) (w a : Nat) : m_mv μ w a a = μ := by
  funext k j; unfold m_mv; rw [if_neg (by omega)]
theorem m_mv_s {μ : Nat → Nat → Int32} {w a b : Nat} (hi : a ≤ b) (hw : 0 < w) : sp_st (m_mv μ w a b) 1 b (m_mv μ w a b 1 (b + w)) = m_mv μ w a (b + 1) := by
  have h1 : m_mv μ w a b 1 (b + w) = μ 1 (b + w) := by unfold m_mv; rw [if_neg (by omega)]
  rw [h1]
  funext k j
  rw [sp_st_at]
  unfold m_mv
  by_cases h : k = 1 ∧ j = b
  · rw [if_pos h, if_pos (by omega), h.2]
  · rw [if_neg h]
    by_cases h2 : k = 1 ∧ a ≤ j ∧ j < b
    · rw [if_pos h2, if_pos (by omega)]
    · rw [if_neg h2, if_neg (by omega)]
/-- counting down from n - 1 -/
def dnx (n i : Nat) : Option Nat := if i < n then some (n - 1 - i) else none
theorem dnx_none {n i : Nat} (h : dnx n i = none) (hle : i ≤ n) : i = n := by
  unfold dnx at h
  by_cases hi : i < n
  · rw [if_pos hi] at h; cases h
  · omega
theorem dnx_some {n i j : Nat} (h : dnx n i = some j) : j = n - 1 - i ∧ i < n := by
  unfold dnx at h
  by_cases hi : i < n
  · rw [if_pos hi] at h; cases h; exact ⟨rfl, hi⟩
  · rw [if_neg hi] at h; cases h
theorem nI_m1 (m : Nat) : nI (m + 1) + (-1) = nI m := by
  rw [show nI (m + 1) = nI m + nI 1 from (nI_addE rfl rfl).symm, Int32.add_assoc, show nI 1 + (-1) = (0 : Int32) by decide]
  simp
theorem dnx_next {n i j : Nat} (h : dnx n i = some j) : nI j + (-1) = posI (dnx n (i + 1)) := by
  obtain ⟨h1, h2⟩ := dnx_some h
  unfold dnx
  by_cases hi : i + 1 < n
  · rw [if_pos hi, show j = (n - 1 - (i + 1)) + 1 by omega, nI_m1]; rfl
  · rw [if_neg hi, show j = 0 by omega]; decide
theorem dnx_0 (n : Nat) : nI n - 1 = posI (dnx n 0) := by
  unfold dnx
  rcases n with _ | m
  · decide
  · rw [if_pos (by omega), show m + 1 - 1 - 0 = m by omega]; exact nI_pred m
theorem m_goes_MS {μ : Nat → Nat → Int32} {n t a : Nat} (h : MS (μ 1) n t) (ha : a < n) : MS (m_goes μ n a 1) (n - 1) t := by
  refine ⟨sp_st_s _ _ _ _, by have := h.2.1; omega, ?_, h.2.2.2⟩
  unfold m_goes
  rw [sp_st_j _ _ _ _ _ _ (by decide)]
  unfold m_g2 m_g1
  rw [if_neg (by omega), if_neg (by omega)]
  exact h.2.2.1
def S_rm (P : (Nat → Nat → Int32) → Nat → Bool) (n : Nat) (s : Nat × (Nat → Nat → Int32)) (i : Nat) : Nat × (Nat → Nat → Int32) := if P s.2 (n - 1 - i) = true then (s.1 - 1, m_goes s.2 s.1 (n - 1 - i)) else s
def m_rm (P : (Nat → Nat → Int32) → Nat → Bool) (n : Nat) (μ : Nat → Nat → Int32) (i : Nat) : Nat × (Nat → Nat → Int32) := foldI (S_rm P n) (n, μ) i
theorem m_rm_s (P : (Nat → Nat → Int32) → Nat → Bool) (n : Nat) (μ : Nat → Nat → Int32) (i : Nat) : m_rm P n μ (i + 1) = S_rm P n (m_rm P n μ i) i := rfl
theorem m_rm_MS {P : (Nat → Nat → Int32) → Nat → Bool} {n t i : Nat} {μ : Nat → Nat → Int32} (h : MS ((m_rm P n μ i).2 1) (m_rm P n μ i).1 t) (h1 : n - i ≤ (m_rm P n μ i).1) (hi : i < n) : MS ((m_rm P n μ (i + 1)).2 1) (m_rm P n μ (i + 1)).1 t := by
  rw [m_rm_s]
  unfold S_rm
  by_cases hc : P (m_rm P n μ i).2 (n - 1 - i) = true
  · rw [if_pos hc]; exact m_goes_MS h (by omega)
  · rw [if_neg hc]; exact h
theorem m_rm_le {P : (Nat → Nat → Int32) → Nat → Bool} {n i : Nat} {μ : Nat → Nat → Int32} (h1 : n - i ≤ (m_rm P n μ i).1) (hi : i < n) : n - (i + 1) ≤ (m_rm P n μ (i + 1)).1 := by
  rw [m_rm_s]
  unfold S_rm
  by_cases hc : P (m_rm P n μ i).2 (n - 1 - i) = true
  · rw [if_pos hc]; show n - (i + 1) ≤ (m_rm P n μ i).1 - 1; omega
  · rw [if_neg hc]; omega
theorem m_rm_y {P : (Nat → Nat → Int32) → Nat → Bool} {n i j : Nat} {μ : Nat → Nat → Int32} (hj : j = n - 1 - i) (hc : P (m_rm P n μ i).2 j = true) : m_goes (m_rm P n μ i).2 (m_rm P n μ i).1 j = (m_rm P n μ (i + 1)).2 := by
  rw [m_rm_s]
  unfold S_rm
  rw [if_pos (by rw [← hj]; exact hc), hj]
theorem m_rm_n {P : (Nat → Nat → Int32) → Nat → Bool} {n i j : Nat} {μ : Nat → Nat → Int32} (hj : j = n - 1 - i) (hc : P (m_rm P n μ i).2 j = false) : (m_rm P n μ i).2 = (m_rm P n μ (i + 1)).2 := by
  rw [m_rm_s]
  unfold S_rm
  rw [if_neg (by rw [← hj, hc]; decide)]
theorem m_goes_out {μ : Nat → Nat → Int32} {n a k j : Nat} (h : k ≠ 1 ∨ (j < 19 ∧ j ≠ 1)) : m_goes μ n a k j = μ k j := by
  unfold m_goes
  rw [sp_st_at, if_neg (by omega)]
  unfold m_g2 m_g1
  rw [if_neg (by omega), if_neg (by omega)]
theorem m_rm_out {P : (Nat → Nat → Int32) → Nat → Bool} {n k j : Nat} {μ : Nat → Nat → Int32} (h : k ≠ 1 ∨ (j < 19 ∧ j ≠ 1)) : ∀ i : Nat, (m_rm P n μ i).2 k j = μ k j
  | 0 => rfl
  | i + 1 => by
    have ih := m_rm_out (P := P) (n := n) (μ := μ) h i
    rw [m_rm_s]
    unfold S_rm
    by_cases hc : P (m_rm P n μ i).2 (n - 1 - i) = true
    · rw [if_pos hc]; show m_goes _ _ _ k j = _; rw [m_goes_out h, ih]
    · rw [if_neg hc]; exact ih
theorem m_rm_15 {P : (Nat → Nat → Int32) → Nat → Bool} {n : Nat} {μ : Nat → Nat → Int32} {v : Int32} (i : Nat) : (m_rm P n (sp_st μ 0 4 v) i).2 1 5 = μ 1 5 := by rw [m_rm_out (Or.inr ⟨by decide, by decide⟩), sp_st_k _ _ _ _ _ _ (by decide)]
theorem m_rm_04 {P : (Nat → Nat → Int32) → Nat → Bool} {n : Nat} {μ : Nat → Nat → Int32} {v : Int32} (i : Nat) : (m_rm P n (sp_st μ 0 4 v) i).2 0 4 = v := by rw [m_rm_out (Or.inl (by decide)), sp_st_s]
def mQ_tr (x : Int32) (μ : Nat → Nat → Int32) (k : Nat) : Bool := gP (μ 1) k 1 == x
def mQ_row (v : Int32) (μ : Nat → Nat → Int32) (k : Nat) : Bool := decide (gP (μ 1) k 3 < v)
def m_rmT (τ : Nat → Nat → Int32) (t k : Nat) : Nat → Nat → Int32 := sp_st (sp_st (sp_st (m_mv τ 2 (7 + 2 * k) (7 + 2 * (t - 1))) 1 (7 + 2 * (t - 1)) 0) 1 (7 + 2 * (t - 1) + 1) 0) 1 0 (nI (t - 1))
def m_tidev (μ : Nat → Int32) (v : Int32) : Int32 := if m_in v 0 8 = true then (if μ 4 = v then 3 else 0) else 2
def m_tide (μ : Nat → Nat → Int32) (n : Nat) (v : Int32) : Nat → Nat → Int32 := if m_in v 0 8 = true then (if μ 1 4 = v then m_rej μ 9 v else sp_st (sp_st (m_rm (mQ_row v) n (sp_st μ 0 4 (m_below (μ 1) n v)) n).2 1 4 v) 1 5 (μ 1 5 + m_below (μ 1) n v)) else μ
theorem nI_eq8 {ch : Nat} (h : nI ch = 8) (hc : ch ≤ 8) : ch = 8 := by
  rcases Nat.lt_or_ge ch 8 with h9 | h9
  · have := nI_lt (a := ch) (b := 8) h9 (by decide)
    rw [h] at this
    exact absurd this (by decide)
  · omega
theorem nI_lt8 {ch : Nat} (h : ¬ nI ch = 8) (hc : ch ≤ 8) : ch < 8 := by
  rcases Nat.lt_or_ge ch 8 with h9 | h9
  · exact h9
  · exact absurd (show nI ch = 8 by rw [show ch = 8 by omega]; rfl) h
def m_sh (τ : Nat → Nat → Int32) : Nat → Nat → Nat → Int32
  | 0 => τ
  | 1 => τ
  | i + 2 => m_copy (m_sh τ (i + 1)) (i + 2) (i + 1)
theorem m_sh_s {τ : Nat → Nat → Int32} {i : Nat} (hi : 1 ≤ i) : m_copy (m_sh τ i) (i + 1) i = m_sh τ (i + 1) := by
  obtain ⟨j, rfl⟩ : ∃ j, i = j + 1 := ⟨i - 1, by omega⟩
  rfl
theorem m_sh0 {τ : Nat → Nat → Int32} {j : Nat} : ∀ i : Nat, m_sh τ i 0 j = τ 0 j
  | 0 => rfl
  | 1 => rfl
  | i + 2 => by
    show m_copy (m_sh τ (i + 1)) (i + 2) (i + 1) 0 j = τ 0 j
    rw [m_copy0, m_sh0 (i + 1)]
theorem m_sh_ch {μ : Nat → Nat → Int32} {ch i : Nat} {v : Int32} (hC : μ 0 2 = nI ch) : m_sh (sp_st μ 0 0 v) i 0 2 = nI ch := by rw [m_sh0, sp_st_j _ _ _ _ _ _ (by decide)]; exact hC
def m_endv (z p1 p2 p3 : Int32) : Int32 := if z = 1 then p1 else if z = 2 then p2 else if z = 3 then p3 else 0
def m_endr (μ : Nat → Nat → Int32) (z p1 p2 p3 : Int32) : Int32 := if m_endv z p1 p2 p3 = 0 then μ 0 4 else 0
def m_done (τ : Nat → Nat → Int32) (ch : Nat) : Nat → Nat → Int32 := if nI ch = 8 then m_copy (sp_st (sp_st (m_sh τ 8) 0 2 (nI ch - 1)) 0 2 (nI ch - 1 + 1)) 10 (ch - 1 + 1) else m_copy (sp_st τ 0 2 (nI ch + 1)) 10 (ch + 1)
def m_ends (μ : Nat → Nat → Int32) (ch : Nat) (z p1 p2 p3 : Int32) : Nat → Nat → Int32 := if m_endv z p1 p2 p3 = 0 then m_done (sp_st μ 0 0 (m_endv z p1 p2 p3)) ch else m_copy (sp_st μ 0 0 (m_endv z p1 p2 p3)) 10 0
def m_swap (μ : Nat → Nat → Int32) (n : Nat) (x : Int32) : Nat → Nat → Int32 := atO (m_find (μ 1) n x) μ (fun k => sp_st (sp_st μ 0 4 (1 - gP (μ 1) k 5)) 1 (19 + 9 * k + 5) (1 - gP (μ 1) k 5))
def m_doub (μ : Nat → Nat → Int32) (n : Nat) (x : Int32) : Nat → Nat → Int32 := atO (m_find (μ 1) n x) μ (fun k => if gP (μ 1) k 7 = 3 then m_rej μ 7 3 else sp_st (sp_st μ 0 4 (gP (μ 1) k 7 + 1)) 1 (19 + 9 * k + 7) (gP (μ 1) k 7 + 1))
def m_conf (μ : Nat → Nat → Int32) (n : Nat) (x : Int32) : Nat → Nat → Int32 := atO (m_find (μ 1) n x) μ (fun k => if gP (μ 1) k 7 = 0 then m_rej (sp_st μ 0 4 (gP (μ 1) k 7)) 8 0 else sp_st (sp_st μ 0 4 (gP (μ 1) k 7)) 1 (19 + 9 * k + 7) 0)
def m_rmPr (μ : Nat → Nat → Int32) (n : Nat) (x : Int32) : Nat → Nat → Int32 := atO (m_find (μ 1) n x) μ (fun k => m_goes (sp_st μ 0 4 (gP (μ 1) k 1)) n k)
def m_rmTr (μ : Nat → Nat → Int32) (n t : Nat) (x : Int32) : Nat → Nat → Int32 := atO (m_ft (μ 1) t x) μ (fun k => m_rmT (m_rm (mQ_tr x) n (sp_st μ 0 4 (m_count (μ 1) n x)) n).2 t k)
/-- why a print isn't added, a heel not corrected: the reason and its detail -/
def m_objC (μ : Nat → Int32) (n : Nat) (r c1 : Int32) : Option (Int32 × Int32) := if r < μ 4 then some (4, μ 4) else match m_cell μ n r c1 with
  | none => none
  | some j => some (5, gP μ j 0)
def m_objP (μ : Nat → Int32) (n : Nat) (x u r c1 : Int32) : Option (Int32 × Int32) := if nI n = 30 then some (2, 30) else match m_time μ n x u with
  | some j => some (3, gP μ j 0)
  | none => if r < μ 4 then some (4, μ 4) else match m_cell μ n r c1 with
    | none => none
    | some j => some (5, gP μ j 0)
def m_objM (μ : Nat → Int32) (n a : Nat) (r c1 : Int32) : Option (Int32 × Int32) := if m_in (m_dist μ a r c1) 1 2 = true then (if r < μ 4 then some (4, μ 4) else match m_cell μ n r c1 with
    | none => none
    | some j => some (5, gP μ j 0)) else some (6, m_dist μ a r c1)
def m_rejO (μ : Nat → Nat → Int32) (o : Option (Int32 × Int32)) (τ : Nat → Nat → Int32) : Nat → Nat → Int32 := match o with
  | none => τ
  | some y => m_rej μ y.1 y.2
def m_new (μ : Nat → Nat → Int32) (n : Nat) (x u r c1 lf z : Int32) : Nat → Nat → Int32 := sp_st (sp_st (sp_st (sp_st (sp_st (sp_st (sp_st (sp_st (sp_st (sp_st (sp_st (sp_st μ 0 4 (μ 1 3)) 1 3 (μ 1 3 + 1)) 1 1 (nI n + 1)) 1 (19 + 9 * n + 0) (μ 1 3)) 1 (19 + 9 * n + 1) x) 1 (19 + 9 * n + 2) u) 1 (19 + 9 * n + 3) r) 1 (19 + 9 * n + 4) c1) 1 (19 + 9 * n + 5) lf) 1 (19 + 9 * n + 6) z) 1 (19 + 9 * n + 7) 0) 1 (19 + 9 * n + 8) (b2i (m_later (μ 1) n x u))
def m_addPv (μ : Nat → Int32) (n t : Nat) (x u r c1 z : Int32) : Int32 := match m_ft μ t x with
  | none => 1
  | some _ => if m_isCell r c1 = true then (if m_in u 0 999 = true ∧ m_in z 1 9 = true then (match m_objP μ n x u r c1 with | none => 0 | some _ => 3) else 2) else 1
def m_addP (μ : Nat → Nat → Int32) (n t : Nat) (x u r c1 lf z : Int32) : Nat → Nat → Int32 := match m_ft (μ 1) t x with
  | none => μ
  | some _ => if m_isCell r c1 = true then (if m_in u 0 999 = true ∧ m_in z 1 9 = true then m_rejO μ (m_objP (μ 1) n x u r c1) (m_new μ n x u r c1 lf z) else μ) else μ
def m_corv (μ : Nat → Int32) (n : Nat) (x r c1 : Int32) : Int32 := match m_find μ n x with
  | none => 1
  | some k => if m_isCell r c1 = true then (match m_objM μ n k r c1 with | none => 0 | some _ => 3) else 1
def m_cor (μ : Nat → Nat → Int32) (n : Nat) (x r c1 : Int32) : Nat → Nat → Int32 := match m_find (μ 1) n x with
  | none => μ
  | some k => if m_isCell r c1 = true then m_rejO μ (m_objM (μ 1) n k r c1) (sp_st (sp_st (sp_st (sp_st μ 1 (19 + 9 * k + 3) r) 1 (19 + 9 * k + 4) c1) 1 6 (μ 1 6 + 1)) 0 4 (m_dist (μ 1) k r c1)) else μ
theorem wi_X10_copies_X10 : ∀ w ∈ wsX100, w ∈ wsX10_copies := by decide +kernel
set_option maxHeartbeats 4000000 in
set_option maxRecDepth 100000 in
theorem c_X10_copies (l : Launch) (D : va_G) (am : Nat → Nat) (cy : Nat → ClassId) (μ : Nat → Nat → Int32) (sz : Nat) (hi : sp_inj am 5) (a : Nat) (ha : a < 11) (b : Nat) (hb2 : b < 11) (hab : a ≠ b) : Met l yX10_copies wsX10_copies ({ frames := 0, cells := 0, slots := 0, locals := 0 } : Room) (sp_Pm D (tyG cy) sz [.ref (am (0)), .int (nI a), .int (nI b)] (mW am cy μ)) (sp_Q D (none) (mW am cy (m_copy μ a b)) (sp_A am 5 sz)) 0 0 (sp_A am 5 sz) := by
  refine Met.ofW (cc := cX10_copies) (maxL := 4) (ret := none) (by decide) rfl ?_
  intro p e s m args below meth c s₁ B hml hv
  obtain ⟨rfl, hsz, hP, hK⟩ := hv
  have hx := B.exec
  have hb := B.bytes
  have hr := B.returns
  have hts := atoms_spec (ws := wsX10_copies) B.pre
  have hown : s.vm.findClass RX10 = some m.cls := findClass_of_methodNamed B.named
  have hlocks := B.notSynchronized
  subst hsz
  have hS : va_S (sp_A am 5 s.heap.size) s.heap s.heap [] := va_S.rf
  have hAk : ∀ k, k < 5 → (sp_A am 5 s.heap.size) (am k) := fun k hk => Or.inl ⟨k, hk, rfl⟩
  skip
  have hl := lv_entry ([.ref (am (0)), .int (nI a), .int (nI b)]) (n := 4) (Nat.le_of_ble_eq_true rfl)
  refine W.eq (lg_entry_eq _ ([.ref (am (0)), .int (nI a), .int (nI b)]) _) ?_
  generalize (lg_sl ([.ref (am (0)), .int (nI a), .int (nI b)]) ++ List.replicate (4 - (lg_sl ([.ref (am (0)), .int (nI a), .int (nI b)])).length) Slot.unset).toArray = ls at hl ⊢
  have hl : lv_has ls 4 [(0, .ref (am (0))), (1, .int (nI a)), (2, .int (nI b))] := hl
  refine lv_iconst (v := 0) hx hb dX10_copies_0 (by decide) ?_
  refine lv_istore_n (lv' := [(3, .int (0)), (0, .ref (am (0))), (1, .int (nI a)), (2, .int (nI b))]) hx hb dX10_copies_1 rfl hl (by decide) rfl (fun ls hl => ?_)
  have loop_2 : ∀ (fu i : Nat) (H : Heap) (locs : List Loc), (i ≤ 289) → (289 - i < fu) → (va_P D vwCl (mW am cy (m_cp μ a b i)) H) → (va_S (sp_A am 5 s.heap.size) s.heap H locs) → ∀ ls : Array Slot, lv_has ls 4 [(3, .int (nI i)), (0, .ref (am (0))), (1, .int (nI a)), (2, .int (nI b))] → W p l e (headSpec wsX10_copies ({ frames := 0, cells := 0, slots := 0, locals := 0 } : Room)).room s m ([.ref (am (0)), .int (nI a), .int (nI b)] : List Value).toArray below meth c H locs 0 0 (MQ below (sp_Q D (none) (mW am cy (m_copy μ a b)) (sp_A am 5 s.heap.size)) ([.ref (am (0)), .int (nI a), .int (nI b)] : List Value).toArray s 0 0 (sp_A am 5 s.heap.size)) (F0 m 2 ls []) := by
    intro fu
    induction fu with
    | zero => intro i H locs hle hlt hP hS ls hl; exact absurd hlt (Nat.not_lt_zero _)
    | succ fu ih =>
      intro i H locs hle hlt hP hS ls hl
      refine lv_iload_n hx hb dX10_copies_2 rfl (lv_at hl 0 rfl) ?_
      refine lv_sipush (v := 289) hx hb dX10_copies_3 (by decide) ?_
      refine lv_icmp_ge (tgt := 39) hx hb dX10_copies_6 (by decide) (fun c_1 => ?_) (fun c_1 => ?_)
      · skip
        have c_1d := Int32.not_lt.mpr c_1
        have hx_i : i = 289 := by have := (nI_leI (a := 289) (b := i) (by omega) (by omega)).mp c_1; omega
        rw [hx_i] at hP
        exact W.vret hx hb hr (fun T9 hT9 _ => ⟨rfl, by rw [hT9]; exact hP, hS.F hT9⟩) hS.2.2 dX10_copies_39
      · skip
        have c_1d := Int32.not_le.mp c_1
        have hb_i : i < 289 := Nat.lt_of_not_le (fun z => c_1 (nI_le z (by omega)))
        refine lv_aload_n hx hb dX10_copies_9 rfl (lv_at hl 1 rfl) ?_
        refine sp_get hx hb hts wi_X10_copies_X10 hown hK hP (κ := 0) (by decide) mE_0 rfl 1 (by decide) (hts _ (List.mem_of_getElem? (i := 1) rfl)) (fun _ h => h) rfl dX10_copies_10 ?_
        refine lv_sipush (v := 289) hx hb dX10_copies_13 (by decide) ?_
        refine lv_iload_n hx hb dX10_copies_16 rfl (lv_at hl 3 rfl) ?_
        refine lv_imul hx hb dX10_copies_17 ?_
        refine lv_iload_n hx hb dX10_copies_18 rfl (lv_at hl 0 rfl) ?_
        refine lv_iadd hx hb dX10_copies_19 ?_
        refine lv_aload_n hx hb dX10_copies_20 rfl (lv_at hl 1 rfl) ?_
        refine sp_get hx hb hts wi_X10_copies_X10 hown hK hP (κ := 0) (by decide) mE_0 rfl 1 (by decide) (hts _ (List.mem_of_getElem? (i := 1) rfl)) (fun _ h => h) rfl dX10_copies_21 ?_
        refine lv_sipush (v := 289) hx hb dX10_copies_24 (by decide) ?_
        refine lv_iload_n hx hb dX10_copies_27 rfl (lv_at hl 2 rfl) ?_
        refine lv_imul hx hb dX10_copies_28 ?_
        refine lv_iload_n hx hb dX10_copies_29 rfl (lv_at hl 0 rfl) ?_
        refine lv_iadd hx hb dX10_copies_30 ?_
        refine sp_iald hx hb hK hP (κ := 1) (by decide) 1 mE_1 rfl ((289 * a) + i) (nI_addE (nI_mulE rfl rfl) rfl) (by omega) (by decide) dX10_copies_31 ?_
        refine sp_iast hx hb hK hP hi hAk hS (κ := 1) (by decide) 1 mE_1 rfl ((289 * b) + i) (nI_addE (nI_mulE rfl rfl) rfl) (by omega) (by decide) (r1 := upd ((m_cp μ a b i) 1) ((289 * b) + i) (m_cp μ a b i 1 ((289 * a) + i))) mE_1 dX10_copies_32 (fun H locs hP hS => ?_)
        have hP : va_P D vwCl (mW am cy (sp_st (m_cp μ a b i) 1 ((289 * b) + i) (m_cp μ a b i 1 ((289 * a) + i)))) H := hP
        refine lv_iinc (v := nI (i + 1)) (lv' := [(3, .int (nI (i + 1))), (0, .ref (am (0))), (1, .int (nI a)), (2, .int (nI b))]) hx hb dX10_copies_33 hl (k := 0) rfl (nI_1 _) (by decide) rfl (fun ls hl => ?_)
        refine lv_goto (tgt := 2) hx hb dX10_copies_36 (by decide) ?_
        exact ih (i + 1)  _ _ (by omega) (by omega)  ((show mW am cy (sp_st (m_cp μ a b i) 1 ((289 * b) + i) (m_cp μ a b i 1 ((289 * a) + i))) = mW am cy (m_cp μ a b (i + 1)) from (by exact mW_eq (m_cp_s hab (by omega)))) ▸ hP) hS ls (lv_sub hl [0, 1, 2, 3] rfl)
  exact loop_2 (289 + 1) (0)  _ _ (by omega) (by omega)  ((show mW am cy (μ) = mW am cy (m_cp μ a b 0) from (by exact mW_eq (m_cp_0 μ a b).symm)) ▸ hP) hS ls (lv_sub hl [0, 1, 2, 3] rfl)

set_option maxHeartbeats 4000000 in
set_option maxRecDepth 100000 in
theorem c_X10_begins (l : Launch) (D : va_G) (am : Nat → Nat) (cy : Nat → ClassId) (μ : Nat → Nat → Int32) (sz : Nat) (hi : sp_inj am 5) : Met l yX10_begins wsX10_begins ({ frames := 1, cells := 0, slots := 0, locals := 23 } : Room) (sp_Pm D (tyG cy) sz [.ref (am (0))] (mW am cy μ)) (sp_Q D (none) (mW am cy (m_copy μ 0 10)) (sp_A am 5 sz)) 0 0 (sp_A am 5 sz) := by
  refine Met.ofW (cc := cX10_begins) (maxL := 1) (ret := none) (by decide) rfl ?_
  intro p e s m args below meth c s₁ B hml hv
  obtain ⟨rfl, hsz, hP, hK⟩ := hv
  have hx := B.exec
  have hb := B.bytes
  have hr := B.returns
  have hts := atoms_spec (ws := wsX10_begins) B.pre
  have hown : s.vm.findClass RX10 = some m.cls := findClass_of_methodNamed B.named
  have hlocks := B.notSynchronized
  subst hsz
  have hS : va_S (sp_A am 5 s.heap.size) s.heap s.heap [] := va_S.rf
  have hAk : ∀ k, k < 5 → (sp_A am 5 s.heap.size) (am k) := fun k hk => Or.inl ⟨k, hk, rfl⟩
  skip
  have hl := lv_entry ([.ref (am (0))]) (n := 1) (Nat.le_of_ble_eq_true rfl)
  refine W.eq (lg_entry_eq _ ([.ref (am (0))]) _) ?_
  generalize (lg_sl ([.ref (am (0))]) ++ List.replicate (1 - (lg_sl ([.ref (am (0))])).length) Slot.unset).toArray = ls at hl ⊢
  have hl : lv_has ls 1 [(0, .ref (am (0)))] := hl
  refine lv_aload_n hx hb dX10_begins_0 rfl (lv_at hl 0 rfl) ?_
  refine lv_iconst (v := 0) hx hb dX10_begins_1 (by decide) ?_
  refine lv_bipush (v := 10) hx hb dX10_begins_2 (by decide) ?_
  refine sp_callm (va_runV (As := [.int (0), .int (10)]) (rest := []) ⟨hx, hb, hml, hown, hts⟩ (c_X10_copies l D am cy μ _ hi 0 (by omega) 10 (by omega) (by omega)) (cwV 2 hts gX10_begins_X10_copies rfl rfl rfl (by decide +kernel) ⟨Nat.le_of_ble_eq_true rfl, Nat.le_of_ble_eq_true rfl⟩) (sp_preVm hK hP (κ := 0) (by decide) mE_0 rfl) rfl rfl hl.1 rfl (lv_room (Nat.le_of_ble_eq_true rfl)) dX10_begins_4 ⟨Nat.le_of_ble_eq_true rfl, Nat.le_of_ble_eq_true rfl⟩) hS (fun q h1 h2 => sp_Alt h1 h2) (sp_Ale hS.1) (fun H locs hP hle hfr hS => ?_)
  refine W.eq (g2 := F0 m 7 ls []) rfl ?_
  exact W.vret hx hb hr (fun T9 hT9 _ => ⟨rfl, by rw [hT9]; exact hP, hS.F hT9⟩) hS.2.2 dX10_begins_7

theorem wi_X10_isFine_1_X10 : ∀ w ∈ wsX100, w ∈ wsX10_isFine := by decide +kernel
set_option maxHeartbeats 4000000 in
set_option maxRecDepth 100000 in
theorem c_X10_isFine_1 (l : Launch) (D : va_G) (am : Nat → Nat) (cy : Nat → ClassId) (μ : Nat → Nat → Int32) (sz : Nat) (hi : sp_inj am 5) : Met l yX10_isFine wsX10_isFine ({ frames := 0, cells := 0, slots := 0, locals := 0 } : Room) (sp_Pm D (tyG cy) sz [.ref (am (0)), .int (1)] (mW am cy μ)) (sp_Q D (some (.int (1))) (mW am cy (sp_st μ 0 0 0)) (sp_A am 5 sz)) 0 0 (sp_A am 5 sz) := by
  refine Met.ofW (cc := cX10_isFine) (maxL := 2) (ret := (some .boolean)) (by decide) rfl ?_
  intro p e s m args below meth c s₁ B hml hv
  obtain ⟨rfl, hsz, hP, hK⟩ := hv
  have hx := B.exec
  have hb := B.bytes
  have hr := B.returns
  have hts := atoms_spec (ws := wsX10_isFine) B.pre
  have hown : s.vm.findClass RX10 = some m.cls := findClass_of_methodNamed B.named
  have hlocks := B.notSynchronized
  subst hsz
  have hS : va_S (sp_A am 5 s.heap.size) s.heap s.heap [] := va_S.rf
  have hAk : ∀ k, k < 5 → (sp_A am 5 s.heap.size) (am k) := fun k hk => Or.inl ⟨k, hk, rfl⟩
  skip
  have hl := lv_entry ([.ref (am (0)), .int (1)]) (n := 2) (Nat.le_of_ble_eq_true rfl)
  refine W.eq (lg_entry_eq _ ([.ref (am (0)), .int (1)]) _) ?_
  generalize (lg_sl ([.ref (am (0)), .int (1)]) ++ List.replicate (2 - (lg_sl ([.ref (am (0)), .int (1)])).length) Slot.unset).toArray = ls at hl ⊢
  have hl : lv_has ls 2 [(0, .ref (am (0))), (1, .int (1))] := hl
  refine lv_aload_n hx hb dX10_isFine_0 rfl (lv_at hl 0 rfl) ?_
  refine lv_iload_n hx hb dX10_isFine_1 rfl (lv_at hl 1 rfl) ?_
  refine lv_if_eq (tgt := 9) hx hb dX10_isFine_2 (by decide) (fun c_1 => ?_) (fun c_1 => ?_)
  · exact absurd c_1 (by decide)
  · skip
    refine lv_iconst (v := 0) hx hb dX10_isFine_5 (by decide) ?_
    refine lv_goto (tgt := 10) hx hb dX10_isFine_6 (by decide) ?_
    refine sp_put hx hb hts wi_X10_isFine_1_X10 tyX10 tyX10_ok nmX10 hown hK hP hi hAk hS (κ := 0) (by decide) mE_0 rfl 0 (by decide) (hts _ (List.mem_of_getElem? (i := 1) rfl)) (fun _ h => h) rfl (ty := tyX10 0) (by decide +kernel) ⟨rfl, rfl⟩ (Nat.le_of_ble_eq_true rfl) (r1 := upd (μ 0) 0 0) (cE_of mE_0 (by simp [upd])) dX10_isFine_10 (fun H locs hP hS => ?_)
    have hP : va_P D vwCl (mW am cy (sp_st μ 0 0 0)) H := hP
    refine lv_iload_n hx hb dX10_isFine_13 rfl (lv_at hl 1 rfl) ?_
    exact W.zret (v := 1) hx hb hr (by decide) (fun T9 hT9 _ => ⟨congrArg (fun z9 => Outcome.returned (some (Value.int z9))) (show (1 : Int32) = 1 from (by first | rfl | (simp [b2i]; done))), by rw [hT9]; exact hP, hS.F hT9⟩) hS.2.2 dX10_isFine_14

theorem wi_X10_isFine_0_X10 : ∀ w ∈ wsX100, w ∈ wsX10_isFine := by decide +kernel
set_option maxHeartbeats 4000000 in
set_option maxRecDepth 100000 in
theorem c_X10_isFine_0 (l : Launch) (D : va_G) (am : Nat → Nat) (cy : Nat → ClassId) (μ : Nat → Nat → Int32) (sz : Nat) (hi : sp_inj am 5) : Met l yX10_isFine wsX10_isFine ({ frames := 0, cells := 0, slots := 0, locals := 0 } : Room) (sp_Pm D (tyG cy) sz [.ref (am (0)), .int (0)] (mW am cy μ)) (sp_Q D (some (.int (0))) (mW am cy (sp_st μ 0 0 1)) (sp_A am 5 sz)) 0 0 (sp_A am 5 sz) := by
  refine Met.ofW (cc := cX10_isFine) (maxL := 2) (ret := (some .boolean)) (by decide) rfl ?_
  intro p e s m args below meth c s₁ B hml hv
  obtain ⟨rfl, hsz, hP, hK⟩ := hv
  have hx := B.exec
  have hb := B.bytes
  have hr := B.returns
  have hts := atoms_spec (ws := wsX10_isFine) B.pre
  have hown : s.vm.findClass RX10 = some m.cls := findClass_of_methodNamed B.named
  have hlocks := B.notSynchronized
  subst hsz
  have hS : va_S (sp_A am 5 s.heap.size) s.heap s.heap [] := va_S.rf
  have hAk : ∀ k, k < 5 → (sp_A am 5 s.heap.size) (am k) := fun k hk => Or.inl ⟨k, hk, rfl⟩
  skip
  have hl := lv_entry ([.ref (am (0)), .int (0)]) (n := 2) (Nat.le_of_ble_eq_true rfl)
  refine W.eq (lg_entry_eq _ ([.ref (am (0)), .int (0)]) _) ?_
  generalize (lg_sl ([.ref (am (0)), .int (0)]) ++ List.replicate (2 - (lg_sl ([.ref (am (0)), .int (0)])).length) Slot.unset).toArray = ls at hl ⊢
  have hl : lv_has ls 2 [(0, .ref (am (0))), (1, .int (0))] := hl
  refine lv_aload_n hx hb dX10_isFine_0 rfl (lv_at hl 0 rfl) ?_
  refine lv_iload_n hx hb dX10_isFine_1 rfl (lv_at hl 1 rfl) ?_
  refine lv_if_eq (tgt := 9) hx hb dX10_isFine_2 (by decide) (fun c_1 => ?_) (fun c_1 => ?_)
  · skip
    refine lv_iconst (v := 1) hx hb dX10_isFine_9 (by decide) ?_
    refine sp_put hx hb hts wi_X10_isFine_0_X10 tyX10 tyX10_ok nmX10 hown hK hP hi hAk hS (κ := 0) (by decide) mE_0 rfl 0 (by decide) (hts _ (List.mem_of_getElem? (i := 1) rfl)) (fun _ h => h) rfl (ty := tyX10 0) (by decide +kernel) ⟨rfl, rfl⟩ (Nat.le_of_ble_eq_true rfl) (r1 := upd (μ 0) 0 1) (cE_of mE_0 (by simp [upd])) dX10_isFine_10 (fun H locs hP hS => ?_)
    have hP : va_P D vwCl (mW am cy (sp_st μ 0 0 1)) H := hP
    refine lv_iload_n hx hb dX10_isFine_13 rfl (lv_at hl 1 rfl) ?_
    exact W.zret (v := 0) hx hb hr (by decide) (fun T9 hT9 _ => ⟨congrArg (fun z9 => Outcome.returned (some (Value.int z9))) (show (0 : Int32) = 0 from (by first | rfl | (simp [b2i]; done))), by rw [hT9]; exact hP, hS.F hT9⟩) hS.2.2 dX10_isFine_14
  · exact absurd c_1 (by decide)

theorem wi_X10_rejects_1_X10 : ∀ w ∈ wsX100, w ∈ wsX10_rejects := by decide +kernel
set_option maxHeartbeats 4000000 in
set_option maxRecDepth 100000 in
theorem c_X10_rejects_1 (l : Launch) (D : va_G) (am : Nat → Nat) (cy : Nat → ClassId) (μ : Nat → Nat → Int32) (sz : Nat) (hi : sp_inj am 5) (x : Int32) (y : Int32) : Met l yX10_rejects wsX10_rejects ({ frames := 0, cells := 0, slots := 0, locals := 0 } : Room) (sp_Pm D (tyG cy) sz [.ref (am (0)), .int (1), .int (x), .int (y)] (mW am cy μ)) (sp_Q D (some (.int (1))) (mW am cy (m_rej μ x y)) (sp_A am 5 sz)) 0 0 (sp_A am 5 sz) := by
  refine Met.ofW (cc := cX10_rejects) (maxL := 4) (ret := (some .boolean)) (by decide) rfl ?_
  intro p e s m args below meth c s₁ B hml hv
  obtain ⟨rfl, hsz, hP, hK⟩ := hv
  have hx := B.exec
  have hb := B.bytes
  have hr := B.returns
  have hts := atoms_spec (ws := wsX10_rejects) B.pre
  have hown : s.vm.findClass RX10 = some m.cls := findClass_of_methodNamed B.named
  have hlocks := B.notSynchronized
  subst hsz
  have hS : va_S (sp_A am 5 s.heap.size) s.heap s.heap [] := va_S.rf
  have hAk : ∀ k, k < 5 → (sp_A am 5 s.heap.size) (am k) := fun k hk => Or.inl ⟨k, hk, rfl⟩
  skip
  have hl := lv_entry ([.ref (am (0)), .int (1), .int (x), .int (y)]) (n := 4) (Nat.le_of_ble_eq_true rfl)
  refine W.eq (lg_entry_eq _ ([.ref (am (0)), .int (1), .int (x), .int (y)]) _) ?_
  generalize (lg_sl ([.ref (am (0)), .int (1), .int (x), .int (y)]) ++ List.replicate (4 - (lg_sl ([.ref (am (0)), .int (1), .int (x), .int (y)])).length) Slot.unset).toArray = ls at hl ⊢
  have hl : lv_has ls 4 [(0, .ref (am (0))), (1, .int (1)), (2, .int (x)), (3, .int (y))] := hl
  refine lv_iload_n hx hb dX10_rejects_0 rfl (lv_at hl 1 rfl) ?_
  refine lv_if_eq (tgt := 19) hx hb dX10_rejects_1 (by decide) (fun c_1 => ?_) (fun c_1 => ?_)
  · exact absurd c_1 (by decide)
  · skip
    refine lv_aload_n hx hb dX10_rejects_4 rfl (lv_at hl 0 rfl) ?_
    refine lv_iload_n hx hb dX10_rejects_5 rfl (lv_at hl 2 rfl) ?_
    refine sp_put hx hb hts wi_X10_rejects_1_X10 tyX10 tyX10_ok nmX10 hown hK hP hi hAk hS (κ := 0) (by decide) mE_0 rfl 5 (by decide) (hts _ (List.mem_of_getElem? (i := 1) rfl)) (fun _ h => h) rfl (ty := tyX10 5) (by decide +kernel) ⟨rfl, rfl⟩ (Nat.le_of_ble_eq_true rfl) (r1 := upd (μ 0) 5 x) (cE_of mE_0 (by simp [upd])) dX10_rejects_6 (fun H locs hP hS => ?_)
    have hP : va_P D vwCl (mW am cy (sp_st μ 0 5 x)) H := hP
    refine lv_aload_n hx hb dX10_rejects_9 rfl (lv_at hl 0 rfl) ?_
    refine lv_iload_n hx hb dX10_rejects_10 rfl (lv_at hl 3 rfl) ?_
    refine sp_put hx hb hts wi_X10_rejects_1_X10 tyX10 tyX10_ok nmX10 hown hK hP hi hAk hS (κ := 0) (by decide) mE_0 rfl 6 (by decide) (hts _ (List.mem_of_getElem? (i := 2) rfl)) (fun _ h => h) rfl (ty := tyX10 6) (by decide +kernel) ⟨rfl, rfl⟩ (Nat.le_of_ble_eq_true rfl) (r1 := upd ((sp_st μ 0 5 x) 0) 6 y) (cE_of mE_0 (by simp [upd])) dX10_rejects_11 (fun H locs hP hS => ?_)
    have hP : va_P D vwCl (mW am cy (sp_st (sp_st μ 0 5 x) 0 6 y)) H := hP
    refine lv_aload_n hx hb dX10_rejects_14 rfl (lv_at hl 0 rfl) ?_
    refine lv_iconst (v := 0) hx hb dX10_rejects_15 (by decide) ?_
    refine sp_put hx hb hts wi_X10_rejects_1_X10 tyX10 tyX10_ok nmX10 hown hK hP hi hAk hS (κ := 0) (by decide) mE_0 rfl 7 (by decide) (hts _ (List.mem_of_getElem? (i := 3) rfl)) (fun _ h => h) rfl (ty := tyX10 7) (by decide +kernel) ⟨rfl, rfl⟩ (Nat.le_of_ble_eq_true rfl) (r1 := upd ((sp_st (sp_st μ 0 5 x) 0 6 y) 0) 7 0) (cE_of mE_0 (by simp [upd])) dX10_rejects_16 (fun H locs hP hS => ?_)
    have hP : va_P D vwCl (mW am cy (sp_st (sp_st (sp_st μ 0 5 x) 0 6 y) 0 7 0)) H := hP
    refine lv_iload_n hx hb dX10_rejects_19 rfl (lv_at hl 1 rfl) ?_
    have hE9 : mW am cy (sp_st (sp_st (sp_st μ 0 5 x) 0 6 y) 0 7 0) = mW am cy (m_rej μ x y) := by first | rfl | exact mW_eq (by simp [])
    have hP : va_P D vwCl (mW am cy (m_rej μ x y)) H := by rw [← hE9]; exact hP
    exact W.zret (v := 1) hx hb hr (by decide) (fun T9 hT9 _ => ⟨congrArg (fun z9 => Outcome.returned (some (Value.int z9))) (show (1 : Int32) = 1 from (by first | rfl | (simp [b2i]; done))), by rw [hT9]; exact hP, hS.F hT9⟩) hS.2.2 dX10_rejects_20

set_option maxHeartbeats 4000000 in
set_option maxRecDepth 100000 in
theorem c_X10_rejects_0 (l : Launch) (D : va_G) (am : Nat → Nat) (cy : Nat → ClassId) (μ : Nat → Nat → Int32) (sz : Nat) (hi : sp_inj am 5) (x : Int32) (y : Int32) : Met l yX10_rejects wsX10_rejects ({ frames := 0, cells := 0, slots := 0, locals := 0 } : Room) (sp_Pm D (tyG cy) sz [.ref (am (0)), .int (0), .int (x), .int (y)] (mW am cy μ)) (sp_Q D (some (.int (0))) (mW am cy (μ)) (sp_A am 5 sz)) 0 0 (sp_A am 5 sz) := by
  refine Met.ofW (cc := cX10_rejects) (maxL := 4) (ret := (some .boolean)) (by decide) rfl ?_
  intro p e s m args below meth c s₁ B hml hv
  obtain ⟨rfl, hsz, hP, hK⟩ := hv
  have hx := B.exec
  have hb := B.bytes
  have hr := B.returns
  have hts := atoms_spec (ws := wsX10_rejects) B.pre
  have hown : s.vm.findClass RX10 = some m.cls := findClass_of_methodNamed B.named
  have hlocks := B.notSynchronized
  subst hsz
  have hS : va_S (sp_A am 5 s.heap.size) s.heap s.heap [] := va_S.rf
  have hAk : ∀ k, k < 5 → (sp_A am 5 s.heap.size) (am k) := fun k hk => Or.inl ⟨k, hk, rfl⟩
  skip
  have hl := lv_entry ([.ref (am (0)), .int (0), .int (x), .int (y)]) (n := 4) (Nat.le_of_ble_eq_true rfl)
  refine W.eq (lg_entry_eq _ ([.ref (am (0)), .int (0), .int (x), .int (y)]) _) ?_
  generalize (lg_sl ([.ref (am (0)), .int (0), .int (x), .int (y)]) ++ List.replicate (4 - (lg_sl ([.ref (am (0)), .int (0), .int (x), .int (y)])).length) Slot.unset).toArray = ls at hl ⊢
  have hl : lv_has ls 4 [(0, .ref (am (0))), (1, .int (0)), (2, .int (x)), (3, .int (y))] := hl
  refine lv_iload_n hx hb dX10_rejects_0 rfl (lv_at hl 1 rfl) ?_
  refine lv_if_eq (tgt := 19) hx hb dX10_rejects_1 (by decide) (fun c_1 => ?_) (fun c_1 => ?_)
  · skip
    refine lv_iload_n hx hb dX10_rejects_19 rfl (lv_at hl 1 rfl) ?_
    exact W.zret (v := 0) hx hb hr (by decide) (fun T9 hT9 _ => ⟨congrArg (fun z9 => Outcome.returned (some (Value.int z9))) (show (0 : Int32) = 0 from (by first | rfl | (simp [b2i]; done))), by rw [hT9]; exact hP, hS.F hT9⟩) hS.2.2 dX10_rejects_20
  · exact absurd c_1 (by decide)

theorem wi_X10_goes_X10 : ∀ w ∈ wsX100, w ∈ wsX10_goes := by decide +kernel
set_option maxHeartbeats 4000000 in
set_option maxRecDepth 100000 in
theorem c_X10_goes (l : Launch) (D : va_G) (am : Nat → Nat) (cy : Nat → ClassId) (μ : Nat → Nat → Int32) (sz : Nat) (hi : sp_inj am 5) (n : Nat) (t : Nat) (hM : MS (μ 1) n t) (a : Nat) (ha : a < n) : Met l yX10_goes wsX10_goes ({ frames := 1, cells := 0, slots := 0, locals := 23 } : Room) (sp_Pm D (tyG cy) sz [.ref (am (0)), .int (nI a)] (mW am cy μ)) (sp_Q D (none) (mW am cy (m_goes μ n a)) (sp_A am 5 sz)) 0 0 (sp_A am 5 sz) := by
  refine Met.ofW (cc := cX10_goes) (maxL := 4) (ret := none) (by decide) rfl ?_
  intro p e s m args below meth c s₁ B hml hv
  obtain ⟨rfl, hsz, hP, hK⟩ := hv
  have hx := B.exec
  have hb := B.bytes
  have hr := B.returns
  have hts := atoms_spec (ws := wsX10_goes) B.pre
  have hown : s.vm.findClass RX10 = some m.cls := findClass_of_methodNamed B.named
  have hlocks := B.notSynchronized
  subst hsz
  have hS : va_S (sp_A am 5 s.heap.size) s.heap s.heap [] := va_S.rf
  have hAk : ∀ k, k < 5 → (sp_A am 5 s.heap.size) (am k) := fun k hk => Or.inl ⟨k, hk, rfl⟩
  skip
  have hn30 := hM.2.1
  have ht6 := hM.2.2.2
  have hl := lv_entry ([.ref (am (0)), .int (nI a)]) (n := 4) (Nat.le_of_ble_eq_true rfl)
  refine W.eq (lg_entry_eq _ ([.ref (am (0)), .int (nI a)]) _) ?_
  generalize (lg_sl ([.ref (am (0)), .int (nI a)]) ++ List.replicate (4 - (lg_sl ([.ref (am (0)), .int (nI a)])).length) Slot.unset).toArray = ls at hl ⊢
  have hl : lv_has ls 4 [(0, .ref (am (0))), (1, .int (nI a))] := hl
  refine lv_aload_n hx hb dX10_goes_0 rfl (lv_at hl 0 rfl) ?_
  refine sp_get hx hb hts wi_X10_goes_X10 hown hK hP (κ := 0) (by decide) mE_0 rfl 1 (by decide) (hts _ (List.mem_of_getElem? (i := 1) rfl)) (fun _ h => h) rfl dX10_goes_1 ?_
  refine lv_iconst (v := 1) hx hb dX10_goes_4 (by decide) ?_
  refine sp_iald hx hb hK hP (κ := 1) (by decide) 1 mE_1 rfl 1 rfl (by omega) (by decide) dX10_goes_5 ?_
  refine W.eq (g2 := F0 m 6 ls [.int (nI n)]) (by rw [hM.1]) ?_
  refine lv_iconst (v := 1) hx hb dX10_goes_6 (by decide) ?_
  refine lv_isub hx hb dX10_goes_7 ?_
  refine lv_istore_n (lv' := [(2, .int ((nI n) - 1)), (0, .ref (am (0))), (1, .int (nI a))]) hx hb dX10_goes_8 rfl hl (by decide) rfl (fun ls hl => ?_)
  refine lv_bipush (v := 9) hx hb dX10_goes_9 (by decide) ?_
  refine lv_iload_n hx hb dX10_goes_11 rfl (lv_at hl 2 rfl) ?_
  refine lv_imul hx hb dX10_goes_12 ?_
  refine lv_istore_n (lv' := [(3, .int (9 * (nI a))), (2, .int ((nI n) - 1)), (0, .ref (am (0))), (1, .int (nI a))]) hx hb dX10_goes_13 rfl hl (by decide) rfl (fun ls hl => ?_)
  have hE3 : 9 * nI a = nI (9 * a) := nI_mulE rfl rfl
  rw [hE3] at hl
  have loop_14 : ∀ (fu i : Nat) (H : Heap) (locs : List Loc), (i ≤ 9 * (n - 1)) → (9 * (n - 1) - i < fu) → (9 * a ≤ i) → (va_P D vwCl (mW am cy (m_g1 μ a i)) H) → (va_S (sp_A am 5 s.heap.size) s.heap H locs) → ∀ ls : Array Slot, lv_has ls 4 [(3, .int (nI i)), (2, .int ((nI n) - 1)), (0, .ref (am (0))), (1, .int (nI a))] → W p l e (headSpec wsX10_goes ({ frames := 1, cells := 0, slots := 0, locals := 23 } : Room)).room s m ([.ref (am (0)), .int (nI a)] : List Value).toArray below meth c H locs 0 0 (MQ below (sp_Q D (none) (mW am cy (m_goes μ n a)) (sp_A am 5 s.heap.size)) ([.ref (am (0)), .int (nI a)] : List Value).toArray s 0 0 (sp_A am 5 s.heap.size)) (F0 m 14 ls []) := by
    intro fu
    induction fu with
    | zero => intro i H locs hle hlt hi_0 hP hS ls hl; exact absurd hlt (Nat.not_lt_zero _)
    | succ fu ih =>
      intro i H locs hle hlt hi_0 hP hS ls hl
      refine lv_iload_n hx hb dX10_goes_14 rfl (lv_at hl 0 rfl) ?_
      refine lv_bipush (v := 9) hx hb dX10_goes_15 (by decide) ?_
      refine lv_iload_n hx hb dX10_goes_17 rfl (lv_at hl 1 rfl) ?_
      refine lv_imul hx hb dX10_goes_18 ?_
      refine lv_icmp_ge (tgt := 49) hx hb dX10_goes_19 (by decide) (fun c_1 => ?_) (fun c_1 => ?_)
      · skip
        have c_1d := Int32.not_lt.mpr c_1
        rw [(show 9 * (nI n - 1) = nI (9 * (n - 1)) from nI_mulE rfl (nI_subE rfl rfl (by omega)))] at c_1
        have hx_i : i = 9 * (n - 1) := by have := (nI_leI (a := 9 * (n - 1)) (b := i) (by omega) (by omega)).mp c_1; omega
        try rw [hx_i] at hi_0
        refine lv_iconst (v := 0) hx hb dX10_goes_49 (by decide) ?_
        refine lv_istore_n (lv' := [(3, .int (0)), (2, .int ((nI n) - 1)), (0, .ref (am (0))), (1, .int (nI a))]) hx hb dX10_goes_50 rfl hl (by decide) rfl (fun ls hl => ?_)
        have loop_51 : ∀ (fu k : Nat) (H : Heap) (locs : List Loc), (k ≤ 9) → (9 - k < fu) → (va_P D vwCl (mW am cy (m_g2 μ n a k)) H) → (va_S (sp_A am 5 s.heap.size) s.heap H locs) → ∀ ls : Array Slot, lv_has ls 4 [(3, .int (nI k)), (2, .int ((nI n) - 1)), (0, .ref (am (0))), (1, .int (nI a))] → W p l e (headSpec wsX10_goes ({ frames := 1, cells := 0, slots := 0, locals := 23 } : Room)).room s m ([.ref (am (0)), .int (nI a)] : List Value).toArray below meth c H locs 0 0 (MQ below (sp_Q D (none) (mW am cy (m_goes μ n a)) (sp_A am 5 s.heap.size)) ([.ref (am (0)), .int (nI a)] : List Value).toArray s 0 0 (sp_A am 5 s.heap.size)) (F0 m 51 ls []) := by
          intro fu
          induction fu with
          | zero => intro k H locs hle hlt hP hS ls hl; exact absurd hlt (Nat.not_lt_zero _)
          | succ fu ih2 =>
            intro k H locs hle hlt hP hS ls hl
            refine lv_iload_n hx hb dX10_goes_51 rfl (lv_at hl 0 rfl) ?_
            refine lv_bipush (v := 9) hx hb dX10_goes_52 (by decide) ?_
            refine lv_icmp_ge (tgt := 70) hx hb dX10_goes_54 (by decide) (fun c_2 => ?_) (fun c_2 => ?_)
            · skip
              have c_2d := Int32.not_lt.mpr c_2
              have hx_k : k = 9 := by have := (nI_leI (a := 9) (b := k) (by omega) (by omega)).mp c_2; omega
              rw [hx_k] at hP
              refine lv_aload_n hx hb dX10_goes_70 rfl (lv_at hl 2 rfl) ?_
              refine sp_get hx hb hts wi_X10_goes_X10 hown hK hP (κ := 0) (by decide) mE_0 rfl 1 (by decide) (hts _ (List.mem_of_getElem? (i := 1) rfl)) (fun _ h => h) rfl dX10_goes_71 ?_
              refine lv_iconst (v := 1) hx hb dX10_goes_74 (by decide) ?_
              refine lv_iload_n hx hb dX10_goes_75 rfl (lv_at hl 1 rfl) ?_
              refine sp_iast hx hb hK hP hi hAk hS (κ := 1) (by decide) 1 mE_1 rfl 1 rfl (by omega) (by decide) (r1 := upd ((m_g2 μ n a 9) 1) 1 ((nI n) - 1)) mE_1 dX10_goes_76 (fun H locs hP hS => ?_)
              have hP : va_P D vwCl (mW am cy (sp_st (m_g2 μ n a 9) 1 1 ((nI n) - 1))) H := hP
              have hE9 : mW am cy (sp_st (m_g2 μ n a 9) 1 1 ((nI n) - 1)) = mW am cy (m_goes μ n a) := by exact mW_eq (by unfold m_goes; rw [show nI n - 1 = nI (n - 1) from nI_subE rfl rfl (by omega)])
              have hP : va_P D vwCl (mW am cy (m_goes μ n a)) H := by rw [← hE9]; exact hP
              exact W.vret hx hb hr (fun T9 hT9 _ => ⟨rfl, by rw [hT9]; exact hP, hS.F hT9⟩) hS.2.2 dX10_goes_77
            · skip
              have c_2d := Int32.not_le.mp c_2
              have hb_k : k < 9 := Nat.lt_of_not_le (fun z => c_2 (nI_le z (by omega)))
              refine lv_aload_n hx hb dX10_goes_57 rfl (lv_at hl 2 rfl) ?_
              refine lv_iload_n hx hb dX10_goes_58 rfl (lv_at hl 1 rfl) ?_
              refine lv_iload_n hx hb dX10_goes_59 rfl (lv_at hl 0 rfl) ?_
              refine lv_iconst (v := 0) hx hb dX10_goes_60 (by decide) ?_
              refine W.eq (g2 := F0 m 61 ls [.int (0), .int (nI k), .int (nI (n - 1)), .ref (am (0))]) (by rw [show ((nI n) - 1 : Int32) = nI (n - 1) from (nI_subE rfl rfl (by omega))]) ?_
              refine sp_callm (va_runV (As := [.int (nI (n - 1)), .int (nI k), .int (0)]) (rest := []) ⟨hx, hb, hml, hown, hts⟩ (c_X10_set l D am cy (m_g2 μ n a k) _ hi (n - 1) (by omega) k (by omega) 0) (cwV 3 hts gX10_goes_X10_set rfl rfl rfl (by decide +kernel) ⟨Nat.le_of_ble_eq_true rfl, Nat.le_of_ble_eq_true rfl⟩) (sp_preVm hK hP (κ := 0) (by decide) mE_0 rfl) rfl rfl hl.1 rfl (lv_room (Nat.le_of_ble_eq_true rfl)) dX10_goes_61 ⟨Nat.le_of_ble_eq_true rfl, Nat.le_of_ble_eq_true rfl⟩) hS (fun q h1 h2 => sp_Alt h1 h2) (sp_Ale hS.1) (fun H locs hP hle hfr hS => ?_)
              refine W.eq (g2 := F0 m 64 ls []) rfl ?_
              refine lv_iinc (v := nI (k + 1)) (lv' := [(3, .int (nI (k + 1))), (2, .int ((nI n) - 1)), (0, .ref (am (0))), (1, .int (nI a))]) hx hb dX10_goes_64 hl (k := 0) rfl (nI_1 _) (by decide) rfl (fun ls hl => ?_)
              refine lv_goto (tgt := 51) hx hb dX10_goes_67 (by decide) ?_
              exact ih2 (k + 1)  _ _ (by omega) (by omega)  ((show mW am cy (sp_st (m_g2 μ n a k) 1 (19 + 9 * (n - 1) + k) 0) = mW am cy (m_g2 μ n a (k + 1)) from (by exact mW_eq (m_g2_s (by omega)))) ▸ hP) hS ls (lv_sub hl [0, 1, 2, 3] rfl)
        exact loop_51 (9 + 1) (0)  _ _ (by omega) (by omega)  ((show mW am cy (m_g1 μ a i) = mW am cy (m_g2 μ n a 0) from (by rw [hx_i]; exact mW_eq (m_g2_0 μ n a).symm)) ▸ hP) hS ls (lv_sub hl [0, 1, 2, 3] rfl)
      · skip
        have c_1d := Int32.not_le.mp c_1
        rw [(show 9 * (nI n - 1) = nI (9 * (n - 1)) from nI_mulE rfl (nI_subE rfl rfl (by omega)))] at c_1
        have hb_i : i < 9 * (n - 1) := Nat.lt_of_not_le (fun z => c_1 (nI_le z (by omega)))
        refine lv_aload_n hx hb dX10_goes_22 rfl (lv_at hl 2 rfl) ?_
        refine sp_get hx hb hts wi_X10_goes_X10 hown hK hP (κ := 0) (by decide) mE_0 rfl 1 (by decide) (hts _ (List.mem_of_getElem? (i := 1) rfl)) (fun _ h => h) rfl dX10_goes_23 ?_
        refine lv_bipush (v := 19) hx hb dX10_goes_26 (by decide) ?_
        refine lv_iload_n hx hb dX10_goes_28 rfl (lv_at hl 0 rfl) ?_
        refine lv_iadd hx hb dX10_goes_29 ?_
        refine lv_aload_n hx hb dX10_goes_30 rfl (lv_at hl 2 rfl) ?_
        refine sp_get hx hb hts wi_X10_goes_X10 hown hK hP (κ := 0) (by decide) mE_0 rfl 1 (by decide) (hts _ (List.mem_of_getElem? (i := 1) rfl)) (fun _ h => h) rfl dX10_goes_31 ?_
        refine lv_bipush (v := 19) hx hb dX10_goes_34 (by decide) ?_
        refine lv_iload_n hx hb dX10_goes_36 rfl (lv_at hl 0 rfl) ?_
        refine lv_iadd hx hb dX10_goes_37 ?_
        refine lv_bipush (v := 9) hx hb dX10_goes_38 (by decide) ?_
        refine lv_iadd hx hb dX10_goes_40 ?_
        refine sp_iald hx hb hK hP (κ := 1) (by decide) 1 mE_1 rfl ((19 + i) + 9) (nI_addE (nI_addE rfl rfl) rfl) (by omega) (by decide) dX10_goes_41 ?_
        refine sp_iast hx hb hK hP hi hAk hS (κ := 1) (by decide) 1 mE_1 rfl (19 + i) (nI_addE rfl rfl) (by omega) (by decide) (r1 := upd ((m_g1 μ a i) 1) (19 + i) (m_g1 μ a i 1 ((19 + i) + 9))) mE_1 dX10_goes_42 (fun H locs hP hS => ?_)
        have hP : va_P D vwCl (mW am cy (sp_st (m_g1 μ a i) 1 (19 + i) (m_g1 μ a i 1 ((19 + i) + 9)))) H := hP
        refine lv_iinc (v := nI (i + 1)) (lv' := [(3, .int (nI (i + 1))), (2, .int ((nI n) - 1)), (0, .ref (am (0))), (1, .int (nI a))]) hx hb dX10_goes_43 hl (k := 0) rfl (nI_1 _) (by decide) rfl (fun ls hl => ?_)
        refine lv_goto (tgt := 14) hx hb dX10_goes_46 (by decide) ?_
        exact ih (i + 1)  _ _ (by omega) (by omega) (by omega) ((show mW am cy (sp_st (m_g1 μ a i) 1 (19 + i) (m_g1 μ a i 1 ((19 + i) + 9))) = mW am cy (m_g1 μ a (i + 1)) from (by exact mW_eq (m_g1_s (by omega)))) ▸ hP) hS ls (lv_sub hl [0, 1, 2, 3] rfl)
  exact loop_14 (9 * (n - 1) + 1) (9 * a)  _ _ (by omega) (by omega) (Nat.le_refl _) ((show mW am cy (μ) = mW am cy (m_g1 μ a (9 * a)) from (by exact mW_eq (m_g1_0 μ a).symm)) ▸ hP) hS ls (lv_sub hl [0, 1, 2, 3] rfl)

theorem wi_X10_addsTrack_X10 : ∀ w ∈ wsX100, w ∈ wsX10_addsTrack := by decide +kernel
set_option maxHeartbeats 4000000 in
set_option maxRecDepth 100000 in
theorem c_X10_addsTrack (l : Launch) (D : va_G) (am : Nat → Nat) (cy : Nat → ClassId) (μ : Nat → Nat → Int32) (sz : Nat) (hi : sp_inj am 5) (n : Nat) (t : Nat) (hM : MS (μ 1) n t) (z : Int32) : Met l yX10_addsTrack wsX10_addsTrack ({ frames := 1, cells := 0, slots := 0, locals := 23 } : Room) (sp_Pm D (tyG cy) sz [.ref (am (0)), .int (z)] (mW am cy μ)) (sp_Q D (some (.int (m_addTv t z))) (mW am cy (m_addT μ t z)) (sp_A am 5 sz)) 0 0 (sp_A am 5 sz) := by
  refine Met.ofW (cc := cX10_addsTrack) (maxL := 3) (ret := (some .int)) (by decide) rfl ?_
  intro p e s m args below meth c s₁ B hml hv
  obtain ⟨rfl, hsz, hP, hK⟩ := hv
  have hx := B.exec
  have hb := B.bytes
  have hr := B.returns
  have hts := atoms_spec (ws := wsX10_addsTrack) B.pre
  have hown : s.vm.findClass RX10 = some m.cls := findClass_of_methodNamed B.named
  have hlocks := B.notSynchronized
  subst hsz
  have hS : va_S (sp_A am 5 s.heap.size) s.heap s.heap [] := va_S.rf
  have hAk : ∀ k, k < 5 → (sp_A am 5 s.heap.size) (am k) := fun k hk => Or.inl ⟨k, hk, rfl⟩
  skip
  have hn30 := hM.2.1
  have ht6 := hM.2.2.2
  have hl := lv_entry ([.ref (am (0)), .int (z)]) (n := 3) (Nat.le_of_ble_eq_true rfl)
  refine W.eq (lg_entry_eq _ ([.ref (am (0)), .int (z)]) _) ?_
  generalize (lg_sl ([.ref (am (0)), .int (z)]) ++ List.replicate (3 - (lg_sl ([.ref (am (0)), .int (z)])).length) Slot.unset).toArray = ls at hl ⊢
  have hl : lv_has ls 3 [(0, .ref (am (0))), (1, .int (z))] := hl
  refine lv_iload_n hx hb dX10_addsTrack_0 rfl (lv_at hl 1 rfl) ?_
  refine lv_iconst (v := 1) hx hb dX10_addsTrack_1 (by decide) ?_
  refine lv_bipush (v := 9) hx hb dX10_addsTrack_2 (by decide) ?_
  refine sp_call (W.runS (As := [.int (z), .int (1), .int (9)]) (rest := []) ⟨hx, hb, hml, hown, hts⟩ (c_X10_in l D am cy μ z 1 9) (va_cwS 3 hts gX10_addsTrack_X10_in rfl rfl rfl (by decide +kernel) ⟨Nat.le_of_ble_eq_true rfl, Nat.le_of_ble_eq_true rfl⟩) (sp_preS hK hP) rfl rfl hl.1 rfl (lv_room (Nat.le_of_ble_eq_true rfl)) dX10_addsTrack_4 ⟨Nat.le_of_ble_eq_true rfl, Nat.le_of_ble_eq_true rfl⟩) ?_
  refine W.eq (g2 := F0 m 7 ls [.int (b2i (m_in z 1 9))]) rfl ?_
  refine lv_if_ne (tgt := 12) hx hb dX10_addsTrack_7 (by decide) (fun c_1 => ?_) (fun c_1 => ?_)
  · rw [b2i_eq0] at c_1
    refine lv_aload_n hx hb dX10_addsTrack_12 rfl (lv_at hl 0 rfl) ?_
    refine sp_get hx hb hts wi_X10_addsTrack_X10 hown hK hP (κ := 0) (by decide) mE_0 rfl 1 (by decide) (hts _ (List.mem_of_getElem? (i := 1) rfl)) (fun _ h => h) rfl dX10_addsTrack_13 ?_
    refine lv_iconst (v := 0) hx hb dX10_addsTrack_16 (by decide) ?_
    refine sp_iald hx hb hK hP (κ := 1) (by decide) 1 mE_1 rfl 0 rfl (by omega) (by decide) dX10_addsTrack_17 ?_
    refine W.eq (g2 := F0 m 18 ls [.int (nI t)]) (by rw [hM.2.2.1]) ?_
    refine lv_istore_n (lv' := [(2, .int (nI t)), (0, .ref (am (0))), (1, .int (z))]) hx hb dX10_addsTrack_18 rfl hl (by decide) rfl (fun ls hl => ?_)
    refine lv_aload_n hx hb dX10_addsTrack_19 rfl (lv_at hl 1 rfl) ?_
    refine lv_iload_n hx hb dX10_addsTrack_20 rfl (lv_at hl 0 rfl) ?_
    refine lv_bipush (v := 6) hx hb dX10_addsTrack_21 (by decide) ?_
    refine lv_icmp_ne (tgt := 30) hx hb dX10_addsTrack_23 (by decide) (fun c_2 => ?_) (fun c_2 => ?_)
    · skip
      refine lv_iconst (v := 0) hx hb dX10_addsTrack_30 (by decide) ?_
      refine lv_iconst (v := 1) hx hb dX10_addsTrack_31 (by decide) ?_
      refine lv_bipush (v := 6) hx hb dX10_addsTrack_32 (by decide) ?_
      refine sp_callm (va_runV (As := [.int (0), .int (1), .int (6)]) (rest := []) ⟨hx, hb, hml, hown, hts⟩ (c_X10_rejects_0 l D am cy μ _ hi 1 6) (cwV 3 hts gX10_addsTrack_X10_rejects rfl rfl rfl (by decide +kernel) ⟨Nat.le_of_ble_eq_true rfl, Nat.le_of_ble_eq_true rfl⟩) (sp_preVm hK hP (κ := 0) (by decide) mE_0 rfl) rfl rfl hl.1 rfl (lv_room (Nat.le_of_ble_eq_true rfl)) dX10_addsTrack_34 ⟨Nat.le_of_ble_eq_true rfl, Nat.le_of_ble_eq_true rfl⟩) hS (fun q h1 h2 => sp_Alt h1 h2) (sp_Ale hS.1) (fun H locs hP hle hfr hS => ?_)
      refine W.eq (g2 := F0 m 37 ls [.int (0)]) rfl ?_
      refine lv_if_eq (tgt := 42) hx hb dX10_addsTrack_37 (by decide) (fun c_3 => ?_) (fun c_3 => ?_)
      · skip
        refine lv_aload_n hx hb dX10_addsTrack_42 rfl (lv_at hl 1 rfl) ?_
        refine lv_aload_n hx hb dX10_addsTrack_43 rfl (lv_at hl 1 rfl) ?_
        refine sp_get hx hb hts wi_X10_addsTrack_X10 hown hK hP (κ := 0) (by decide) mE_0 rfl 1 (by decide) (hts _ (List.mem_of_getElem? (i := 1) rfl)) (fun _ h => h) rfl dX10_addsTrack_44 ?_
        refine lv_iconst (v := 2) hx hb dX10_addsTrack_47 (by decide) ?_
        refine sp_iald hx hb hK hP (κ := 1) (by decide) 1 mE_1 rfl 2 rfl (by omega) (by decide) dX10_addsTrack_48 ?_
        refine sp_put hx hb hts wi_X10_addsTrack_X10 tyX10 tyX10_ok nmX10 hown hK hP hi hAk hS (κ := 0) (by decide) mE_0 rfl 4 (by decide) (hts _ (List.mem_of_getElem? (i := 2) rfl)) (fun _ h => h) rfl (ty := tyX10 4) (by decide +kernel) ⟨rfl, rfl⟩ (Nat.le_of_ble_eq_true rfl) (r1 := upd (μ 0) 4 (μ 1 2)) (cE_of mE_0 (by simp [upd])) dX10_addsTrack_49 (fun H locs hP hS => ?_)
        have hP : va_P D vwCl (mW am cy (sp_st μ 0 4 (μ 1 2))) H := hP
        refine lv_aload_n hx hb dX10_addsTrack_52 rfl (lv_at hl 1 rfl) ?_
        refine sp_get hx hb hts wi_X10_addsTrack_X10 hown hK hP (κ := 0) (by decide) mE_0 rfl 1 (by decide) (hts _ (List.mem_of_getElem? (i := 1) rfl)) (fun _ h => h) rfl dX10_addsTrack_53 ?_
        refine lv_iconst (v := 2) hx hb dX10_addsTrack_56 (by decide) ?_
        refine lv_dup2_11 hx hb dX10_addsTrack_57 rfl rfl ?_
        refine sp_iald hx hb hK hP (κ := 1) (by decide) 1 mE_1 rfl 2 rfl (by omega) (by decide) dX10_addsTrack_58 ?_
        refine W.eq (g2 := F0 m 59 ls [.int (μ 1 2), .int (2), .ref (am (1))]) (by rw [sp_st_k _ _ _ _ _ _ (by decide)]) ?_
        refine lv_iconst (v := 1) hx hb dX10_addsTrack_59 (by decide) ?_
        refine lv_iadd hx hb dX10_addsTrack_60 ?_
        refine sp_iast hx hb hK hP hi hAk hS (κ := 1) (by decide) 1 mE_1 rfl 2 rfl (by omega) (by decide) (r1 := upd ((sp_st μ 0 4 (μ 1 2)) 1) 2 ((μ 1 2) + 1)) mE_1 dX10_addsTrack_61 (fun H locs hP hS => ?_)
        have hP : va_P D vwCl (mW am cy (sp_st (sp_st μ 0 4 (μ 1 2)) 1 2 ((μ 1 2) + 1))) H := hP
        refine lv_aload_n hx hb dX10_addsTrack_62 rfl (lv_at hl 1 rfl) ?_
        refine sp_get hx hb hts wi_X10_addsTrack_X10 hown hK hP (κ := 0) (by decide) mE_0 rfl 1 (by decide) (hts _ (List.mem_of_getElem? (i := 1) rfl)) (fun _ h => h) rfl dX10_addsTrack_63 ?_
        refine lv_iconst (v := 0) hx hb dX10_addsTrack_66 (by decide) ?_
        refine lv_dup2_11 hx hb dX10_addsTrack_67 rfl rfl ?_
        refine sp_iald hx hb hK hP (κ := 1) (by decide) 1 mE_1 rfl 0 rfl (by omega) (by decide) dX10_addsTrack_68 ?_
        refine W.eq (g2 := F0 m 69 ls [.int (μ 1 0), .int (0), .ref (am (1))]) (by rw [sp_st_j _ _ _ _ _ _ (by decide), sp_st_k _ _ _ _ _ _ (by decide)]) ?_
        refine W.eq (g2 := F0 m 69 ls [.int (nI t), .int (0), .ref (am (1))]) (by rw [hM.2.2.1]) ?_
        refine lv_iconst (v := 1) hx hb dX10_addsTrack_69 (by decide) ?_
        refine lv_iadd hx hb dX10_addsTrack_70 ?_
        refine sp_iast hx hb hK hP hi hAk hS (κ := 1) (by decide) 1 mE_1 rfl 0 rfl (by omega) (by decide) (r1 := upd ((sp_st (sp_st μ 0 4 (μ 1 2)) 1 2 ((μ 1 2) + 1)) 1) 0 ((nI t) + 1)) mE_1 dX10_addsTrack_71 (fun H locs hP hS => ?_)
        have hP : va_P D vwCl (mW am cy (sp_st (sp_st (sp_st μ 0 4 (μ 1 2)) 1 2 ((μ 1 2) + 1)) 1 0 ((nI t) + 1))) H := hP
        refine lv_aload_n hx hb dX10_addsTrack_72 rfl (lv_at hl 1 rfl) ?_
        refine sp_get hx hb hts wi_X10_addsTrack_X10 hown hK hP (κ := 0) (by decide) mE_0 rfl 1 (by decide) (hts _ (List.mem_of_getElem? (i := 1) rfl)) (fun _ h => h) rfl dX10_addsTrack_73 ?_
        refine lv_bipush (v := 7) hx hb dX10_addsTrack_76 (by decide) ?_
        refine lv_iconst (v := 2) hx hb dX10_addsTrack_78 (by decide) ?_
        refine lv_iload_n hx hb dX10_addsTrack_79 rfl (lv_at hl 0 rfl) ?_
        refine lv_imul hx hb dX10_addsTrack_80 ?_
        refine lv_iadd hx hb dX10_addsTrack_81 ?_
        refine lv_aload_n hx hb dX10_addsTrack_82 rfl (lv_at hl 1 rfl) ?_
        refine sp_get hx hb hts wi_X10_addsTrack_X10 hown hK hP (κ := 0) (by decide) mE_0 rfl 4 (by decide) (hts _ (List.mem_of_getElem? (i := 2) rfl)) (fun _ h => h) rfl dX10_addsTrack_83 ?_
        refine W.eq (g2 := F0 m 86 ls [.int (μ 1 2), .int (7 + (2 * (nI t))), .ref (am (1))]) (by rw [sp_st_k _ _ _ _ _ _ (by omega), sp_st_k _ _ _ _ _ _ (by omega), sp_st_s]) ?_
        refine sp_iast hx hb hK hP hi hAk hS (κ := 1) (by decide) 1 mE_1 rfl (7 + (2 * t)) (nI_addE rfl (nI_mulE rfl rfl)) (by omega) (by decide) (r1 := upd ((sp_st (sp_st (sp_st μ 0 4 (μ 1 2)) 1 2 ((μ 1 2) + 1)) 1 0 ((nI t) + 1)) 1) (7 + (2 * t)) (μ 1 2)) mE_1 dX10_addsTrack_86 (fun H locs hP hS => ?_)
        have hP : va_P D vwCl (mW am cy (sp_st (sp_st (sp_st (sp_st μ 0 4 (μ 1 2)) 1 2 ((μ 1 2) + 1)) 1 0 ((nI t) + 1)) 1 (7 + (2 * t)) (μ 1 2))) H := hP
        refine lv_aload_n hx hb dX10_addsTrack_87 rfl (lv_at hl 1 rfl) ?_
        refine sp_get hx hb hts wi_X10_addsTrack_X10 hown hK hP (κ := 0) (by decide) mE_0 rfl 1 (by decide) (hts _ (List.mem_of_getElem? (i := 1) rfl)) (fun _ h => h) rfl dX10_addsTrack_88 ?_
        refine lv_bipush (v := 7) hx hb dX10_addsTrack_91 (by decide) ?_
        refine lv_iconst (v := 2) hx hb dX10_addsTrack_93 (by decide) ?_
        refine lv_iload_n hx hb dX10_addsTrack_94 rfl (lv_at hl 0 rfl) ?_
        refine lv_imul hx hb dX10_addsTrack_95 ?_
        refine lv_iadd hx hb dX10_addsTrack_96 ?_
        refine lv_iconst (v := 1) hx hb dX10_addsTrack_97 (by decide) ?_
        refine lv_iadd hx hb dX10_addsTrack_98 ?_
        refine lv_iload_n hx hb dX10_addsTrack_99 rfl (lv_at hl 2 rfl) ?_
        refine sp_iast hx hb hK hP hi hAk hS (κ := 1) (by decide) 1 mE_1 rfl ((7 + (2 * t)) + 1) (nI_addE (nI_addE rfl (nI_mulE rfl rfl)) rfl) (by omega) (by decide) (r1 := upd ((sp_st (sp_st (sp_st (sp_st μ 0 4 (μ 1 2)) 1 2 ((μ 1 2) + 1)) 1 0 ((nI t) + 1)) 1 (7 + (2 * t)) (μ 1 2)) 1) ((7 + (2 * t)) + 1) z) mE_1 dX10_addsTrack_100 (fun H locs hP hS => ?_)
        have hP : va_P D vwCl (mW am cy (sp_st (sp_st (sp_st (sp_st (sp_st μ 0 4 (μ 1 2)) 1 2 ((μ 1 2) + 1)) 1 0 ((nI t) + 1)) 1 (7 + (2 * t)) (μ 1 2)) 1 ((7 + (2 * t)) + 1) z)) H := hP
        refine lv_iconst (v := 0) hx hb dX10_addsTrack_101 (by decide) ?_
        have hE9 : mW am cy (sp_st (sp_st (sp_st (sp_st (sp_st μ 0 4 (μ 1 2)) 1 2 ((μ 1 2) + 1)) 1 0 ((nI t) + 1)) 1 (7 + (2 * t)) (μ 1 2)) 1 ((7 + (2 * t)) + 1) z) = mW am cy (m_addT μ t z) := by exact mW_eq (by simp [m_addT, b2i, m_addTv, c_1, c_2])
        have hP : va_P D vwCl (mW am cy (m_addT μ t z)) H := by rw [← hE9]; exact hP
        exact W.iret (v := 0) hx hb hr (fun T9 hT9 _ => ⟨congrArg (fun z9 => Outcome.returned (some (Value.int z9))) (show (0 : Int32) = m_addTv t z from (by first | rfl | (simp [m_addTv, b2i, c_1, c_2]; done))), by rw [hT9]; exact hP, hS.F hT9⟩) hS.2.2 dX10_addsTrack_102
      · exact absurd c_3 (by decide)
    · skip
      refine lv_iconst (v := 1) hx hb dX10_addsTrack_26 (by decide) ?_
      refine lv_goto (tgt := 31) hx hb dX10_addsTrack_27 (by decide) ?_
      refine lv_iconst (v := 1) hx hb dX10_addsTrack_31 (by decide) ?_
      refine lv_bipush (v := 6) hx hb dX10_addsTrack_32 (by decide) ?_
      refine sp_callm (va_runV (As := [.int (1), .int (1), .int (6)]) (rest := []) ⟨hx, hb, hml, hown, hts⟩ (c_X10_rejects_1 l D am cy μ _ hi 1 6) (cwV 3 hts gX10_addsTrack_X10_rejects rfl rfl rfl (by decide +kernel) ⟨Nat.le_of_ble_eq_true rfl, Nat.le_of_ble_eq_true rfl⟩) (sp_preVm hK hP (κ := 0) (by decide) mE_0 rfl) rfl rfl hl.1 rfl (lv_room (Nat.le_of_ble_eq_true rfl)) dX10_addsTrack_34 ⟨Nat.le_of_ble_eq_true rfl, Nat.le_of_ble_eq_true rfl⟩) hS (fun q h1 h2 => sp_Alt h1 h2) (sp_Ale hS.1) (fun H locs hP hle hfr hS => ?_)
      refine W.eq (g2 := F0 m 37 ls [.int (1)]) rfl ?_
      refine lv_if_eq (tgt := 42) hx hb dX10_addsTrack_37 (by decide) (fun c_4 => ?_) (fun c_4 => ?_)
      · exact absurd c_4 (by decide)
      · skip
        refine lv_iconst (v := 3) hx hb dX10_addsTrack_40 (by decide) ?_
        have hE9 : mW am cy (m_rej μ 1 6) = mW am cy (m_addT μ t z) := by exact mW_eq (by simp [m_addT, b2i, m_addTv, c_1, c_2])
        have hP : va_P D vwCl (mW am cy (m_addT μ t z)) H := by rw [← hE9]; exact hP
        exact W.iret (v := 3) hx hb hr (fun T9 hT9 _ => ⟨congrArg (fun z9 => Outcome.returned (some (Value.int z9))) (show (3 : Int32) = m_addTv t z from (by first | rfl | (simp [m_addTv, b2i, c_1, c_2]; done))), by rw [hT9]; exact hP, hS.F hT9⟩) hS.2.2 dX10_addsTrack_41
  · rw [b2i_eq0] at c_1
    refine lv_iconst (v := 2) hx hb dX10_addsTrack_10 (by decide) ?_
    have hE9 : mW am cy (μ) = mW am cy (m_addT μ t z) := by exact mW_eq (by simp [m_addT, b2i, m_addTv, c_1])
    have hP : va_P D vwCl (mW am cy (m_addT μ t z)) s.heap := by rw [← hE9]; exact hP
    exact W.iret (v := 2) hx hb hr (fun T9 hT9 _ => ⟨congrArg (fun z9 => Outcome.returned (some (Value.int z9))) (show (2 : Int32) = m_addTv t z from (by first | rfl | (simp [m_addTv, b2i, c_1]; done))), by rw [hT9]; exact hP, hS.F hT9⟩) hS.2.2 dX10_addsTrack_11

theorem wi_X10_swapsFoot_X10 : ∀ w ∈ wsX100, w ∈ wsX10_swapsFoot := by decide +kernel
set_option maxHeartbeats 4000000 in
set_option maxRecDepth 100000 in
theorem c_X10_swapsFoot (l : Launch) (D : va_G) (am : Nat → Nat) (cy : Nat → ClassId) (μ : Nat → Nat → Int32) (sz : Nat) (hi : sp_inj am 5) (n : Nat) (t : Nat) (hM : MS (μ 1) n t) (x : Int32) : Met l yX10_swapsFoot wsX10_swapsFoot ({ frames := 2, cells := 0, slots := 0, locals := 44 } : Room) (sp_Pm D (tyG cy) sz [.ref (am (0)), .int (x)] (mW am cy μ)) (sp_Q D (some (.int (m_by (m_find (μ 1) n x)))) (mW am cy (m_swap μ n x)) (sp_A am 5 sz)) 0 0 (sp_A am 5 sz) := by
  refine Met.ofW (cc := cX10_swapsFoot) (maxL := 3) (ret := (some .int)) (by decide) rfl ?_
  intro p e s m args below meth c s₁ B hml hv
  obtain ⟨rfl, hsz, hP, hK⟩ := hv
  have hx := B.exec
  have hb := B.bytes
  have hr := B.returns
  have hts := atoms_spec (ws := wsX10_swapsFoot) B.pre
  have hown : s.vm.findClass RX10 = some m.cls := findClass_of_methodNamed B.named
  have hlocks := B.notSynchronized
  subst hsz
  have hS : va_S (sp_A am 5 s.heap.size) s.heap s.heap [] := va_S.rf
  have hAk : ∀ k, k < 5 → (sp_A am 5 s.heap.size) (am k) := fun k hk => Or.inl ⟨k, hk, rfl⟩
  skip
  have hn30 := hM.2.1
  have ht6 := hM.2.2.2
  have hl := lv_entry ([.ref (am (0)), .int (x)]) (n := 3) (Nat.le_of_ble_eq_true rfl)
  refine W.eq (lg_entry_eq _ ([.ref (am (0)), .int (x)]) _) ?_
  generalize (lg_sl ([.ref (am (0)), .int (x)]) ++ List.replicate (3 - (lg_sl ([.ref (am (0)), .int (x)])).length) Slot.unset).toArray = ls at hl ⊢
  have hl : lv_has ls 3 [(0, .ref (am (0))), (1, .int (x))] := hl
  refine lv_aload_n hx hb dX10_swapsFoot_0 rfl (lv_at hl 0 rfl) ?_
  refine lv_iload_n hx hb dX10_swapsFoot_1 rfl (lv_at hl 1 rfl) ?_
  refine sp_call (W.runV (As := [.int (x)]) (rest := []) ⟨hx, hb, hml, hown, hts⟩ (c_X10_find l D am cy μ n t (by first | exact hM | exact hi_0 | (repeat first | exact hM | exact hi_0 | refine MS.st0 ?_ | refine MS.st ?_ (by omega))) x) (cwV 1 hts gX10_swapsFoot_X10_find rfl rfl rfl (by decide +kernel) ⟨Nat.le_of_ble_eq_true rfl, Nat.le_of_ble_eq_true rfl⟩) (sp_preV hK hP (κ := 0) (by decide) mE_0 rfl) rfl rfl hl.1 rfl (lv_room (Nat.le_of_ble_eq_true rfl)) dX10_swapsFoot_2 ⟨Nat.le_of_ble_eq_true rfl, Nat.le_of_ble_eq_true rfl⟩) ?_
  rcases opt_em (m_find (μ 1) n x) with q_1 | ⟨j_2, q_1⟩
  · refine W.eq (g2 := F0 m 5 ls [.int ((-1))]) (by rw [q_1]; rfl) ?_
    refine lv_istore_n (lv' := [(2, .int ((-1))), (0, .ref (am (0))), (1, .int (x))]) hx hb dX10_swapsFoot_5 rfl hl (by decide) rfl (fun ls hl => ?_)
    refine lv_iload_n hx hb dX10_swapsFoot_6 rfl (lv_at hl 0 rfl) ?_
    refine lv_if_ge (tgt := 12) hx hb dX10_swapsFoot_7 (by decide) (fun c_3 => ?_) (fun c_3 => ?_)
    · exact absurd c_3 (by decide)
    · skip
      refine lv_iconst (v := 1) hx hb dX10_swapsFoot_10 (by decide) ?_
      have hE9 : mW am cy (μ) = mW am cy (m_swap μ n x) := by exact mW_eq (by simp [m_swap, atO, b2i, m_by, q_1])
      have hP : va_P D vwCl (mW am cy (m_swap μ n x)) s.heap := by rw [← hE9]; exact hP
      exact W.iret (v := 1) hx hb hr (fun T9 hT9 _ => ⟨congrArg (fun z9 => Outcome.returned (some (Value.int z9))) (show (1 : Int32) = m_by (m_find (μ 1) n x) from (by first | rfl | (simp [m_by, b2i, q_1]; done))), by rw [hT9]; exact hP, hS.F hT9⟩) hS.2.2 dX10_swapsFoot_11
  · have hj_2 := m_find_lt q_1
    refine W.eq (g2 := F0 m 5 ls [.int (nI j_2)]) (by rw [q_1]; rfl) ?_
    refine lv_istore_n (lv' := [(2, .int (nI j_2)), (0, .ref (am (0))), (1, .int (x))]) hx hb dX10_swapsFoot_5 rfl hl (by decide) rfl (fun ls hl => ?_)
    refine lv_iload_n hx hb dX10_swapsFoot_6 rfl (lv_at hl 0 rfl) ?_
    refine lv_if_ge (tgt := 12) hx hb dX10_swapsFoot_7 (by decide) (fun c_4 => ?_) (fun c_4 => ?_)
    · skip
      have c_4d := Int32.not_lt.mpr c_4
      refine lv_aload_n hx hb dX10_swapsFoot_12 rfl (lv_at hl 1 rfl) ?_
      refine lv_iconst (v := 1) hx hb dX10_swapsFoot_13 (by decide) ?_
      refine lv_aload_n hx hb dX10_swapsFoot_14 rfl (lv_at hl 1 rfl) ?_
      refine lv_iload_n hx hb dX10_swapsFoot_15 rfl (lv_at hl 0 rfl) ?_
      refine lv_iconst (v := 5) hx hb dX10_swapsFoot_16 (by decide) ?_
      refine sp_call (W.runV (As := [.int (nI j_2), .int (5)]) (rest := [.int (1), .ref (am (0))]) ⟨hx, hb, hml, hown, hts⟩ (c_X10_p l D am cy μ j_2 (by omega) 5 (by omega)) (cwV 2 hts gX10_swapsFoot_X10_p rfl rfl rfl (by decide +kernel) ⟨Nat.le_of_ble_eq_true rfl, Nat.le_of_ble_eq_true rfl⟩) (sp_preV hK hP (κ := 0) (by decide) mE_0 rfl) rfl rfl hl.1 rfl (lv_room (Nat.le_of_ble_eq_true rfl)) dX10_swapsFoot_17 ⟨Nat.le_of_ble_eq_true rfl, Nat.le_of_ble_eq_true rfl⟩) ?_
      refine W.eq (g2 := F0 m 20 ls [.int (gP (μ 1) j_2 5), .int (1), .ref (am (0))]) rfl ?_
      refine lv_isub hx hb dX10_swapsFoot_20 ?_
      refine sp_put hx hb hts wi_X10_swapsFoot_X10 tyX10 tyX10_ok nmX10 hown hK hP hi hAk hS (κ := 0) (by decide) mE_0 rfl 4 (by decide) (hts _ (List.mem_of_getElem? (i := 1) rfl)) (fun _ h => h) rfl (ty := tyX10 4) (by decide +kernel) ⟨rfl, rfl⟩ (Nat.le_of_ble_eq_true rfl) (r1 := upd (μ 0) 4 (1 - (gP (μ 1) j_2 5))) (cE_of mE_0 (by simp [upd])) dX10_swapsFoot_21 (fun H locs hP hS => ?_)
      have hP : va_P D vwCl (mW am cy (sp_st μ 0 4 (1 - (gP (μ 1) j_2 5)))) H := hP
      refine lv_aload_n hx hb dX10_swapsFoot_24 rfl (lv_at hl 1 rfl) ?_
      refine lv_iload_n hx hb dX10_swapsFoot_25 rfl (lv_at hl 0 rfl) ?_
      refine lv_iconst (v := 5) hx hb dX10_swapsFoot_26 (by decide) ?_
      refine lv_aload_n hx hb dX10_swapsFoot_27 rfl (lv_at hl 1 rfl) ?_
      refine sp_get hx hb hts wi_X10_swapsFoot_X10 hown hK hP (κ := 0) (by decide) mE_0 rfl 4 (by decide) (hts _ (List.mem_of_getElem? (i := 1) rfl)) (fun _ h => h) rfl dX10_swapsFoot_28 ?_
      refine W.eq (g2 := F0 m 31 ls [.int (1 - (gP (μ 1) j_2 5)), .int (5), .int (nI j_2), .ref (am (0))]) (by rw [sp_st_s]) ?_
      refine sp_callm (va_runV (As := [.int (nI j_2), .int (5), .int (1 - (gP (μ 1) j_2 5))]) (rest := []) ⟨hx, hb, hml, hown, hts⟩ (c_X10_set l D am cy (sp_st μ 0 4 (1 - (gP (μ 1) j_2 5))) _ hi j_2 (by omega) 5 (by omega) (1 - (gP (μ 1) j_2 5))) (cwV 3 hts gX10_swapsFoot_X10_set rfl rfl rfl (by decide +kernel) ⟨Nat.le_of_ble_eq_true rfl, Nat.le_of_ble_eq_true rfl⟩) (sp_preVm hK hP (κ := 0) (by decide) mE_0 rfl) rfl rfl hl.1 rfl (lv_room (Nat.le_of_ble_eq_true rfl)) dX10_swapsFoot_31 ⟨Nat.le_of_ble_eq_true rfl, Nat.le_of_ble_eq_true rfl⟩) hS (fun q h1 h2 => sp_Alt h1 h2) (sp_Ale hS.1) (fun H locs hP hle hfr hS => ?_)
      refine W.eq (g2 := F0 m 34 ls []) rfl ?_
      refine lv_iconst (v := 0) hx hb dX10_swapsFoot_34 (by decide) ?_
      have hE9 : mW am cy (sp_st (sp_st μ 0 4 (1 - (gP (μ 1) j_2 5))) 1 (19 + 9 * j_2 + 5) (1 - (gP (μ 1) j_2 5))) = mW am cy (m_swap μ n x) := by exact mW_eq (by simp [m_swap, atO, b2i, m_by, q_1, c_4, c_4d])
      have hP : va_P D vwCl (mW am cy (m_swap μ n x)) H := by rw [← hE9]; exact hP
      exact W.iret (v := 0) hx hb hr (fun T9 hT9 _ => ⟨congrArg (fun z9 => Outcome.returned (some (Value.int z9))) (show (0 : Int32) = m_by (m_find (μ 1) n x) from (by first | rfl | (simp [m_by, b2i, q_1, c_4, c_4d]; done))), by rw [hT9]; exact hP, hS.F hT9⟩) hS.2.2 dX10_swapsFoot_35
    · exact absurd (Int32.not_lt.mp (nI_pos (by omega))) c_4

theorem wi_X10_doubts_X10 : ∀ w ∈ wsX100, w ∈ wsX10_doubts := by decide +kernel
set_option maxHeartbeats 4000000 in
set_option maxRecDepth 100000 in
theorem c_X10_doubts (l : Launch) (D : va_G) (am : Nat → Nat) (cy : Nat → ClassId) (μ : Nat → Nat → Int32) (sz : Nat) (hi : sp_inj am 5) (n : Nat) (t : Nat) (hM : MS (μ 1) n t) (x : Int32) : Met l yX10_doubts wsX10_doubts ({ frames := 2, cells := 0, slots := 0, locals := 44 } : Room) (sp_Pm D (tyG cy) sz [.ref (am (0)), .int (x)] (mW am cy μ)) (sp_Q D (some (.int (atO (m_find (μ 1) n x) 1 (fun k => if gP (μ 1) k 7 = 3 then 3 else 0)))) (mW am cy (m_doub μ n x)) (sp_A am 5 sz)) 0 0 (sp_A am 5 sz) := by
  refine Met.ofW (cc := cX10_doubts) (maxL := 3) (ret := (some .int)) (by decide) rfl ?_
  intro p e s m args below meth c s₁ B hml hv
  obtain ⟨rfl, hsz, hP, hK⟩ := hv
  have hx := B.exec
  have hb := B.bytes
  have hr := B.returns
  have hts := atoms_spec (ws := wsX10_doubts) B.pre
  have hown : s.vm.findClass RX10 = some m.cls := findClass_of_methodNamed B.named
  have hlocks := B.notSynchronized
  subst hsz
  have hS : va_S (sp_A am 5 s.heap.size) s.heap s.heap [] := va_S.rf
  have hAk : ∀ k, k < 5 → (sp_A am 5 s.heap.size) (am k) := fun k hk => Or.inl ⟨k, hk, rfl⟩
  skip
  have hn30 := hM.2.1
  have ht6 := hM.2.2.2
  have hl := lv_entry ([.ref (am (0)), .int (x)]) (n := 3) (Nat.le_of_ble_eq_true rfl)
  refine W.eq (lg_entry_eq _ ([.ref (am (0)), .int (x)]) _) ?_
  generalize (lg_sl ([.ref (am (0)), .int (x)]) ++ List.replicate (3 - (lg_sl ([.ref (am (0)), .int (x)])).length) Slot.unset).toArray = ls at hl ⊢
  have hl : lv_has ls 3 [(0, .ref (am (0))), (1, .int (x))] := hl
  refine lv_aload_n hx hb dX10_doubts_0 rfl (lv_at hl 0 rfl) ?_
  refine lv_iload_n hx hb dX10_doubts_1 rfl (lv_at hl 1 rfl) ?_
  refine sp_call (W.runV (As := [.int (x)]) (rest := []) ⟨hx, hb, hml, hown, hts⟩ (c_X10_find l D am cy μ n t (by first | exact hM | exact hi_0 | (repeat first | exact hM | exact hi_0 | refine MS.st0 ?_ | refine MS.st ?_ (by omega))) x) (cwV 1 hts gX10_doubts_X10_find rfl rfl rfl (by decide +kernel) ⟨Nat.le_of_ble_eq_true rfl, Nat.le_of_ble_eq_true rfl⟩) (sp_preV hK hP (κ := 0) (by decide) mE_0 rfl) rfl rfl hl.1 rfl (lv_room (Nat.le_of_ble_eq_true rfl)) dX10_doubts_2 ⟨Nat.le_of_ble_eq_true rfl, Nat.le_of_ble_eq_true rfl⟩) ?_
  rcases opt_em (m_find (μ 1) n x) with q_1 | ⟨j_2, q_1⟩
  · refine W.eq (g2 := F0 m 5 ls [.int ((-1))]) (by rw [q_1]; rfl) ?_
    refine lv_istore_n (lv' := [(2, .int ((-1))), (0, .ref (am (0))), (1, .int (x))]) hx hb dX10_doubts_5 rfl hl (by decide) rfl (fun ls hl => ?_)
    refine lv_iload_n hx hb dX10_doubts_6 rfl (lv_at hl 0 rfl) ?_
    refine lv_if_ge (tgt := 12) hx hb dX10_doubts_7 (by decide) (fun c_3 => ?_) (fun c_3 => ?_)
    · exact absurd c_3 (by decide)
    · skip
      refine lv_iconst (v := 1) hx hb dX10_doubts_10 (by decide) ?_
      have hE9 : mW am cy (μ) = mW am cy (m_doub μ n x) := by exact mW_eq (by simp [m_doub, atO, b2i, atO, q_1])
      have hP : va_P D vwCl (mW am cy (m_doub μ n x)) s.heap := by rw [← hE9]; exact hP
      exact W.iret (v := 1) hx hb hr (fun T9 hT9 _ => ⟨congrArg (fun z9 => Outcome.returned (some (Value.int z9))) (show (1 : Int32) = atO (m_find (μ 1) n x) 1 (fun k => if gP (μ 1) k 7 = 3 then 3 else 0) from (by first | rfl | (simp [atO, b2i, q_1]; done))), by rw [hT9]; exact hP, hS.F hT9⟩) hS.2.2 dX10_doubts_11
  · have hj_2 := m_find_lt q_1
    refine W.eq (g2 := F0 m 5 ls [.int (nI j_2)]) (by rw [q_1]; rfl) ?_
    refine lv_istore_n (lv' := [(2, .int (nI j_2)), (0, .ref (am (0))), (1, .int (x))]) hx hb dX10_doubts_5 rfl hl (by decide) rfl (fun ls hl => ?_)
    refine lv_iload_n hx hb dX10_doubts_6 rfl (lv_at hl 0 rfl) ?_
    refine lv_if_ge (tgt := 12) hx hb dX10_doubts_7 (by decide) (fun c_4 => ?_) (fun c_4 => ?_)
    · skip
      have c_4d := Int32.not_lt.mpr c_4
      refine lv_aload_n hx hb dX10_doubts_12 rfl (lv_at hl 1 rfl) ?_
      refine lv_aload_n hx hb dX10_doubts_13 rfl (lv_at hl 1 rfl) ?_
      refine lv_iload_n hx hb dX10_doubts_14 rfl (lv_at hl 0 rfl) ?_
      refine lv_bipush (v := 7) hx hb dX10_doubts_15 (by decide) ?_
      refine sp_call (W.runV (As := [.int (nI j_2), .int (7)]) (rest := [.ref (am (0))]) ⟨hx, hb, hml, hown, hts⟩ (c_X10_p l D am cy μ j_2 (by omega) 7 (by omega)) (cwV 2 hts gX10_doubts_X10_p rfl rfl rfl (by decide +kernel) ⟨Nat.le_of_ble_eq_true rfl, Nat.le_of_ble_eq_true rfl⟩) (sp_preV hK hP (κ := 0) (by decide) mE_0 rfl) rfl rfl hl.1 rfl (lv_room (Nat.le_of_ble_eq_true rfl)) dX10_doubts_17 ⟨Nat.le_of_ble_eq_true rfl, Nat.le_of_ble_eq_true rfl⟩) ?_
      refine W.eq (g2 := F0 m 20 ls [.int (gP (μ 1) j_2 7), .ref (am (0))]) rfl ?_
      refine lv_iconst (v := 3) hx hb dX10_doubts_20 (by decide) ?_
      refine lv_icmp_ne (tgt := 28) hx hb dX10_doubts_21 (by decide) (fun c_5 => ?_) (fun c_5 => ?_)
      · skip
        refine lv_iconst (v := 0) hx hb dX10_doubts_28 (by decide) ?_
        refine lv_bipush (v := 7) hx hb dX10_doubts_29 (by decide) ?_
        refine lv_iconst (v := 3) hx hb dX10_doubts_31 (by decide) ?_
        refine sp_callm (va_runV (As := [.int (0), .int (7), .int (3)]) (rest := []) ⟨hx, hb, hml, hown, hts⟩ (c_X10_rejects_0 l D am cy μ _ hi 7 3) (cwV 3 hts gX10_doubts_X10_rejects rfl rfl rfl (by decide +kernel) ⟨Nat.le_of_ble_eq_true rfl, Nat.le_of_ble_eq_true rfl⟩) (sp_preVm hK hP (κ := 0) (by decide) mE_0 rfl) rfl rfl hl.1 rfl (lv_room (Nat.le_of_ble_eq_true rfl)) dX10_doubts_32 ⟨Nat.le_of_ble_eq_true rfl, Nat.le_of_ble_eq_true rfl⟩) hS (fun q h1 h2 => sp_Alt h1 h2) (sp_Ale hS.1) (fun H locs hP hle hfr hS => ?_)
        refine W.eq (g2 := F0 m 35 ls [.int (0)]) rfl ?_
        refine lv_if_eq (tgt := 40) hx hb dX10_doubts_35 (by decide) (fun c_6 => ?_) (fun c_6 => ?_)
        · skip
          refine lv_aload_n hx hb dX10_doubts_40 rfl (lv_at hl 1 rfl) ?_
          refine lv_aload_n hx hb dX10_doubts_41 rfl (lv_at hl 1 rfl) ?_
          refine lv_iload_n hx hb dX10_doubts_42 rfl (lv_at hl 0 rfl) ?_
          refine lv_bipush (v := 7) hx hb dX10_doubts_43 (by decide) ?_
          refine sp_call (W.runV (As := [.int (nI j_2), .int (7)]) (rest := [.ref (am (0))]) ⟨hx, hb, hml, hown, hts⟩ (c_X10_p l D am cy μ j_2 (by omega) 7 (by omega)) (cwV 2 hts gX10_doubts_X10_p rfl rfl rfl (by decide +kernel) ⟨Nat.le_of_ble_eq_true rfl, Nat.le_of_ble_eq_true rfl⟩) (sp_preV hK hP (κ := 0) (by decide) mE_0 rfl) rfl rfl hl.1 rfl (lv_room (Nat.le_of_ble_eq_true rfl)) dX10_doubts_45 ⟨Nat.le_of_ble_eq_true rfl, Nat.le_of_ble_eq_true rfl⟩) ?_
          refine W.eq (g2 := F0 m 48 ls [.int (gP (μ 1) j_2 7), .ref (am (0))]) rfl ?_
          refine lv_iconst (v := 1) hx hb dX10_doubts_48 (by decide) ?_
          refine lv_iadd hx hb dX10_doubts_49 ?_
          refine sp_put hx hb hts wi_X10_doubts_X10 tyX10 tyX10_ok nmX10 hown hK hP hi hAk hS (κ := 0) (by decide) mE_0 rfl 4 (by decide) (hts _ (List.mem_of_getElem? (i := 1) rfl)) (fun _ h => h) rfl (ty := tyX10 4) (by decide +kernel) ⟨rfl, rfl⟩ (Nat.le_of_ble_eq_true rfl) (r1 := upd (μ 0) 4 ((gP (μ 1) j_2 7) + 1)) (cE_of mE_0 (by simp [upd])) dX10_doubts_50 (fun H locs hP hS => ?_)
          have hP : va_P D vwCl (mW am cy (sp_st μ 0 4 ((gP (μ 1) j_2 7) + 1))) H := hP
          refine lv_aload_n hx hb dX10_doubts_53 rfl (lv_at hl 1 rfl) ?_
          refine lv_iload_n hx hb dX10_doubts_54 rfl (lv_at hl 0 rfl) ?_
          refine lv_bipush (v := 7) hx hb dX10_doubts_55 (by decide) ?_
          refine lv_aload_n hx hb dX10_doubts_57 rfl (lv_at hl 1 rfl) ?_
          refine sp_get hx hb hts wi_X10_doubts_X10 hown hK hP (κ := 0) (by decide) mE_0 rfl 4 (by decide) (hts _ (List.mem_of_getElem? (i := 1) rfl)) (fun _ h => h) rfl dX10_doubts_58 ?_
          refine W.eq (g2 := F0 m 61 ls [.int ((gP (μ 1) j_2 7) + 1), .int (7), .int (nI j_2), .ref (am (0))]) (by rw [sp_st_s]) ?_
          refine sp_callm (va_runV (As := [.int (nI j_2), .int (7), .int ((gP (μ 1) j_2 7) + 1)]) (rest := []) ⟨hx, hb, hml, hown, hts⟩ (c_X10_set l D am cy (sp_st μ 0 4 ((gP (μ 1) j_2 7) + 1)) _ hi j_2 (by omega) 7 (by omega) ((gP (μ 1) j_2 7) + 1)) (cwV 3 hts gX10_doubts_X10_set rfl rfl rfl (by decide +kernel) ⟨Nat.le_of_ble_eq_true rfl, Nat.le_of_ble_eq_true rfl⟩) (sp_preVm hK hP (κ := 0) (by decide) mE_0 rfl) rfl rfl hl.1 rfl (lv_room (Nat.le_of_ble_eq_true rfl)) dX10_doubts_61 ⟨Nat.le_of_ble_eq_true rfl, Nat.le_of_ble_eq_true rfl⟩) hS (fun q h1 h2 => sp_Alt h1 h2) (sp_Ale hS.1) (fun H locs hP hle hfr hS => ?_)
          refine W.eq (g2 := F0 m 64 ls []) rfl ?_
          refine lv_iconst (v := 0) hx hb dX10_doubts_64 (by decide) ?_
          have hE9 : mW am cy (sp_st (sp_st μ 0 4 ((gP (μ 1) j_2 7) + 1)) 1 (19 + 9 * j_2 + 7) ((gP (μ 1) j_2 7) + 1)) = mW am cy (m_doub μ n x) := by exact mW_eq (by simp [m_doub, atO, b2i, atO, q_1, c_4, c_4d, c_5])
          have hP : va_P D vwCl (mW am cy (m_doub μ n x)) H := by rw [← hE9]; exact hP
          exact W.iret (v := 0) hx hb hr (fun T9 hT9 _ => ⟨congrArg (fun z9 => Outcome.returned (some (Value.int z9))) (show (0 : Int32) = atO (m_find (μ 1) n x) 1 (fun k => if gP (μ 1) k 7 = 3 then 3 else 0) from (by first | rfl | (simp [atO, b2i, q_1, c_4, c_4d, c_5]; done))), by rw [hT9]; exact hP, hS.F hT9⟩) hS.2.2 dX10_doubts_65
        · exact absurd c_6 (by decide)
      · skip
        refine lv_iconst (v := 1) hx hb dX10_doubts_24 (by decide) ?_
        refine lv_goto (tgt := 29) hx hb dX10_doubts_25 (by decide) ?_
        refine lv_bipush (v := 7) hx hb dX10_doubts_29 (by decide) ?_
        refine lv_iconst (v := 3) hx hb dX10_doubts_31 (by decide) ?_
        refine sp_callm (va_runV (As := [.int (1), .int (7), .int (3)]) (rest := []) ⟨hx, hb, hml, hown, hts⟩ (c_X10_rejects_1 l D am cy μ _ hi 7 3) (cwV 3 hts gX10_doubts_X10_rejects rfl rfl rfl (by decide +kernel) ⟨Nat.le_of_ble_eq_true rfl, Nat.le_of_ble_eq_true rfl⟩) (sp_preVm hK hP (κ := 0) (by decide) mE_0 rfl) rfl rfl hl.1 rfl (lv_room (Nat.le_of_ble_eq_true rfl)) dX10_doubts_32 ⟨Nat.le_of_ble_eq_true rfl, Nat.le_of_ble_eq_true rfl⟩) hS (fun q h1 h2 => sp_Alt h1 h2) (sp_Ale hS.1) (fun H locs hP hle hfr hS => ?_)
        refine W.eq (g2 := F0 m 35 ls [.int (1)]) rfl ?_
        refine lv_if_eq (tgt := 40) hx hb dX10_doubts_35 (by decide) (fun c_7 => ?_) (fun c_7 => ?_)
        · exact absurd c_7 (by decide)
        · skip
          refine lv_iconst (v := 3) hx hb dX10_doubts_38 (by decide) ?_
          have hE9 : mW am cy (m_rej μ 7 3) = mW am cy (m_doub μ n x) := by exact mW_eq (by simp [m_doub, atO, b2i, atO, q_1, c_4, c_4d, c_5])
          have hP : va_P D vwCl (mW am cy (m_doub μ n x)) H := by rw [← hE9]; exact hP
          exact W.iret (v := 3) hx hb hr (fun T9 hT9 _ => ⟨congrArg (fun z9 => Outcome.returned (some (Value.int z9))) (show (3 : Int32) = atO (m_find (μ 1) n x) 1 (fun k => if gP (μ 1) k 7 = 3 then 3 else 0) from (by first | rfl | (simp [atO, b2i, q_1, c_4, c_4d, c_5]; done))), by rw [hT9]; exact hP, hS.F hT9⟩) hS.2.2 dX10_doubts_39
    · exact absurd (Int32.not_lt.mp (nI_pos (by omega))) c_4

theorem wi_X10_confirms_X10 : ∀ w ∈ wsX100, w ∈ wsX10_confirms := by decide +kernel
set_option maxHeartbeats 4000000 in
set_option maxRecDepth 100000 in
theorem c_X10_confirms (l : Launch) (D : va_G) (am : Nat → Nat) (cy : Nat → ClassId) (μ : Nat → Nat → Int32) (sz : Nat) (hi : sp_inj am 5) (n : Nat) (t : Nat) (hM : MS (μ 1) n t) (x : Int32) : Met l yX10_confirms wsX10_confirms ({ frames := 2, cells := 0, slots := 0, locals := 44 } : Room) (sp_Pm D (tyG cy) sz [.ref (am (0)), .int (x)] (mW am cy μ)) (sp_Q D (some (.int (atO (m_find (μ 1) n x) 1 (fun k => if gP (μ 1) k 7 = 0 then 3 else 0)))) (mW am cy (m_conf μ n x)) (sp_A am 5 sz)) 0 0 (sp_A am 5 sz) := by
  refine Met.ofW (cc := cX10_confirms) (maxL := 3) (ret := (some .int)) (by decide) rfl ?_
  intro p e s m args below meth c s₁ B hml hv
  obtain ⟨rfl, hsz, hP, hK⟩ := hv
  have hx := B.exec
  have hb := B.bytes
  have hr := B.returns
  have hts := atoms_spec (ws := wsX10_confirms) B.pre
  have hown : s.vm.findClass RX10 = some m.cls := findClass_of_methodNamed B.named
  have hlocks := B.notSynchronized
  subst hsz
  have hS : va_S (sp_A am 5 s.heap.size) s.heap s.heap [] := va_S.rf
  have hAk : ∀ k, k < 5 → (sp_A am 5 s.heap.size) (am k) := fun k hk => Or.inl ⟨k, hk, rfl⟩
  skip
  have hn30 := hM.2.1
  have ht6 := hM.2.2.2
  have hl := lv_entry ([.ref (am (0)), .int (x)]) (n := 3) (Nat.le_of_ble_eq_true rfl)
  refine W.eq (lg_entry_eq _ ([.ref (am (0)), .int (x)]) _) ?_
  generalize (lg_sl ([.ref (am (0)), .int (x)]) ++ List.replicate (3 - (lg_sl ([.ref (am (0)), .int (x)])).length) Slot.unset).toArray = ls at hl ⊢
  have hl : lv_has ls 3 [(0, .ref (am (0))), (1, .int (x))] := hl
  refine lv_aload_n hx hb dX10_confirms_0 rfl (lv_at hl 0 rfl) ?_
  refine lv_iload_n hx hb dX10_confirms_1 rfl (lv_at hl 1 rfl) ?_
  refine sp_call (W.runV (As := [.int (x)]) (rest := []) ⟨hx, hb, hml, hown, hts⟩ (c_X10_find l D am cy μ n t (by first | exact hM | exact hi_0 | (repeat first | exact hM | exact hi_0 | refine MS.st0 ?_ | refine MS.st ?_ (by omega))) x) (cwV 1 hts gX10_confirms_X10_find rfl rfl rfl (by decide +kernel) ⟨Nat.le_of_ble_eq_true rfl, Nat.le_of_ble_eq_true rfl⟩) (sp_preV hK hP (κ := 0) (by decide) mE_0 rfl) rfl rfl hl.1 rfl (lv_room (Nat.le_of_ble_eq_true rfl)) dX10_confirms_2 ⟨Nat.le_of_ble_eq_true rfl, Nat.le_of_ble_eq_true rfl⟩) ?_
  rcases opt_em (m_find (μ 1) n x) with q_1 | ⟨j_2, q_1⟩
  · refine W.eq (g2 := F0 m 5 ls [.int ((-1))]) (by rw [q_1]; rfl) ?_
    refine lv_istore_n (lv' := [(2, .int ((-1))), (0, .ref (am (0))), (1, .int (x))]) hx hb dX10_confirms_5 rfl hl (by decide) rfl (fun ls hl => ?_)
    refine lv_iload_n hx hb dX10_confirms_6 rfl (lv_at hl 0 rfl) ?_
    refine lv_if_ge (tgt := 12) hx hb dX10_confirms_7 (by decide) (fun c_3 => ?_) (fun c_3 => ?_)
    · exact absurd c_3 (by decide)
    · skip
      refine lv_iconst (v := 1) hx hb dX10_confirms_10 (by decide) ?_
      have hE9 : mW am cy (μ) = mW am cy (m_conf μ n x) := by exact mW_eq (by simp [m_conf, atO, b2i, atO, q_1])
      have hP : va_P D vwCl (mW am cy (m_conf μ n x)) s.heap := by rw [← hE9]; exact hP
      exact W.iret (v := 1) hx hb hr (fun T9 hT9 _ => ⟨congrArg (fun z9 => Outcome.returned (some (Value.int z9))) (show (1 : Int32) = atO (m_find (μ 1) n x) 1 (fun k => if gP (μ 1) k 7 = 0 then 3 else 0) from (by first | rfl | (simp [atO, b2i, q_1]; done))), by rw [hT9]; exact hP, hS.F hT9⟩) hS.2.2 dX10_confirms_11
  · have hj_2 := m_find_lt q_1
    refine W.eq (g2 := F0 m 5 ls [.int (nI j_2)]) (by rw [q_1]; rfl) ?_
    refine lv_istore_n (lv' := [(2, .int (nI j_2)), (0, .ref (am (0))), (1, .int (x))]) hx hb dX10_confirms_5 rfl hl (by decide) rfl (fun ls hl => ?_)
    refine lv_iload_n hx hb dX10_confirms_6 rfl (lv_at hl 0 rfl) ?_
    refine lv_if_ge (tgt := 12) hx hb dX10_confirms_7 (by decide) (fun c_4 => ?_) (fun c_4 => ?_)
    · skip
      have c_4d := Int32.not_lt.mpr c_4
      refine lv_aload_n hx hb dX10_confirms_12 rfl (lv_at hl 1 rfl) ?_
      refine lv_aload_n hx hb dX10_confirms_13 rfl (lv_at hl 1 rfl) ?_
      refine lv_iload_n hx hb dX10_confirms_14 rfl (lv_at hl 0 rfl) ?_
      refine lv_bipush (v := 7) hx hb dX10_confirms_15 (by decide) ?_
      refine sp_call (W.runV (As := [.int (nI j_2), .int (7)]) (rest := [.ref (am (0))]) ⟨hx, hb, hml, hown, hts⟩ (c_X10_p l D am cy μ j_2 (by omega) 7 (by omega)) (cwV 2 hts gX10_confirms_X10_p rfl rfl rfl (by decide +kernel) ⟨Nat.le_of_ble_eq_true rfl, Nat.le_of_ble_eq_true rfl⟩) (sp_preV hK hP (κ := 0) (by decide) mE_0 rfl) rfl rfl hl.1 rfl (lv_room (Nat.le_of_ble_eq_true rfl)) dX10_confirms_17 ⟨Nat.le_of_ble_eq_true rfl, Nat.le_of_ble_eq_true rfl⟩) ?_
      refine W.eq (g2 := F0 m 20 ls [.int (gP (μ 1) j_2 7), .ref (am (0))]) rfl ?_
      refine sp_put hx hb hts wi_X10_confirms_X10 tyX10 tyX10_ok nmX10 hown hK hP hi hAk hS (κ := 0) (by decide) mE_0 rfl 4 (by decide) (hts _ (List.mem_of_getElem? (i := 1) rfl)) (fun _ h => h) rfl (ty := tyX10 4) (by decide +kernel) ⟨rfl, rfl⟩ (Nat.le_of_ble_eq_true rfl) (r1 := upd (μ 0) 4 (gP (μ 1) j_2 7)) (cE_of mE_0 (by simp [upd])) dX10_confirms_20 (fun H locs hP hS => ?_)
      have hP : va_P D vwCl (mW am cy (sp_st μ 0 4 (gP (μ 1) j_2 7))) H := hP
      refine lv_aload_n hx hb dX10_confirms_23 rfl (lv_at hl 1 rfl) ?_
      refine lv_aload_n hx hb dX10_confirms_24 rfl (lv_at hl 1 rfl) ?_
      refine sp_get hx hb hts wi_X10_confirms_X10 hown hK hP (κ := 0) (by decide) mE_0 rfl 4 (by decide) (hts _ (List.mem_of_getElem? (i := 1) rfl)) (fun _ h => h) rfl dX10_confirms_25 ?_
      refine W.eq (g2 := F0 m 28 ls [.int (gP (μ 1) j_2 7), .ref (am (0))]) (by rw [sp_st_s]) ?_
      refine lv_if_ne (tgt := 35) hx hb dX10_confirms_28 (by decide) (fun c_5 => ?_) (fun c_5 => ?_)
      · skip
        refine lv_iconst (v := 0) hx hb dX10_confirms_35 (by decide) ?_
        refine lv_bipush (v := 8) hx hb dX10_confirms_36 (by decide) ?_
        refine lv_iconst (v := 0) hx hb dX10_confirms_38 (by decide) ?_
        refine sp_callm (va_runV (As := [.int (0), .int (8), .int (0)]) (rest := []) ⟨hx, hb, hml, hown, hts⟩ (c_X10_rejects_0 l D am cy (sp_st μ 0 4 (gP (μ 1) j_2 7)) _ hi 8 0) (cwV 3 hts gX10_confirms_X10_rejects rfl rfl rfl (by decide +kernel) ⟨Nat.le_of_ble_eq_true rfl, Nat.le_of_ble_eq_true rfl⟩) (sp_preVm hK hP (κ := 0) (by decide) mE_0 rfl) rfl rfl hl.1 rfl (lv_room (Nat.le_of_ble_eq_true rfl)) dX10_confirms_39 ⟨Nat.le_of_ble_eq_true rfl, Nat.le_of_ble_eq_true rfl⟩) hS (fun q h1 h2 => sp_Alt h1 h2) (sp_Ale hS.1) (fun H locs hP hle hfr hS => ?_)
        refine W.eq (g2 := F0 m 42 ls [.int (0)]) rfl ?_
        refine lv_if_eq (tgt := 47) hx hb dX10_confirms_42 (by decide) (fun c_6 => ?_) (fun c_6 => ?_)
        · skip
          refine lv_aload_n hx hb dX10_confirms_47 rfl (lv_at hl 1 rfl) ?_
          refine lv_iload_n hx hb dX10_confirms_48 rfl (lv_at hl 0 rfl) ?_
          refine lv_bipush (v := 7) hx hb dX10_confirms_49 (by decide) ?_
          refine lv_iconst (v := 0) hx hb dX10_confirms_51 (by decide) ?_
          refine sp_callm (va_runV (As := [.int (nI j_2), .int (7), .int (0)]) (rest := []) ⟨hx, hb, hml, hown, hts⟩ (c_X10_set l D am cy (sp_st μ 0 4 (gP (μ 1) j_2 7)) _ hi j_2 (by omega) 7 (by omega) 0) (cwV 3 hts gX10_confirms_X10_set rfl rfl rfl (by decide +kernel) ⟨Nat.le_of_ble_eq_true rfl, Nat.le_of_ble_eq_true rfl⟩) (sp_preVm hK hP (κ := 0) (by decide) mE_0 rfl) rfl rfl hl.1 rfl (lv_room (Nat.le_of_ble_eq_true rfl)) dX10_confirms_52 ⟨Nat.le_of_ble_eq_true rfl, Nat.le_of_ble_eq_true rfl⟩) hS (fun q h1 h2 => sp_Alt h1 h2) (sp_Ale hS.1) (fun H locs hP hle hfr hS => ?_)
          refine W.eq (g2 := F0 m 55 ls []) rfl ?_
          refine lv_iconst (v := 0) hx hb dX10_confirms_55 (by decide) ?_
          have hE9 : mW am cy (sp_st (sp_st μ 0 4 (gP (μ 1) j_2 7)) 1 (19 + 9 * j_2 + 7) 0) = mW am cy (m_conf μ n x) := by exact mW_eq (by simp [m_conf, atO, b2i, atO, q_1, c_4, c_4d, c_5])
          have hP : va_P D vwCl (mW am cy (m_conf μ n x)) H := by rw [← hE9]; exact hP
          exact W.iret (v := 0) hx hb hr (fun T9 hT9 _ => ⟨congrArg (fun z9 => Outcome.returned (some (Value.int z9))) (show (0 : Int32) = atO (m_find (μ 1) n x) 1 (fun k => if gP (μ 1) k 7 = 0 then 3 else 0) from (by first | rfl | (simp [atO, b2i, q_1, c_4, c_4d, c_5]; done))), by rw [hT9]; exact hP, hS.F hT9⟩) hS.2.2 dX10_confirms_56
        · exact absurd c_6 (by decide)
      · skip
        refine lv_iconst (v := 1) hx hb dX10_confirms_31 (by decide) ?_
        refine lv_goto (tgt := 36) hx hb dX10_confirms_32 (by decide) ?_
        refine lv_bipush (v := 8) hx hb dX10_confirms_36 (by decide) ?_
        refine lv_iconst (v := 0) hx hb dX10_confirms_38 (by decide) ?_
        refine sp_callm (va_runV (As := [.int (1), .int (8), .int (0)]) (rest := []) ⟨hx, hb, hml, hown, hts⟩ (c_X10_rejects_1 l D am cy (sp_st μ 0 4 (gP (μ 1) j_2 7)) _ hi 8 0) (cwV 3 hts gX10_confirms_X10_rejects rfl rfl rfl (by decide +kernel) ⟨Nat.le_of_ble_eq_true rfl, Nat.le_of_ble_eq_true rfl⟩) (sp_preVm hK hP (κ := 0) (by decide) mE_0 rfl) rfl rfl hl.1 rfl (lv_room (Nat.le_of_ble_eq_true rfl)) dX10_confirms_39 ⟨Nat.le_of_ble_eq_true rfl, Nat.le_of_ble_eq_true rfl⟩) hS (fun q h1 h2 => sp_Alt h1 h2) (sp_Ale hS.1) (fun H locs hP hle hfr hS => ?_)
        refine W.eq (g2 := F0 m 42 ls [.int (1)]) rfl ?_
        refine lv_if_eq (tgt := 47) hx hb dX10_confirms_42 (by decide) (fun c_7 => ?_) (fun c_7 => ?_)
        · exact absurd c_7 (by decide)
        · skip
          refine lv_iconst (v := 3) hx hb dX10_confirms_45 (by decide) ?_
          have hE9 : mW am cy (m_rej (sp_st μ 0 4 (gP (μ 1) j_2 7)) 8 0) = mW am cy (m_conf μ n x) := by exact mW_eq (by simp [m_conf, atO, b2i, atO, q_1, c_4, c_4d, c_5])
          have hP : va_P D vwCl (mW am cy (m_conf μ n x)) H := by rw [← hE9]; exact hP
          exact W.iret (v := 3) hx hb hr (fun T9 hT9 _ => ⟨congrArg (fun z9 => Outcome.returned (some (Value.int z9))) (show (3 : Int32) = atO (m_find (μ 1) n x) 1 (fun k => if gP (μ 1) k 7 = 0 then 3 else 0) from (by first | rfl | (simp [atO, b2i, q_1, c_4, c_4d, c_5]; done))), by rw [hT9]; exact hP, hS.F hT9⟩) hS.2.2 dX10_confirms_46
    · exact absurd (Int32.not_lt.mp (nI_pos (by omega))) c_4

theorem wi_X10_removesPrint_X10 : ∀ w ∈ wsX100, w ∈ wsX10_removesPrint := by decide +kernel
set_option maxHeartbeats 4000000 in
set_option maxRecDepth 100000 in
theorem c_X10_removesPrint (l : Launch) (D : va_G) (am : Nat → Nat) (cy : Nat → ClassId) (μ : Nat → Nat → Int32) (sz : Nat) (hi : sp_inj am 5) (n : Nat) (t : Nat) (hM : MS (μ 1) n t) (x : Int32) : Met l yX10_removesPrint wsX10_removesPrint ({ frames := 2, cells := 0, slots := 0, locals := 46 } : Room) (sp_Pm D (tyG cy) sz [.ref (am (0)), .int (x)] (mW am cy μ)) (sp_Q D (some (.int (m_by (m_find (μ 1) n x)))) (mW am cy (m_rmPr μ n x)) (sp_A am 5 sz)) 0 0 (sp_A am 5 sz) := by
  refine Met.ofW (cc := cX10_removesPrint) (maxL := 3) (ret := (some .int)) (by decide) rfl ?_
  intro p e s m args below meth c s₁ B hml hv
  obtain ⟨rfl, hsz, hP, hK⟩ := hv
  have hx := B.exec
  have hb := B.bytes
  have hr := B.returns
  have hts := atoms_spec (ws := wsX10_removesPrint) B.pre
  have hown : s.vm.findClass RX10 = some m.cls := findClass_of_methodNamed B.named
  have hlocks := B.notSynchronized
  subst hsz
  have hS : va_S (sp_A am 5 s.heap.size) s.heap s.heap [] := va_S.rf
  have hAk : ∀ k, k < 5 → (sp_A am 5 s.heap.size) (am k) := fun k hk => Or.inl ⟨k, hk, rfl⟩
  skip
  have hn30 := hM.2.1
  have ht6 := hM.2.2.2
  have hl := lv_entry ([.ref (am (0)), .int (x)]) (n := 3) (Nat.le_of_ble_eq_true rfl)
  refine W.eq (lg_entry_eq _ ([.ref (am (0)), .int (x)]) _) ?_
  generalize (lg_sl ([.ref (am (0)), .int (x)]) ++ List.replicate (3 - (lg_sl ([.ref (am (0)), .int (x)])).length) Slot.unset).toArray = ls at hl ⊢
  have hl : lv_has ls 3 [(0, .ref (am (0))), (1, .int (x))] := hl
  refine lv_aload_n hx hb dX10_removesPrint_0 rfl (lv_at hl 0 rfl) ?_
  refine lv_iload_n hx hb dX10_removesPrint_1 rfl (lv_at hl 1 rfl) ?_
  refine sp_call (W.runV (As := [.int (x)]) (rest := []) ⟨hx, hb, hml, hown, hts⟩ (c_X10_find l D am cy μ n t (by first | exact hM | exact hi_0 | (repeat first | exact hM | exact hi_0 | refine MS.st0 ?_ | refine MS.st ?_ (by omega))) x) (cwV 1 hts gX10_removesPrint_X10_find rfl rfl rfl (by decide +kernel) ⟨Nat.le_of_ble_eq_true rfl, Nat.le_of_ble_eq_true rfl⟩) (sp_preV hK hP (κ := 0) (by decide) mE_0 rfl) rfl rfl hl.1 rfl (lv_room (Nat.le_of_ble_eq_true rfl)) dX10_removesPrint_2 ⟨Nat.le_of_ble_eq_true rfl, Nat.le_of_ble_eq_true rfl⟩) ?_
  rcases opt_em (m_find (μ 1) n x) with q_1 | ⟨j_2, q_1⟩
  · refine W.eq (g2 := F0 m 5 ls [.int ((-1))]) (by rw [q_1]; rfl) ?_
    refine lv_istore_n (lv' := [(2, .int ((-1))), (0, .ref (am (0))), (1, .int (x))]) hx hb dX10_removesPrint_5 rfl hl (by decide) rfl (fun ls hl => ?_)
    refine lv_iload_n hx hb dX10_removesPrint_6 rfl (lv_at hl 0 rfl) ?_
    refine lv_if_ge (tgt := 12) hx hb dX10_removesPrint_7 (by decide) (fun c_3 => ?_) (fun c_3 => ?_)
    · exact absurd c_3 (by decide)
    · skip
      refine lv_iconst (v := 1) hx hb dX10_removesPrint_10 (by decide) ?_
      have hE9 : mW am cy (μ) = mW am cy (m_rmPr μ n x) := by exact mW_eq (by simp [m_rmPr, atO, b2i, m_by, q_1])
      have hP : va_P D vwCl (mW am cy (m_rmPr μ n x)) s.heap := by rw [← hE9]; exact hP
      exact W.iret (v := 1) hx hb hr (fun T9 hT9 _ => ⟨congrArg (fun z9 => Outcome.returned (some (Value.int z9))) (show (1 : Int32) = m_by (m_find (μ 1) n x) from (by first | rfl | (simp [m_by, b2i, q_1]; done))), by rw [hT9]; exact hP, hS.F hT9⟩) hS.2.2 dX10_removesPrint_11
  · have hj_2 := m_find_lt q_1
    refine W.eq (g2 := F0 m 5 ls [.int (nI j_2)]) (by rw [q_1]; rfl) ?_
    refine lv_istore_n (lv' := [(2, .int (nI j_2)), (0, .ref (am (0))), (1, .int (x))]) hx hb dX10_removesPrint_5 rfl hl (by decide) rfl (fun ls hl => ?_)
    refine lv_iload_n hx hb dX10_removesPrint_6 rfl (lv_at hl 0 rfl) ?_
    refine lv_if_ge (tgt := 12) hx hb dX10_removesPrint_7 (by decide) (fun c_4 => ?_) (fun c_4 => ?_)
    · skip
      have c_4d := Int32.not_lt.mpr c_4
      refine lv_aload_n hx hb dX10_removesPrint_12 rfl (lv_at hl 1 rfl) ?_
      refine lv_aload_n hx hb dX10_removesPrint_13 rfl (lv_at hl 1 rfl) ?_
      refine lv_iload_n hx hb dX10_removesPrint_14 rfl (lv_at hl 0 rfl) ?_
      refine lv_iconst (v := 1) hx hb dX10_removesPrint_15 (by decide) ?_
      refine sp_call (W.runV (As := [.int (nI j_2), .int (1)]) (rest := [.ref (am (0))]) ⟨hx, hb, hml, hown, hts⟩ (c_X10_p l D am cy μ j_2 (by omega) 1 (by omega)) (cwV 2 hts gX10_removesPrint_X10_p rfl rfl rfl (by decide +kernel) ⟨Nat.le_of_ble_eq_true rfl, Nat.le_of_ble_eq_true rfl⟩) (sp_preV hK hP (κ := 0) (by decide) mE_0 rfl) rfl rfl hl.1 rfl (lv_room (Nat.le_of_ble_eq_true rfl)) dX10_removesPrint_16 ⟨Nat.le_of_ble_eq_true rfl, Nat.le_of_ble_eq_true rfl⟩) ?_
      refine W.eq (g2 := F0 m 19 ls [.int (gP (μ 1) j_2 1), .ref (am (0))]) rfl ?_
      refine sp_put hx hb hts wi_X10_removesPrint_X10 tyX10 tyX10_ok nmX10 hown hK hP hi hAk hS (κ := 0) (by decide) mE_0 rfl 4 (by decide) (hts _ (List.mem_of_getElem? (i := 1) rfl)) (fun _ h => h) rfl (ty := tyX10 4) (by decide +kernel) ⟨rfl, rfl⟩ (Nat.le_of_ble_eq_true rfl) (r1 := upd (μ 0) 4 (gP (μ 1) j_2 1)) (cE_of mE_0 (by simp [upd])) dX10_removesPrint_19 (fun H locs hP hS => ?_)
      have hP : va_P D vwCl (mW am cy (sp_st μ 0 4 (gP (μ 1) j_2 1))) H := hP
      refine lv_aload_n hx hb dX10_removesPrint_22 rfl (lv_at hl 1 rfl) ?_
      refine lv_iload_n hx hb dX10_removesPrint_23 rfl (lv_at hl 0 rfl) ?_
      refine sp_callm (va_runV (As := [.int (nI j_2)]) (rest := []) ⟨hx, hb, hml, hown, hts⟩ (c_X10_goes l D am cy (sp_st μ 0 4 (gP (μ 1) j_2 1)) _ hi n t (by first | exact hM | exact hi_0 | (repeat first | exact hM | exact hi_0 | refine MS.st0 ?_ | refine MS.st ?_ (by omega))) j_2 (by omega)) (cwV 1 hts gX10_removesPrint_X10_goes rfl rfl rfl (by decide +kernel) ⟨Nat.le_of_ble_eq_true rfl, Nat.le_of_ble_eq_true rfl⟩) (sp_preVm hK hP (κ := 0) (by decide) mE_0 rfl) rfl rfl hl.1 rfl (lv_room (Nat.le_of_ble_eq_true rfl)) dX10_removesPrint_24 ⟨Nat.le_of_ble_eq_true rfl, Nat.le_of_ble_eq_true rfl⟩) hS (fun q h1 h2 => sp_Alt h1 h2) (sp_Ale hS.1) (fun H locs hP hle hfr hS => ?_)
      refine W.eq (g2 := F0 m 27 ls []) rfl ?_
      refine lv_iconst (v := 0) hx hb dX10_removesPrint_27 (by decide) ?_
      have hE9 : mW am cy (m_goes (sp_st μ 0 4 (gP (μ 1) j_2 1)) n j_2) = mW am cy (m_rmPr μ n x) := by exact mW_eq (by simp [m_rmPr, atO, b2i, m_by, q_1, c_4, c_4d])
      have hP : va_P D vwCl (mW am cy (m_rmPr μ n x)) H := by rw [← hE9]; exact hP
      exact W.iret (v := 0) hx hb hr (fun T9 hT9 _ => ⟨congrArg (fun z9 => Outcome.returned (some (Value.int z9))) (show (0 : Int32) = m_by (m_find (μ 1) n x) from (by first | rfl | (simp [m_by, b2i, q_1, c_4, c_4d]; done))), by rw [hT9]; exact hP, hS.F hT9⟩) hS.2.2 dX10_removesPrint_28
    · exact absurd (Int32.not_lt.mp (nI_pos (by omega))) c_4

theorem wi_X10_addsPrint_X10 : ∀ w ∈ wsX100, w ∈ wsX10_addsPrint := by decide +kernel
set_option maxHeartbeats 4000000 in
set_option maxRecDepth 100000 in
theorem c_X10_addsPrint (l : Launch) (D : va_G) (am : Nat → Nat) (cy : Nat → ClassId) (μ : Nat → Nat → Int32) (sz : Nat) (hi : sp_inj am 5) (n : Nat) (t : Nat) (hM : MS (μ 1) n t) (x : Int32) (u : Int32) (r : Int32) (c1 : Int32) (lf : Int32) (z : Int32) : Met l yX10_addsPrint wsX10_addsPrint ({ frames := 2, cells := 0, slots := 0, locals := 46 } : Room) (sp_Pm D (tyG cy) sz [.ref (am (0)), .int (x), .int (u), .int (r), .int (c1), .int (lf), .int (z)] (mW am cy μ)) (sp_Q D (some (.int (m_addPv (μ 1) n t x u r c1 z))) (mW am cy (m_addP μ n t x u r c1 lf z)) (sp_A am 5 sz)) 0 0 (sp_A am 5 sz) := by
  refine Met.ofW (cc := cX10_addsPrint) (maxL := 11) (ret := (some .int)) (by decide) rfl ?_
  intro p e s m args below meth c s₁ B hml hv
  obtain ⟨rfl, hsz, hP, hK⟩ := hv
  have hx := B.exec
  have hb := B.bytes
  have hr := B.returns
  have hts := atoms_spec (ws := wsX10_addsPrint) B.pre
  have hown : s.vm.findClass RX10 = some m.cls := findClass_of_methodNamed B.named
  have hlocks := B.notSynchronized
  subst hsz
  have hS : va_S (sp_A am 5 s.heap.size) s.heap s.heap [] := va_S.rf
  have hAk : ∀ k, k < 5 → (sp_A am 5 s.heap.size) (am k) := fun k hk => Or.inl ⟨k, hk, rfl⟩
  skip
  have hn30 := hM.2.1
  have ht6 := hM.2.2.2
  have hl := lv_entry ([.ref (am (0)), .int (x), .int (u), .int (r), .int (c1), .int (lf), .int (z)]) (n := 11) (Nat.le_of_ble_eq_true rfl)
  refine W.eq (lg_entry_eq _ ([.ref (am (0)), .int (x), .int (u), .int (r), .int (c1), .int (lf), .int (z)]) _) ?_
  generalize (lg_sl ([.ref (am (0)), .int (x), .int (u), .int (r), .int (c1), .int (lf), .int (z)]) ++ List.replicate (11 - (lg_sl ([.ref (am (0)), .int (x), .int (u), .int (r), .int (c1), .int (lf), .int (z)])).length) Slot.unset).toArray = ls at hl ⊢
  have hl : lv_has ls 11 [(0, .ref (am (0))), (1, .int (x)), (2, .int (u)), (3, .int (r)), (4, .int (c1)), (5, .int (lf)), (6, .int (z))] := hl
  refine lv_aload_n hx hb dX10_addsPrint_0 rfl (lv_at hl 0 rfl) ?_
  refine lv_iload_n hx hb dX10_addsPrint_1 rfl (lv_at hl 1 rfl) ?_
  refine sp_call (W.runV (As := [.int (x)]) (rest := []) ⟨hx, hb, hml, hown, hts⟩ (c_X10_findTrack l D am cy μ n t (by first | exact hM | exact hi_0 | (repeat first | exact hM | exact hi_0 | refine MS.st0 ?_ | refine MS.st ?_ (by omega))) x) (cwV 1 hts gX10_addsPrint_X10_findTrack rfl rfl rfl (by decide +kernel) ⟨Nat.le_of_ble_eq_true rfl, Nat.le_of_ble_eq_true rfl⟩) (sp_preV hK hP (κ := 0) (by decide) mE_0 rfl) rfl rfl hl.1 rfl (lv_room (Nat.le_of_ble_eq_true rfl)) dX10_addsPrint_2 ⟨Nat.le_of_ble_eq_true rfl, Nat.le_of_ble_eq_true rfl⟩) ?_
  rcases opt_em (m_ft (μ 1) t x) with q_1 | ⟨j_2, q_1⟩
  · refine W.eq (g2 := F0 m 5 ls [.int ((-1))]) (by rw [q_1]; rfl) ?_
    refine lv_if_lt (tgt := 17) hx hb dX10_addsPrint_5 (by decide) (fun c_3 => ?_) (fun c_3 => ?_)
    · skip
      refine lv_iconst (v := 1) hx hb dX10_addsPrint_17 (by decide) ?_
      have hE9 : mW am cy (μ) = mW am cy (m_addP μ n t x u r c1 lf z) := by exact mW_eq (by simp [m_addP, m_objP, m_rejO, m_new, m_idAt, b2i, m_addPv, m_objP, q_1])
      have hP : va_P D vwCl (mW am cy (m_addP μ n t x u r c1 lf z)) s.heap := by rw [← hE9]; exact hP
      exact W.iret (v := 1) hx hb hr (fun T9 hT9 _ => ⟨congrArg (fun z9 => Outcome.returned (some (Value.int z9))) (show (1 : Int32) = m_addPv (μ 1) n t x u r c1 z from (by first | rfl | (simp [m_addPv, m_objP, b2i, q_1]; done))), by rw [hT9]; exact hP, hS.F hT9⟩) hS.2.2 dX10_addsPrint_18
    · exact absurd c_3 (by decide)
  · have hj_2 := m_ft_lt q_1
    refine W.eq (g2 := F0 m 5 ls [.int (nI j_2)]) (by rw [q_1]; rfl) ?_
    refine lv_if_lt (tgt := 17) hx hb dX10_addsPrint_5 (by decide) (fun c_4 => ?_) (fun c_4 => ?_)
    · exact absurd c_4 (nI_pos (by omega))
    · skip
      have c_4d := Int32.not_lt.mp c_4
      refine lv_iload_n hx hb dX10_addsPrint_8 rfl (lv_at hl 3 rfl) ?_
      refine lv_iload hx hb dX10_addsPrint_9 (lv_at hl 4 rfl) ?_
      refine sp_call (W.runS (As := [.int (r), .int (c1)]) (rest := []) ⟨hx, hb, hml, hown, hts⟩ (c_X10_isCell l D am cy μ r c1) (va_cwS 2 hts gX10_addsPrint_X10_isCell rfl rfl rfl (by decide +kernel) ⟨Nat.le_of_ble_eq_true rfl, Nat.le_of_ble_eq_true rfl⟩) (sp_preS hK hP) rfl rfl hl.1 rfl (lv_room (Nat.le_of_ble_eq_true rfl)) dX10_addsPrint_11 ⟨Nat.le_of_ble_eq_true rfl, Nat.le_of_ble_eq_true rfl⟩) ?_
      refine W.eq (g2 := F0 m 14 ls [.int (b2i (m_isCell r c1))]) rfl ?_
      refine lv_if_ne (tgt := 19) hx hb dX10_addsPrint_14 (by decide) (fun c_5 => ?_) (fun c_5 => ?_)
      · rw [b2i_eq0] at c_5
        refine lv_iload_n hx hb dX10_addsPrint_19 rfl (lv_at hl 2 rfl) ?_
        refine lv_iconst (v := 0) hx hb dX10_addsPrint_20 (by decide) ?_
        refine lv_sipush (v := 999) hx hb dX10_addsPrint_21 (by decide) ?_
        refine sp_call (W.runS (As := [.int (u), .int (0), .int (999)]) (rest := []) ⟨hx, hb, hml, hown, hts⟩ (c_X10_in l D am cy μ u 0 999) (va_cwS 3 hts gX10_addsPrint_X10_in rfl rfl rfl (by decide +kernel) ⟨Nat.le_of_ble_eq_true rfl, Nat.le_of_ble_eq_true rfl⟩) (sp_preS hK hP) rfl rfl hl.1 rfl (lv_room (Nat.le_of_ble_eq_true rfl)) dX10_addsPrint_24 ⟨Nat.le_of_ble_eq_true rfl, Nat.le_of_ble_eq_true rfl⟩) ?_
        refine W.eq (g2 := F0 m 27 ls [.int (b2i (m_in u 0 999))]) rfl ?_
        refine lv_if_eq (tgt := 41) hx hb dX10_addsPrint_27 (by decide) (fun c_6 => ?_) (fun c_6 => ?_)
        · rw [b2i_eq0] at c_6
          refine lv_iconst (v := 2) hx hb dX10_addsPrint_41 (by decide) ?_
          have hE9 : mW am cy (μ) = mW am cy (m_addP μ n t x u r c1 lf z) := by exact mW_eq (by simp [m_addP, m_objP, m_rejO, m_new, m_idAt, b2i, m_addPv, m_objP, q_1, c_4, c_4d, c_5, c_6])
          have hP : va_P D vwCl (mW am cy (m_addP μ n t x u r c1 lf z)) s.heap := by rw [← hE9]; exact hP
          exact W.iret (v := 2) hx hb hr (fun T9 hT9 _ => ⟨congrArg (fun z9 => Outcome.returned (some (Value.int z9))) (show (2 : Int32) = m_addPv (μ 1) n t x u r c1 z from (by first | rfl | (simp [m_addPv, m_objP, b2i, q_1, c_4, c_4d, c_5, c_6]; done))), by rw [hT9]; exact hP, hS.F hT9⟩) hS.2.2 dX10_addsPrint_42
        · rw [b2i_eq0] at c_6
          refine lv_iload hx hb dX10_addsPrint_30 (lv_at hl 6 rfl) ?_
          refine lv_iconst (v := 1) hx hb dX10_addsPrint_32 (by decide) ?_
          refine lv_bipush (v := 9) hx hb dX10_addsPrint_33 (by decide) ?_
          refine sp_call (W.runS (As := [.int (z), .int (1), .int (9)]) (rest := []) ⟨hx, hb, hml, hown, hts⟩ (c_X10_in l D am cy μ z 1 9) (va_cwS 3 hts gX10_addsPrint_X10_in rfl rfl rfl (by decide +kernel) ⟨Nat.le_of_ble_eq_true rfl, Nat.le_of_ble_eq_true rfl⟩) (sp_preS hK hP) rfl rfl hl.1 rfl (lv_room (Nat.le_of_ble_eq_true rfl)) dX10_addsPrint_35 ⟨Nat.le_of_ble_eq_true rfl, Nat.le_of_ble_eq_true rfl⟩) ?_
          refine W.eq (g2 := F0 m 38 ls [.int (b2i (m_in z 1 9))]) rfl ?_
          refine lv_if_ne (tgt := 43) hx hb dX10_addsPrint_38 (by decide) (fun c_7 => ?_) (fun c_7 => ?_)
          · rw [b2i_eq0] at c_7
            refine lv_aload_n hx hb dX10_addsPrint_43 rfl (lv_at hl 0 rfl) ?_
            refine sp_get hx hb hts wi_X10_addsPrint_X10 hown hK hP (κ := 0) (by decide) mE_0 rfl 1 (by decide) (hts _ (List.mem_of_getElem? (i := 1) rfl)) (fun _ h => h) rfl dX10_addsPrint_44 ?_
            refine lv_iconst (v := 1) hx hb dX10_addsPrint_47 (by decide) ?_
            refine sp_iald hx hb hK hP (κ := 1) (by decide) 1 mE_1 rfl 1 rfl (by omega) (by decide) dX10_addsPrint_48 ?_
            refine W.eq (g2 := F0 m 49 ls [.int (nI n)]) (by rw [hM.1]) ?_
            refine lv_istore (lv' := [(7, .int (nI n)), (0, .ref (am (0))), (1, .int (x)), (2, .int (u)), (3, .int (r)), (4, .int (c1)), (5, .int (lf)), (6, .int (z))]) hx hb dX10_addsPrint_49 hl (by decide) rfl (fun ls hl => ?_)
            refine lv_aload_n hx hb dX10_addsPrint_51 rfl (lv_at hl 1 rfl) ?_
            refine lv_iload_n hx hb dX10_addsPrint_52 rfl (lv_at hl 2 rfl) ?_
            refine lv_iload_n hx hb dX10_addsPrint_53 rfl (lv_at hl 3 rfl) ?_
            refine sp_call (W.runV (As := [.int (x), .int (u)]) (rest := []) ⟨hx, hb, hml, hown, hts⟩ (c_X10_atTime l D am cy μ n t (by first | exact hM | exact hi_0 | (repeat first | exact hM | exact hi_0 | refine MS.st0 ?_ | refine MS.st ?_ (by omega))) x u) (cwV 2 hts gX10_addsPrint_X10_atTime rfl rfl rfl (by decide +kernel) ⟨Nat.le_of_ble_eq_true rfl, Nat.le_of_ble_eq_true rfl⟩) (sp_preV hK hP (κ := 0) (by decide) mE_0 rfl) rfl rfl hl.1 rfl (lv_room (Nat.le_of_ble_eq_true rfl)) dX10_addsPrint_54 ⟨Nat.le_of_ble_eq_true rfl, Nat.le_of_ble_eq_true rfl⟩) ?_
            rcases opt_em (m_time (μ 1) n x u) with q_8 | ⟨j_9, q_8⟩
            · refine W.eq (g2 := F0 m 57 ls [.int ((-1))]) (by rw [q_8]; rfl) ?_
              refine lv_istore (lv' := [(8, .int ((-1))), (7, .int (nI n)), (0, .ref (am (0))), (1, .int (x)), (2, .int (u)), (3, .int (r)), (4, .int (c1)), (5, .int (lf)), (6, .int (z))]) hx hb dX10_addsPrint_57 hl (by decide) rfl (fun ls hl => ?_)
              refine lv_aload_n hx hb dX10_addsPrint_59 rfl (lv_at hl 2 rfl) ?_
              refine lv_iload_n hx hb dX10_addsPrint_60 rfl (lv_at hl 5 rfl) ?_
              refine lv_iload hx hb dX10_addsPrint_61 (lv_at hl 6 rfl) ?_
              refine sp_call (W.runV (As := [.int (r), .int (c1)]) (rest := []) ⟨hx, hb, hml, hown, hts⟩ (c_X10_inCell l D am cy μ n t (by first | exact hM | exact hi_0 | (repeat first | exact hM | exact hi_0 | refine MS.st0 ?_ | refine MS.st ?_ (by omega))) r c1) (cwV 2 hts gX10_addsPrint_X10_inCell rfl rfl rfl (by decide +kernel) ⟨Nat.le_of_ble_eq_true rfl, Nat.le_of_ble_eq_true rfl⟩) (sp_preV hK hP (κ := 0) (by decide) mE_0 rfl) rfl rfl hl.1 rfl (lv_room (Nat.le_of_ble_eq_true rfl)) dX10_addsPrint_63 ⟨Nat.le_of_ble_eq_true rfl, Nat.le_of_ble_eq_true rfl⟩) ?_
              rcases opt_em (m_cell (μ 1) n r c1) with q_10 | ⟨j_11, q_10⟩
              · refine W.eq (g2 := F0 m 66 ls [.int ((-1))]) (by rw [q_10]; rfl) ?_
                refine lv_istore (lv' := [(9, .int ((-1))), (8, .int ((-1))), (7, .int (nI n)), (0, .ref (am (0))), (1, .int (x)), (2, .int (u)), (3, .int (r)), (4, .int (c1)), (5, .int (lf)), (6, .int (z))]) hx hb dX10_addsPrint_66 hl (by decide) rfl (fun ls hl => ?_)
                refine lv_aload_n hx hb dX10_addsPrint_68 rfl (lv_at hl 3 rfl) ?_
                refine lv_iload hx hb dX10_addsPrint_69 (lv_at hl 2 rfl) ?_
                refine lv_bipush (v := 30) hx hb dX10_addsPrint_71 (by decide) ?_
                refine lv_icmp_ne (tgt := 80) hx hb dX10_addsPrint_73 (by decide) (fun c_12 => ?_) (fun c_12 => ?_)
                · skip
                  have hn29 : n < 30 := nI_lt30 c_12 hn30
                  refine lv_iconst (v := 0) hx hb dX10_addsPrint_80 (by decide) ?_
                  refine lv_iconst (v := 2) hx hb dX10_addsPrint_81 (by decide) ?_
                  refine lv_bipush (v := 30) hx hb dX10_addsPrint_82 (by decide) ?_
                  refine sp_callm (va_runV (As := [.int (0), .int (2), .int (30)]) (rest := []) ⟨hx, hb, hml, hown, hts⟩ (c_X10_rejects_0 l D am cy μ _ hi 2 30) (cwV 3 hts gX10_addsPrint_X10_rejects rfl rfl rfl (by decide +kernel) ⟨Nat.le_of_ble_eq_true rfl, Nat.le_of_ble_eq_true rfl⟩) (sp_preVm hK hP (κ := 0) (by decide) mE_0 rfl) rfl rfl hl.1 rfl (lv_room (Nat.le_of_ble_eq_true rfl)) dX10_addsPrint_84 ⟨Nat.le_of_ble_eq_true rfl, Nat.le_of_ble_eq_true rfl⟩) hS (fun q h1 h2 => sp_Alt h1 h2) (sp_Ale hS.1) (fun H locs hP hle hfr hS => ?_)
                  refine W.eq (g2 := F0 m 87 ls [.int (0)]) rfl ?_
                  refine lv_if_ne (tgt := 167) hx hb dX10_addsPrint_87 (by decide) (fun c_13 => ?_) (fun c_13 => ?_)
                  · exact absurd c_13 (by decide)
                  · skip
                    refine lv_aload_n hx hb dX10_addsPrint_90 rfl (lv_at hl 3 rfl) ?_
                    refine lv_iload hx hb dX10_addsPrint_91 (lv_at hl 1 rfl) ?_
                    refine lv_if_lt (tgt := 100) hx hb dX10_addsPrint_93 (by decide) (fun c_14 => ?_) (fun c_14 => ?_)
                    · skip
                      refine lv_iconst (v := 0) hx hb dX10_addsPrint_100 (by decide) ?_
                      refine lv_iconst (v := 3) hx hb dX10_addsPrint_101 (by decide) ?_
                      refine lv_aload_n hx hb dX10_addsPrint_102 rfl (lv_at hl 3 rfl) ?_
                      refine lv_iload hx hb dX10_addsPrint_103 (lv_at hl 1 rfl) ?_
                      refine sp_call (W.runV (As := [.int ((-1))]) (rest := [.int (3), .int (0), .ref (am (0))]) ⟨hx, hb, hml, hown, hts⟩ (c_X10_idAt l D am cy μ n t (by first | exact hM | exact hi_0 | (repeat first | exact hM | exact hi_0 | refine MS.st0 ?_ | refine MS.st ?_ (by omega))) (none : Option Nat) (by intro j hj; first | (cases hj; done) | (cases hj; omega))) (cwV 1 hts gX10_addsPrint_X10_idAt rfl rfl rfl (by decide +kernel) ⟨Nat.le_of_ble_eq_true rfl, Nat.le_of_ble_eq_true rfl⟩) (sp_preV hK hP (κ := 0) (by decide) mE_0 rfl) rfl rfl hl.1 rfl (lv_room (Nat.le_of_ble_eq_true rfl)) dX10_addsPrint_105 ⟨Nat.le_of_ble_eq_true rfl, Nat.le_of_ble_eq_true rfl⟩) ?_
                      refine W.eq (g2 := F0 m 108 ls [.int (m_idAt (μ 1) (none : Option Nat)), .int (3), .int (0), .ref (am (0))]) rfl ?_
                      refine sp_callm (va_runV (As := [.int (0), .int (3), .int (m_idAt (μ 1) (none : Option Nat))]) (rest := []) ⟨hx, hb, hml, hown, hts⟩ (c_X10_rejects_0 l D am cy μ _ hi 3 (m_idAt (μ 1) (none : Option Nat))) (cwV 3 hts gX10_addsPrint_X10_rejects rfl rfl rfl (by decide +kernel) ⟨Nat.le_of_ble_eq_true rfl, Nat.le_of_ble_eq_true rfl⟩) (sp_preVm hK hP (κ := 0) (by decide) mE_0 rfl) rfl rfl hl.1 rfl (lv_room (Nat.le_of_ble_eq_true rfl)) dX10_addsPrint_108 ⟨Nat.le_of_ble_eq_true rfl, Nat.le_of_ble_eq_true rfl⟩) hS (fun q h1 h2 => sp_Alt h1 h2) (sp_Ale hS.1) (fun H locs hP hle hfr hS => ?_)
                      refine W.eq (g2 := F0 m 111 ls [.int (0)]) rfl ?_
                      refine lv_if_ne (tgt := 167) hx hb dX10_addsPrint_111 (by decide) (fun c_15 => ?_) (fun c_15 => ?_)
                      · exact absurd c_15 (by decide)
                      · skip
                        refine lv_aload_n hx hb dX10_addsPrint_114 rfl (lv_at hl 3 rfl) ?_
                        refine lv_iload_n hx hb dX10_addsPrint_115 rfl (lv_at hl 6 rfl) ?_
                        refine lv_aload_n hx hb dX10_addsPrint_116 rfl (lv_at hl 3 rfl) ?_
                        refine sp_get hx hb hts wi_X10_addsPrint_X10 hown hK hP (κ := 0) (by decide) mE_0 rfl 1 (by decide) (hts _ (List.mem_of_getElem? (i := 1) rfl)) (fun _ h => h) rfl dX10_addsPrint_117 ?_
                        refine lv_iconst (v := 4) hx hb dX10_addsPrint_120 (by decide) ?_
                        refine sp_iald hx hb hK hP (κ := 1) (by decide) 1 mE_1 rfl 4 rfl (by omega) (by decide) dX10_addsPrint_121 ?_
                        refine lv_icmp_ge (tgt := 129) hx hb dX10_addsPrint_122 (by decide) (fun c_16 => ?_) (fun c_16 => ?_)
                        · skip
                          have c_16d := Int32.not_lt.mpr c_16
                          refine lv_iconst (v := 0) hx hb dX10_addsPrint_129 (by decide) ?_
                          refine lv_iconst (v := 4) hx hb dX10_addsPrint_130 (by decide) ?_
                          refine lv_aload_n hx hb dX10_addsPrint_131 rfl (lv_at hl 3 rfl) ?_
                          refine sp_get hx hb hts wi_X10_addsPrint_X10 hown hK hP (κ := 0) (by decide) mE_0 rfl 1 (by decide) (hts _ (List.mem_of_getElem? (i := 1) rfl)) (fun _ h => h) rfl dX10_addsPrint_132 ?_
                          refine lv_iconst (v := 4) hx hb dX10_addsPrint_135 (by decide) ?_
                          refine sp_iald hx hb hK hP (κ := 1) (by decide) 1 mE_1 rfl 4 rfl (by omega) (by decide) dX10_addsPrint_136 ?_
                          refine sp_callm (va_runV (As := [.int (0), .int (4), .int (μ 1 4)]) (rest := []) ⟨hx, hb, hml, hown, hts⟩ (c_X10_rejects_0 l D am cy μ _ hi 4 (μ 1 4)) (cwV 3 hts gX10_addsPrint_X10_rejects rfl rfl rfl (by decide +kernel) ⟨Nat.le_of_ble_eq_true rfl, Nat.le_of_ble_eq_true rfl⟩) (sp_preVm hK hP (κ := 0) (by decide) mE_0 rfl) rfl rfl hl.1 rfl (lv_room (Nat.le_of_ble_eq_true rfl)) dX10_addsPrint_137 ⟨Nat.le_of_ble_eq_true rfl, Nat.le_of_ble_eq_true rfl⟩) hS (fun q h1 h2 => sp_Alt h1 h2) (sp_Ale hS.1) (fun H locs hP hle hfr hS => ?_)
                          refine W.eq (g2 := F0 m 140 ls [.int (0)]) rfl ?_
                          refine lv_if_ne (tgt := 167) hx hb dX10_addsPrint_140 (by decide) (fun c_17 => ?_) (fun c_17 => ?_)
                          · exact absurd c_17 (by decide)
                          · skip
                            refine lv_aload_n hx hb dX10_addsPrint_143 rfl (lv_at hl 3 rfl) ?_
                            refine lv_iload hx hb dX10_addsPrint_144 (lv_at hl 0 rfl) ?_
                            refine lv_if_lt (tgt := 153) hx hb dX10_addsPrint_146 (by decide) (fun c_18 => ?_) (fun c_18 => ?_)
                            · skip
                              refine lv_iconst (v := 0) hx hb dX10_addsPrint_153 (by decide) ?_
                              refine lv_iconst (v := 5) hx hb dX10_addsPrint_154 (by decide) ?_
                              refine lv_aload_n hx hb dX10_addsPrint_155 rfl (lv_at hl 3 rfl) ?_
                              refine lv_iload hx hb dX10_addsPrint_156 (lv_at hl 0 rfl) ?_
                              refine sp_call (W.runV (As := [.int ((-1))]) (rest := [.int (5), .int (0), .ref (am (0))]) ⟨hx, hb, hml, hown, hts⟩ (c_X10_idAt l D am cy μ n t (by first | exact hM | exact hi_0 | (repeat first | exact hM | exact hi_0 | refine MS.st0 ?_ | refine MS.st ?_ (by omega))) (none : Option Nat) (by intro j hj; first | (cases hj; done) | (cases hj; omega))) (cwV 1 hts gX10_addsPrint_X10_idAt rfl rfl rfl (by decide +kernel) ⟨Nat.le_of_ble_eq_true rfl, Nat.le_of_ble_eq_true rfl⟩) (sp_preV hK hP (κ := 0) (by decide) mE_0 rfl) rfl rfl hl.1 rfl (lv_room (Nat.le_of_ble_eq_true rfl)) dX10_addsPrint_158 ⟨Nat.le_of_ble_eq_true rfl, Nat.le_of_ble_eq_true rfl⟩) ?_
                              refine W.eq (g2 := F0 m 161 ls [.int (m_idAt (μ 1) (none : Option Nat)), .int (5), .int (0), .ref (am (0))]) rfl ?_
                              refine sp_callm (va_runV (As := [.int (0), .int (5), .int (m_idAt (μ 1) (none : Option Nat))]) (rest := []) ⟨hx, hb, hml, hown, hts⟩ (c_X10_rejects_0 l D am cy μ _ hi 5 (m_idAt (μ 1) (none : Option Nat))) (cwV 3 hts gX10_addsPrint_X10_rejects rfl rfl rfl (by decide +kernel) ⟨Nat.le_of_ble_eq_true rfl, Nat.le_of_ble_eq_true rfl⟩) (sp_preVm hK hP (κ := 0) (by decide) mE_0 rfl) rfl rfl hl.1 rfl (lv_room (Nat.le_of_ble_eq_true rfl)) dX10_addsPrint_161 ⟨Nat.le_of_ble_eq_true rfl, Nat.le_of_ble_eq_true rfl⟩) hS (fun q h1 h2 => sp_Alt h1 h2) (sp_Ale hS.1) (fun H locs hP hle hfr hS => ?_)
                              refine W.eq (g2 := F0 m 164 ls [.int (0)]) rfl ?_
                              refine lv_if_eq (tgt := 169) hx hb dX10_addsPrint_164 (by decide) (fun c_19 => ?_) (fun c_19 => ?_)
                              · skip
                                refine lv_aload_n hx hb dX10_addsPrint_169 rfl (lv_at hl 3 rfl) ?_
                                refine lv_iload_n hx hb dX10_addsPrint_170 rfl (lv_at hl 4 rfl) ?_
                                refine lv_iload_n hx hb dX10_addsPrint_171 rfl (lv_at hl 5 rfl) ?_
                                refine sp_call (W.runV (As := [.int (x), .int (u)]) (rest := []) ⟨hx, hb, hml, hown, hts⟩ (c_X10_isLaterThere l D am cy μ n t (by first | exact hM | exact hi_0 | (repeat first | exact hM | exact hi_0 | refine MS.st0 ?_ | refine MS.st ?_ (by omega))) x u) (cwV 2 hts gX10_addsPrint_X10_isLaterThere rfl rfl rfl (by decide +kernel) ⟨Nat.le_of_ble_eq_true rfl, Nat.le_of_ble_eq_true rfl⟩) (sp_preV hK hP (κ := 0) (by decide) mE_0 rfl) rfl rfl hl.1 rfl (lv_room (Nat.le_of_ble_eq_true rfl)) dX10_addsPrint_172 ⟨Nat.le_of_ble_eq_true rfl, Nat.le_of_ble_eq_true rfl⟩) ?_
                                refine W.eq (g2 := F0 m 175 ls [.int (b2i (m_later (μ 1) n x u))]) rfl ?_
                                refine lv_istore (lv' := [(10, .int (b2i (m_later (μ 1) n x u))), (9, .int ((-1))), (8, .int ((-1))), (7, .int (nI n)), (0, .ref (am (0))), (1, .int (x)), (2, .int (u)), (3, .int (r)), (4, .int (c1)), (5, .int (lf)), (6, .int (z))]) hx hb dX10_addsPrint_175 hl (by decide) rfl (fun ls hl => ?_)
                                refine lv_aload_n hx hb dX10_addsPrint_177 rfl (lv_at hl 4 rfl) ?_
                                refine lv_aload_n hx hb dX10_addsPrint_178 rfl (lv_at hl 4 rfl) ?_
                                refine sp_get hx hb hts wi_X10_addsPrint_X10 hown hK hP (κ := 0) (by decide) mE_0 rfl 1 (by decide) (hts _ (List.mem_of_getElem? (i := 1) rfl)) (fun _ h => h) rfl dX10_addsPrint_179 ?_
                                refine lv_iconst (v := 3) hx hb dX10_addsPrint_182 (by decide) ?_
                                refine sp_iald hx hb hK hP (κ := 1) (by decide) 1 mE_1 rfl 3 rfl (by omega) (by decide) dX10_addsPrint_183 ?_
                                refine sp_put hx hb hts wi_X10_addsPrint_X10 tyX10 tyX10_ok nmX10 hown hK hP hi hAk hS (κ := 0) (by decide) mE_0 rfl 4 (by decide) (hts _ (List.mem_of_getElem? (i := 2) rfl)) (fun _ h => h) rfl (ty := tyX10 4) (by decide +kernel) ⟨rfl, rfl⟩ (Nat.le_of_ble_eq_true rfl) (r1 := upd (μ 0) 4 (μ 1 3)) (cE_of mE_0 (by simp [upd])) dX10_addsPrint_184 (fun H locs hP hS => ?_)
                                have hP : va_P D vwCl (mW am cy (sp_st μ 0 4 (μ 1 3))) H := hP
                                refine lv_aload_n hx hb dX10_addsPrint_187 rfl (lv_at hl 4 rfl) ?_
                                refine sp_get hx hb hts wi_X10_addsPrint_X10 hown hK hP (κ := 0) (by decide) mE_0 rfl 1 (by decide) (hts _ (List.mem_of_getElem? (i := 1) rfl)) (fun _ h => h) rfl dX10_addsPrint_188 ?_
                                refine lv_iconst (v := 3) hx hb dX10_addsPrint_191 (by decide) ?_
                                refine lv_dup2_11 hx hb dX10_addsPrint_192 rfl rfl ?_
                                refine sp_iald hx hb hK hP (κ := 1) (by decide) 1 mE_1 rfl 3 rfl (by omega) (by decide) dX10_addsPrint_193 ?_
                                refine W.eq (g2 := F0 m 194 ls [.int (μ 1 3), .int (3), .ref (am (1))]) (by rw [sp_st_k _ _ _ _ _ _ (by decide)]) ?_
                                refine lv_iconst (v := 1) hx hb dX10_addsPrint_194 (by decide) ?_
                                refine lv_iadd hx hb dX10_addsPrint_195 ?_
                                refine sp_iast hx hb hK hP hi hAk hS (κ := 1) (by decide) 1 mE_1 rfl 3 rfl (by omega) (by decide) (r1 := upd ((sp_st μ 0 4 (μ 1 3)) 1) 3 ((μ 1 3) + 1)) mE_1 dX10_addsPrint_196 (fun H locs hP hS => ?_)
                                have hP : va_P D vwCl (mW am cy (sp_st (sp_st μ 0 4 (μ 1 3)) 1 3 ((μ 1 3) + 1))) H := hP
                                refine lv_aload_n hx hb dX10_addsPrint_197 rfl (lv_at hl 4 rfl) ?_
                                refine sp_get hx hb hts wi_X10_addsPrint_X10 hown hK hP (κ := 0) (by decide) mE_0 rfl 1 (by decide) (hts _ (List.mem_of_getElem? (i := 1) rfl)) (fun _ h => h) rfl dX10_addsPrint_198 ?_
                                refine lv_iconst (v := 1) hx hb dX10_addsPrint_201 (by decide) ?_
                                refine lv_dup2_11 hx hb dX10_addsPrint_202 rfl rfl ?_
                                refine sp_iald hx hb hK hP (κ := 1) (by decide) 1 mE_1 rfl 1 rfl (by omega) (by decide) dX10_addsPrint_203 ?_
                                refine W.eq (g2 := F0 m 204 ls [.int (μ 1 1), .int (1), .ref (am (1))]) (by rw [sp_st_j _ _ _ _ _ _ (by decide), sp_st_k _ _ _ _ _ _ (by decide)]) ?_
                                refine W.eq (g2 := F0 m 204 ls [.int (nI n), .int (1), .ref (am (1))]) (by rw [hM.1]) ?_
                                refine lv_iconst (v := 1) hx hb dX10_addsPrint_204 (by decide) ?_
                                refine lv_iadd hx hb dX10_addsPrint_205 ?_
                                refine sp_iast hx hb hK hP hi hAk hS (κ := 1) (by decide) 1 mE_1 rfl 1 rfl (by omega) (by decide) (r1 := upd ((sp_st (sp_st μ 0 4 (μ 1 3)) 1 3 ((μ 1 3) + 1)) 1) 1 ((nI n) + 1)) mE_1 dX10_addsPrint_206 (fun H locs hP hS => ?_)
                                have hP : va_P D vwCl (mW am cy (sp_st (sp_st (sp_st μ 0 4 (μ 1 3)) 1 3 ((μ 1 3) + 1)) 1 1 ((nI n) + 1))) H := hP
                                refine lv_aload_n hx hb dX10_addsPrint_207 rfl (lv_at hl 4 rfl) ?_
                                refine lv_iload hx hb dX10_addsPrint_208 (lv_at hl 3 rfl) ?_
                                refine lv_iconst (v := 0) hx hb dX10_addsPrint_210 (by decide) ?_
                                refine lv_aload_n hx hb dX10_addsPrint_211 rfl (lv_at hl 4 rfl) ?_
                                refine sp_get hx hb hts wi_X10_addsPrint_X10 hown hK hP (κ := 0) (by decide) mE_0 rfl 4 (by decide) (hts _ (List.mem_of_getElem? (i := 2) rfl)) (fun _ h => h) rfl dX10_addsPrint_212 ?_
                                refine W.eq (g2 := F0 m 215 ls [.int (μ 1 3), .int (0), .int (nI n), .ref (am (0))]) (by rw [sp_st_k _ _ _ _ _ _ (by omega), sp_st_k _ _ _ _ _ _ (by omega), sp_st_s]) ?_
                                refine sp_callm (va_runV (As := [.int (nI n), .int (0), .int (μ 1 3)]) (rest := []) ⟨hx, hb, hml, hown, hts⟩ (c_X10_set l D am cy (sp_st (sp_st (sp_st μ 0 4 (μ 1 3)) 1 3 ((μ 1 3) + 1)) 1 1 ((nI n) + 1)) _ hi n (by omega) 0 (by omega) (μ 1 3)) (cwV 3 hts gX10_addsPrint_X10_set rfl rfl rfl (by decide +kernel) ⟨Nat.le_of_ble_eq_true rfl, Nat.le_of_ble_eq_true rfl⟩) (sp_preVm hK hP (κ := 0) (by decide) mE_0 rfl) rfl rfl hl.1 rfl (lv_room (Nat.le_of_ble_eq_true rfl)) dX10_addsPrint_215 ⟨Nat.le_of_ble_eq_true rfl, Nat.le_of_ble_eq_true rfl⟩) hS (fun q h1 h2 => sp_Alt h1 h2) (sp_Ale hS.1) (fun H locs hP hle hfr hS => ?_)
                                refine W.eq (g2 := F0 m 218 ls []) rfl ?_
                                refine lv_aload_n hx hb dX10_addsPrint_218 rfl (lv_at hl 4 rfl) ?_
                                refine lv_iload hx hb dX10_addsPrint_219 (lv_at hl 3 rfl) ?_
                                refine lv_iconst (v := 1) hx hb dX10_addsPrint_221 (by decide) ?_
                                refine lv_iload_n hx hb dX10_addsPrint_222 rfl (lv_at hl 5 rfl) ?_
                                refine sp_callm (va_runV (As := [.int (nI n), .int (1), .int (x)]) (rest := []) ⟨hx, hb, hml, hown, hts⟩ (c_X10_set l D am cy (sp_st (sp_st (sp_st (sp_st μ 0 4 (μ 1 3)) 1 3 ((μ 1 3) + 1)) 1 1 ((nI n) + 1)) 1 (19 + 9 * n + 0) (μ 1 3)) _ hi n (by omega) 1 (by omega) x) (cwV 3 hts gX10_addsPrint_X10_set rfl rfl rfl (by decide +kernel) ⟨Nat.le_of_ble_eq_true rfl, Nat.le_of_ble_eq_true rfl⟩) (sp_preVm hK hP (κ := 0) (by decide) mE_0 rfl) rfl rfl hl.1 rfl (lv_room (Nat.le_of_ble_eq_true rfl)) dX10_addsPrint_223 ⟨Nat.le_of_ble_eq_true rfl, Nat.le_of_ble_eq_true rfl⟩) hS (fun q h1 h2 => sp_Alt h1 h2) (sp_Ale hS.1) (fun H locs hP hle hfr hS => ?_)
                                refine W.eq (g2 := F0 m 226 ls []) rfl ?_
                                refine lv_aload_n hx hb dX10_addsPrint_226 rfl (lv_at hl 4 rfl) ?_
                                refine lv_iload hx hb dX10_addsPrint_227 (lv_at hl 3 rfl) ?_
                                refine lv_iconst (v := 2) hx hb dX10_addsPrint_229 (by decide) ?_
                                refine lv_iload_n hx hb dX10_addsPrint_230 rfl (lv_at hl 6 rfl) ?_
                                refine sp_callm (va_runV (As := [.int (nI n), .int (2), .int (u)]) (rest := []) ⟨hx, hb, hml, hown, hts⟩ (c_X10_set l D am cy (sp_st (sp_st (sp_st (sp_st (sp_st μ 0 4 (μ 1 3)) 1 3 ((μ 1 3) + 1)) 1 1 ((nI n) + 1)) 1 (19 + 9 * n + 0) (μ 1 3)) 1 (19 + 9 * n + 1) x) _ hi n (by omega) 2 (by omega) u) (cwV 3 hts gX10_addsPrint_X10_set rfl rfl rfl (by decide +kernel) ⟨Nat.le_of_ble_eq_true rfl, Nat.le_of_ble_eq_true rfl⟩) (sp_preVm hK hP (κ := 0) (by decide) mE_0 rfl) rfl rfl hl.1 rfl (lv_room (Nat.le_of_ble_eq_true rfl)) dX10_addsPrint_231 ⟨Nat.le_of_ble_eq_true rfl, Nat.le_of_ble_eq_true rfl⟩) hS (fun q h1 h2 => sp_Alt h1 h2) (sp_Ale hS.1) (fun H locs hP hle hfr hS => ?_)
                                refine W.eq (g2 := F0 m 234 ls []) rfl ?_
                                refine lv_aload_n hx hb dX10_addsPrint_234 rfl (lv_at hl 4 rfl) ?_
                                refine lv_iload hx hb dX10_addsPrint_235 (lv_at hl 3 rfl) ?_
                                refine lv_iconst (v := 3) hx hb dX10_addsPrint_237 (by decide) ?_
                                refine lv_iload_n hx hb dX10_addsPrint_238 rfl (lv_at hl 7 rfl) ?_
                                refine sp_callm (va_runV (As := [.int (nI n), .int (3), .int (r)]) (rest := []) ⟨hx, hb, hml, hown, hts⟩ (c_X10_set l D am cy (sp_st (sp_st (sp_st (sp_st (sp_st (sp_st μ 0 4 (μ 1 3)) 1 3 ((μ 1 3) + 1)) 1 1 ((nI n) + 1)) 1 (19 + 9 * n + 0) (μ 1 3)) 1 (19 + 9 * n + 1) x) 1 (19 + 9 * n + 2) u) _ hi n (by omega) 3 (by omega) r) (cwV 3 hts gX10_addsPrint_X10_set rfl rfl rfl (by decide +kernel) ⟨Nat.le_of_ble_eq_true rfl, Nat.le_of_ble_eq_true rfl⟩) (sp_preVm hK hP (κ := 0) (by decide) mE_0 rfl) rfl rfl hl.1 rfl (lv_room (Nat.le_of_ble_eq_true rfl)) dX10_addsPrint_239 ⟨Nat.le_of_ble_eq_true rfl, Nat.le_of_ble_eq_true rfl⟩) hS (fun q h1 h2 => sp_Alt h1 h2) (sp_Ale hS.1) (fun H locs hP hle hfr hS => ?_)
                                refine W.eq (g2 := F0 m 242 ls []) rfl ?_
                                refine lv_aload_n hx hb dX10_addsPrint_242 rfl (lv_at hl 4 rfl) ?_
                                refine lv_iload hx hb dX10_addsPrint_243 (lv_at hl 3 rfl) ?_
                                refine lv_iconst (v := 4) hx hb dX10_addsPrint_245 (by decide) ?_
                                refine lv_iload hx hb dX10_addsPrint_246 (lv_at hl 8 rfl) ?_
                                refine sp_callm (va_runV (As := [.int (nI n), .int (4), .int (c1)]) (rest := []) ⟨hx, hb, hml, hown, hts⟩ (c_X10_set l D am cy (sp_st (sp_st (sp_st (sp_st (sp_st (sp_st (sp_st μ 0 4 (μ 1 3)) 1 3 ((μ 1 3) + 1)) 1 1 ((nI n) + 1)) 1 (19 + 9 * n + 0) (μ 1 3)) 1 (19 + 9 * n + 1) x) 1 (19 + 9 * n + 2) u) 1 (19 + 9 * n + 3) r) _ hi n (by omega) 4 (by omega) c1) (cwV 3 hts gX10_addsPrint_X10_set rfl rfl rfl (by decide +kernel) ⟨Nat.le_of_ble_eq_true rfl, Nat.le_of_ble_eq_true rfl⟩) (sp_preVm hK hP (κ := 0) (by decide) mE_0 rfl) rfl rfl hl.1 rfl (lv_room (Nat.le_of_ble_eq_true rfl)) dX10_addsPrint_248 ⟨Nat.le_of_ble_eq_true rfl, Nat.le_of_ble_eq_true rfl⟩) hS (fun q h1 h2 => sp_Alt h1 h2) (sp_Ale hS.1) (fun H locs hP hle hfr hS => ?_)
                                refine W.eq (g2 := F0 m 251 ls []) rfl ?_
                                refine lv_aload_n hx hb dX10_addsPrint_251 rfl (lv_at hl 4 rfl) ?_
                                refine lv_iload hx hb dX10_addsPrint_252 (lv_at hl 3 rfl) ?_
                                refine lv_iconst (v := 5) hx hb dX10_addsPrint_254 (by decide) ?_
                                refine lv_iload hx hb dX10_addsPrint_255 (lv_at hl 9 rfl) ?_
                                refine sp_callm (va_runV (As := [.int (nI n), .int (5), .int (lf)]) (rest := []) ⟨hx, hb, hml, hown, hts⟩ (c_X10_set l D am cy (sp_st (sp_st (sp_st (sp_st (sp_st (sp_st (sp_st (sp_st μ 0 4 (μ 1 3)) 1 3 ((μ 1 3) + 1)) 1 1 ((nI n) + 1)) 1 (19 + 9 * n + 0) (μ 1 3)) 1 (19 + 9 * n + 1) x) 1 (19 + 9 * n + 2) u) 1 (19 + 9 * n + 3) r) 1 (19 + 9 * n + 4) c1) _ hi n (by omega) 5 (by omega) lf) (cwV 3 hts gX10_addsPrint_X10_set rfl rfl rfl (by decide +kernel) ⟨Nat.le_of_ble_eq_true rfl, Nat.le_of_ble_eq_true rfl⟩) (sp_preVm hK hP (κ := 0) (by decide) mE_0 rfl) rfl rfl hl.1 rfl (lv_room (Nat.le_of_ble_eq_true rfl)) dX10_addsPrint_257 ⟨Nat.le_of_ble_eq_true rfl, Nat.le_of_ble_eq_true rfl⟩) hS (fun q h1 h2 => sp_Alt h1 h2) (sp_Ale hS.1) (fun H locs hP hle hfr hS => ?_)
                                refine W.eq (g2 := F0 m 260 ls []) rfl ?_
                                refine lv_aload_n hx hb dX10_addsPrint_260 rfl (lv_at hl 4 rfl) ?_
                                refine lv_iload hx hb dX10_addsPrint_261 (lv_at hl 3 rfl) ?_
                                refine lv_bipush (v := 6) hx hb dX10_addsPrint_263 (by decide) ?_
                                refine lv_iload hx hb dX10_addsPrint_265 (lv_at hl 10 rfl) ?_
                                refine sp_callm (va_runV (As := [.int (nI n), .int (6), .int (z)]) (rest := []) ⟨hx, hb, hml, hown, hts⟩ (c_X10_set l D am cy (sp_st (sp_st (sp_st (sp_st (sp_st (sp_st (sp_st (sp_st (sp_st μ 0 4 (μ 1 3)) 1 3 ((μ 1 3) + 1)) 1 1 ((nI n) + 1)) 1 (19 + 9 * n + 0) (μ 1 3)) 1 (19 + 9 * n + 1) x) 1 (19 + 9 * n + 2) u) 1 (19 + 9 * n + 3) r) 1 (19 + 9 * n + 4) c1) 1 (19 + 9 * n + 5) lf) _ hi n (by omega) 6 (by omega) z) (cwV 3 hts gX10_addsPrint_X10_set rfl rfl rfl (by decide +kernel) ⟨Nat.le_of_ble_eq_true rfl, Nat.le_of_ble_eq_true rfl⟩) (sp_preVm hK hP (κ := 0) (by decide) mE_0 rfl) rfl rfl hl.1 rfl (lv_room (Nat.le_of_ble_eq_true rfl)) dX10_addsPrint_267 ⟨Nat.le_of_ble_eq_true rfl, Nat.le_of_ble_eq_true rfl⟩) hS (fun q h1 h2 => sp_Alt h1 h2) (sp_Ale hS.1) (fun H locs hP hle hfr hS => ?_)
                                refine W.eq (g2 := F0 m 270 ls []) rfl ?_
                                refine lv_aload_n hx hb dX10_addsPrint_270 rfl (lv_at hl 4 rfl) ?_
                                refine lv_iload hx hb dX10_addsPrint_271 (lv_at hl 3 rfl) ?_
                                refine lv_bipush (v := 7) hx hb dX10_addsPrint_273 (by decide) ?_
                                refine lv_iconst (v := 0) hx hb dX10_addsPrint_275 (by decide) ?_
                                refine sp_callm (va_runV (As := [.int (nI n), .int (7), .int (0)]) (rest := []) ⟨hx, hb, hml, hown, hts⟩ (c_X10_set l D am cy (sp_st (sp_st (sp_st (sp_st (sp_st (sp_st (sp_st (sp_st (sp_st (sp_st μ 0 4 (μ 1 3)) 1 3 ((μ 1 3) + 1)) 1 1 ((nI n) + 1)) 1 (19 + 9 * n + 0) (μ 1 3)) 1 (19 + 9 * n + 1) x) 1 (19 + 9 * n + 2) u) 1 (19 + 9 * n + 3) r) 1 (19 + 9 * n + 4) c1) 1 (19 + 9 * n + 5) lf) 1 (19 + 9 * n + 6) z) _ hi n (by omega) 7 (by omega) 0) (cwV 3 hts gX10_addsPrint_X10_set rfl rfl rfl (by decide +kernel) ⟨Nat.le_of_ble_eq_true rfl, Nat.le_of_ble_eq_true rfl⟩) (sp_preVm hK hP (κ := 0) (by decide) mE_0 rfl) rfl rfl hl.1 rfl (lv_room (Nat.le_of_ble_eq_true rfl)) dX10_addsPrint_276 ⟨Nat.le_of_ble_eq_true rfl, Nat.le_of_ble_eq_true rfl⟩) hS (fun q h1 h2 => sp_Alt h1 h2) (sp_Ale hS.1) (fun H locs hP hle hfr hS => ?_)
                                refine W.eq (g2 := F0 m 279 ls []) rfl ?_
                                refine lv_aload_n hx hb dX10_addsPrint_279 rfl (lv_at hl 4 rfl) ?_
                                refine lv_iload hx hb dX10_addsPrint_280 (lv_at hl 3 rfl) ?_
                                refine lv_bipush (v := 8) hx hb dX10_addsPrint_282 (by decide) ?_
                                refine lv_iload hx hb dX10_addsPrint_284 (lv_at hl 0 rfl) ?_
                                refine sp_callm (va_runV (As := [.int (nI n), .int (8), .int (b2i (m_later (μ 1) n x u))]) (rest := []) ⟨hx, hb, hml, hown, hts⟩ (c_X10_set l D am cy (sp_st (sp_st (sp_st (sp_st (sp_st (sp_st (sp_st (sp_st (sp_st (sp_st (sp_st μ 0 4 (μ 1 3)) 1 3 ((μ 1 3) + 1)) 1 1 ((nI n) + 1)) 1 (19 + 9 * n + 0) (μ 1 3)) 1 (19 + 9 * n + 1) x) 1 (19 + 9 * n + 2) u) 1 (19 + 9 * n + 3) r) 1 (19 + 9 * n + 4) c1) 1 (19 + 9 * n + 5) lf) 1 (19 + 9 * n + 6) z) 1 (19 + 9 * n + 7) 0) _ hi n (by omega) 8 (by omega) (b2i (m_later (μ 1) n x u))) (cwV 3 hts gX10_addsPrint_X10_set rfl rfl rfl (by decide +kernel) ⟨Nat.le_of_ble_eq_true rfl, Nat.le_of_ble_eq_true rfl⟩) (sp_preVm hK hP (κ := 0) (by decide) mE_0 rfl) rfl rfl hl.1 rfl (lv_room (Nat.le_of_ble_eq_true rfl)) dX10_addsPrint_286 ⟨Nat.le_of_ble_eq_true rfl, Nat.le_of_ble_eq_true rfl⟩) hS (fun q h1 h2 => sp_Alt h1 h2) (sp_Ale hS.1) (fun H locs hP hle hfr hS => ?_)
                                refine W.eq (g2 := F0 m 289 ls []) rfl ?_
                                refine lv_iconst (v := 0) hx hb dX10_addsPrint_289 (by decide) ?_
                                have hE9 : mW am cy (sp_st (sp_st (sp_st (sp_st (sp_st (sp_st (sp_st (sp_st (sp_st (sp_st (sp_st (sp_st μ 0 4 (μ 1 3)) 1 3 ((μ 1 3) + 1)) 1 1 ((nI n) + 1)) 1 (19 + 9 * n + 0) (μ 1 3)) 1 (19 + 9 * n + 1) x) 1 (19 + 9 * n + 2) u) 1 (19 + 9 * n + 3) r) 1 (19 + 9 * n + 4) c1) 1 (19 + 9 * n + 5) lf) 1 (19 + 9 * n + 6) z) 1 (19 + 9 * n + 7) 0) 1 (19 + 9 * n + 8) (b2i (m_later (μ 1) n x u))) = mW am cy (m_addP μ n t x u r c1 lf z) := by exact mW_eq (by simp [m_addP, m_objP, m_rejO, m_new, m_idAt, b2i, m_addPv, m_objP, q_1, c_4, c_4d, c_5, c_6, c_7, q_8, q_10, c_12, c_16, c_16d])
                                have hP : va_P D vwCl (mW am cy (m_addP μ n t x u r c1 lf z)) H := by rw [← hE9]; exact hP
                                exact W.iret (v := 0) hx hb hr (fun T9 hT9 _ => ⟨congrArg (fun z9 => Outcome.returned (some (Value.int z9))) (show (0 : Int32) = m_addPv (μ 1) n t x u r c1 z from (by first | rfl | (simp [m_addPv, m_objP, b2i, q_1, c_4, c_4d, c_5, c_6, c_7, q_8, q_10, c_12, c_16, c_16d]; done))), by rw [hT9]; exact hP, hS.F hT9⟩) hS.2.2 dX10_addsPrint_290
                              · exact absurd c_19 (by decide)
                            · exact absurd c_18 (by decide)
                        · skip
                          have c_16d := Int32.not_le.mp c_16
                          refine lv_iconst (v := 1) hx hb dX10_addsPrint_125 (by decide) ?_
                          refine lv_goto (tgt := 130) hx hb dX10_addsPrint_126 (by decide) ?_
                          refine lv_iconst (v := 4) hx hb dX10_addsPrint_130 (by decide) ?_
                          refine lv_aload_n hx hb dX10_addsPrint_131 rfl (lv_at hl 3 rfl) ?_
                          refine sp_get hx hb hts wi_X10_addsPrint_X10 hown hK hP (κ := 0) (by decide) mE_0 rfl 1 (by decide) (hts _ (List.mem_of_getElem? (i := 1) rfl)) (fun _ h => h) rfl dX10_addsPrint_132 ?_
                          refine lv_iconst (v := 4) hx hb dX10_addsPrint_135 (by decide) ?_
                          refine sp_iald hx hb hK hP (κ := 1) (by decide) 1 mE_1 rfl 4 rfl (by omega) (by decide) dX10_addsPrint_136 ?_
                          refine sp_callm (va_runV (As := [.int (1), .int (4), .int (μ 1 4)]) (rest := []) ⟨hx, hb, hml, hown, hts⟩ (c_X10_rejects_1 l D am cy μ _ hi 4 (μ 1 4)) (cwV 3 hts gX10_addsPrint_X10_rejects rfl rfl rfl (by decide +kernel) ⟨Nat.le_of_ble_eq_true rfl, Nat.le_of_ble_eq_true rfl⟩) (sp_preVm hK hP (κ := 0) (by decide) mE_0 rfl) rfl rfl hl.1 rfl (lv_room (Nat.le_of_ble_eq_true rfl)) dX10_addsPrint_137 ⟨Nat.le_of_ble_eq_true rfl, Nat.le_of_ble_eq_true rfl⟩) hS (fun q h1 h2 => sp_Alt h1 h2) (sp_Ale hS.1) (fun H locs hP hle hfr hS => ?_)
                          refine W.eq (g2 := F0 m 140 ls [.int (1)]) rfl ?_
                          refine lv_if_ne (tgt := 167) hx hb dX10_addsPrint_140 (by decide) (fun c_20 => ?_) (fun c_20 => ?_)
                          · skip
                            refine lv_iconst (v := 3) hx hb dX10_addsPrint_167 (by decide) ?_
                            have hE9 : mW am cy (m_rej μ 4 (μ 1 4)) = mW am cy (m_addP μ n t x u r c1 lf z) := by exact mW_eq (by simp [m_addP, m_objP, m_rejO, m_new, m_idAt, b2i, m_addPv, m_objP, q_1, c_4, c_4d, c_5, c_6, c_7, q_8, q_10, c_12, c_16, c_16d])
                            have hP : va_P D vwCl (mW am cy (m_addP μ n t x u r c1 lf z)) H := by rw [← hE9]; exact hP
                            exact W.iret (v := 3) hx hb hr (fun T9 hT9 _ => ⟨congrArg (fun z9 => Outcome.returned (some (Value.int z9))) (show (3 : Int32) = m_addPv (μ 1) n t x u r c1 z from (by first | rfl | (simp [m_addPv, m_objP, b2i, q_1, c_4, c_4d, c_5, c_6, c_7, q_8, q_10, c_12, c_16, c_16d]; done))), by rw [hT9]; exact hP, hS.F hT9⟩) hS.2.2 dX10_addsPrint_168
                          · exact absurd c_20 (by decide)
                    · exact absurd c_14 (by decide)
                · skip
                  refine lv_iconst (v := 1) hx hb dX10_addsPrint_76 (by decide) ?_
                  refine lv_goto (tgt := 81) hx hb dX10_addsPrint_77 (by decide) ?_
                  refine lv_iconst (v := 2) hx hb dX10_addsPrint_81 (by decide) ?_
                  refine lv_bipush (v := 30) hx hb dX10_addsPrint_82 (by decide) ?_
                  refine sp_callm (va_runV (As := [.int (1), .int (2), .int (30)]) (rest := []) ⟨hx, hb, hml, hown, hts⟩ (c_X10_rejects_1 l D am cy μ _ hi 2 30) (cwV 3 hts gX10_addsPrint_X10_rejects rfl rfl rfl (by decide +kernel) ⟨Nat.le_of_ble_eq_true rfl, Nat.le_of_ble_eq_true rfl⟩) (sp_preVm hK hP (κ := 0) (by decide) mE_0 rfl) rfl rfl hl.1 rfl (lv_room (Nat.le_of_ble_eq_true rfl)) dX10_addsPrint_84 ⟨Nat.le_of_ble_eq_true rfl, Nat.le_of_ble_eq_true rfl⟩) hS (fun q h1 h2 => sp_Alt h1 h2) (sp_Ale hS.1) (fun H locs hP hle hfr hS => ?_)
                  refine W.eq (g2 := F0 m 87 ls [.int (1)]) rfl ?_
                  refine lv_if_ne (tgt := 167) hx hb dX10_addsPrint_87 (by decide) (fun c_21 => ?_) (fun c_21 => ?_)
                  · skip
                    refine lv_iconst (v := 3) hx hb dX10_addsPrint_167 (by decide) ?_
                    have hE9 : mW am cy (m_rej μ 2 30) = mW am cy (m_addP μ n t x u r c1 lf z) := by exact mW_eq (by simp [m_addP, m_objP, m_rejO, m_new, m_idAt, b2i, m_addPv, m_objP, q_1, c_4, c_4d, c_5, c_6, c_7, q_8, q_10, c_12])
                    have hP : va_P D vwCl (mW am cy (m_addP μ n t x u r c1 lf z)) H := by rw [← hE9]; exact hP
                    exact W.iret (v := 3) hx hb hr (fun T9 hT9 _ => ⟨congrArg (fun z9 => Outcome.returned (some (Value.int z9))) (show (3 : Int32) = m_addPv (μ 1) n t x u r c1 z from (by first | rfl | (simp [m_addPv, m_objP, b2i, q_1, c_4, c_4d, c_5, c_6, c_7, q_8, q_10, c_12]; done))), by rw [hT9]; exact hP, hS.F hT9⟩) hS.2.2 dX10_addsPrint_168
                  · exact absurd c_21 (by decide)
              · have hj_11 := m_cell_lt q_10
                refine W.eq (g2 := F0 m 66 ls [.int (nI j_11)]) (by rw [q_10]; rfl) ?_
                refine lv_istore (lv' := [(9, .int (nI j_11)), (8, .int ((-1))), (7, .int (nI n)), (0, .ref (am (0))), (1, .int (x)), (2, .int (u)), (3, .int (r)), (4, .int (c1)), (5, .int (lf)), (6, .int (z))]) hx hb dX10_addsPrint_66 hl (by decide) rfl (fun ls hl => ?_)
                refine lv_aload_n hx hb dX10_addsPrint_68 rfl (lv_at hl 3 rfl) ?_
                refine lv_iload hx hb dX10_addsPrint_69 (lv_at hl 2 rfl) ?_
                refine lv_bipush (v := 30) hx hb dX10_addsPrint_71 (by decide) ?_
                refine lv_icmp_ne (tgt := 80) hx hb dX10_addsPrint_73 (by decide) (fun c_22 => ?_) (fun c_22 => ?_)
                · skip
                  have hn29 : n < 30 := nI_lt30 c_22 hn30
                  refine lv_iconst (v := 0) hx hb dX10_addsPrint_80 (by decide) ?_
                  refine lv_iconst (v := 2) hx hb dX10_addsPrint_81 (by decide) ?_
                  refine lv_bipush (v := 30) hx hb dX10_addsPrint_82 (by decide) ?_
                  refine sp_callm (va_runV (As := [.int (0), .int (2), .int (30)]) (rest := []) ⟨hx, hb, hml, hown, hts⟩ (c_X10_rejects_0 l D am cy μ _ hi 2 30) (cwV 3 hts gX10_addsPrint_X10_rejects rfl rfl rfl (by decide +kernel) ⟨Nat.le_of_ble_eq_true rfl, Nat.le_of_ble_eq_true rfl⟩) (sp_preVm hK hP (κ := 0) (by decide) mE_0 rfl) rfl rfl hl.1 rfl (lv_room (Nat.le_of_ble_eq_true rfl)) dX10_addsPrint_84 ⟨Nat.le_of_ble_eq_true rfl, Nat.le_of_ble_eq_true rfl⟩) hS (fun q h1 h2 => sp_Alt h1 h2) (sp_Ale hS.1) (fun H locs hP hle hfr hS => ?_)
                  refine W.eq (g2 := F0 m 87 ls [.int (0)]) rfl ?_
                  refine lv_if_ne (tgt := 167) hx hb dX10_addsPrint_87 (by decide) (fun c_23 => ?_) (fun c_23 => ?_)
                  · exact absurd c_23 (by decide)
                  · skip
                    refine lv_aload_n hx hb dX10_addsPrint_90 rfl (lv_at hl 3 rfl) ?_
                    refine lv_iload hx hb dX10_addsPrint_91 (lv_at hl 1 rfl) ?_
                    refine lv_if_lt (tgt := 100) hx hb dX10_addsPrint_93 (by decide) (fun c_24 => ?_) (fun c_24 => ?_)
                    · skip
                      refine lv_iconst (v := 0) hx hb dX10_addsPrint_100 (by decide) ?_
                      refine lv_iconst (v := 3) hx hb dX10_addsPrint_101 (by decide) ?_
                      refine lv_aload_n hx hb dX10_addsPrint_102 rfl (lv_at hl 3 rfl) ?_
                      refine lv_iload hx hb dX10_addsPrint_103 (lv_at hl 1 rfl) ?_
                      refine sp_call (W.runV (As := [.int ((-1))]) (rest := [.int (3), .int (0), .ref (am (0))]) ⟨hx, hb, hml, hown, hts⟩ (c_X10_idAt l D am cy μ n t (by first | exact hM | exact hi_0 | (repeat first | exact hM | exact hi_0 | refine MS.st0 ?_ | refine MS.st ?_ (by omega))) (none : Option Nat) (by intro j hj; first | (cases hj; done) | (cases hj; omega))) (cwV 1 hts gX10_addsPrint_X10_idAt rfl rfl rfl (by decide +kernel) ⟨Nat.le_of_ble_eq_true rfl, Nat.le_of_ble_eq_true rfl⟩) (sp_preV hK hP (κ := 0) (by decide) mE_0 rfl) rfl rfl hl.1 rfl (lv_room (Nat.le_of_ble_eq_true rfl)) dX10_addsPrint_105 ⟨Nat.le_of_ble_eq_true rfl, Nat.le_of_ble_eq_true rfl⟩) ?_
                      refine W.eq (g2 := F0 m 108 ls [.int (m_idAt (μ 1) (none : Option Nat)), .int (3), .int (0), .ref (am (0))]) rfl ?_
                      refine sp_callm (va_runV (As := [.int (0), .int (3), .int (m_idAt (μ 1) (none : Option Nat))]) (rest := []) ⟨hx, hb, hml, hown, hts⟩ (c_X10_rejects_0 l D am cy μ _ hi 3 (m_idAt (μ 1) (none : Option Nat))) (cwV 3 hts gX10_addsPrint_X10_rejects rfl rfl rfl (by decide +kernel) ⟨Nat.le_of_ble_eq_true rfl, Nat.le_of_ble_eq_true rfl⟩) (sp_preVm hK hP (κ := 0) (by decide) mE_0 rfl) rfl rfl hl.1 rfl (lv_room (Nat.le_of_ble_eq_true rfl)) dX10_addsPrint_108 ⟨Nat.le_of_ble_eq_true rfl, Nat.le_of_ble_eq_true rfl⟩) hS (fun q h1 h2 => sp_Alt h1 h2) (sp_Ale hS.1) (fun H locs hP hle hfr hS => ?_)
                      refine W.eq (g2 := F0 m 111 ls [.int (0)]) rfl ?_
                      refine lv_if_ne (tgt := 167) hx hb dX10_addsPrint_111 (by decide) (fun c_25 => ?_) (fun c_25 => ?_)
                      · exact absurd c_25 (by decide)
                      · skip
                        refine lv_aload_n hx hb dX10_addsPrint_114 rfl (lv_at hl 3 rfl) ?_
                        refine lv_iload_n hx hb dX10_addsPrint_115 rfl (lv_at hl 6 rfl) ?_
                        refine lv_aload_n hx hb dX10_addsPrint_116 rfl (lv_at hl 3 rfl) ?_
                        refine sp_get hx hb hts wi_X10_addsPrint_X10 hown hK hP (κ := 0) (by decide) mE_0 rfl 1 (by decide) (hts _ (List.mem_of_getElem? (i := 1) rfl)) (fun _ h => h) rfl dX10_addsPrint_117 ?_
                        refine lv_iconst (v := 4) hx hb dX10_addsPrint_120 (by decide) ?_
                        refine sp_iald hx hb hK hP (κ := 1) (by decide) 1 mE_1 rfl 4 rfl (by omega) (by decide) dX10_addsPrint_121 ?_
                        refine lv_icmp_ge (tgt := 129) hx hb dX10_addsPrint_122 (by decide) (fun c_26 => ?_) (fun c_26 => ?_)
                        · skip
                          have c_26d := Int32.not_lt.mpr c_26
                          refine lv_iconst (v := 0) hx hb dX10_addsPrint_129 (by decide) ?_
                          refine lv_iconst (v := 4) hx hb dX10_addsPrint_130 (by decide) ?_
                          refine lv_aload_n hx hb dX10_addsPrint_131 rfl (lv_at hl 3 rfl) ?_
                          refine sp_get hx hb hts wi_X10_addsPrint_X10 hown hK hP (κ := 0) (by decide) mE_0 rfl 1 (by decide) (hts _ (List.mem_of_getElem? (i := 1) rfl)) (fun _ h => h) rfl dX10_addsPrint_132 ?_
                          refine lv_iconst (v := 4) hx hb dX10_addsPrint_135 (by decide) ?_
                          refine sp_iald hx hb hK hP (κ := 1) (by decide) 1 mE_1 rfl 4 rfl (by omega) (by decide) dX10_addsPrint_136 ?_
                          refine sp_callm (va_runV (As := [.int (0), .int (4), .int (μ 1 4)]) (rest := []) ⟨hx, hb, hml, hown, hts⟩ (c_X10_rejects_0 l D am cy μ _ hi 4 (μ 1 4)) (cwV 3 hts gX10_addsPrint_X10_rejects rfl rfl rfl (by decide +kernel) ⟨Nat.le_of_ble_eq_true rfl, Nat.le_of_ble_eq_true rfl⟩) (sp_preVm hK hP (κ := 0) (by decide) mE_0 rfl) rfl rfl hl.1 rfl (lv_room (Nat.le_of_ble_eq_true rfl)) dX10_addsPrint_137 ⟨Nat.le_of_ble_eq_true rfl, Nat.le_of_ble_eq_true rfl⟩) hS (fun q h1 h2 => sp_Alt h1 h2) (sp_Ale hS.1) (fun H locs hP hle hfr hS => ?_)
                          refine W.eq (g2 := F0 m 140 ls [.int (0)]) rfl ?_
                          refine lv_if_ne (tgt := 167) hx hb dX10_addsPrint_140 (by decide) (fun c_27 => ?_) (fun c_27 => ?_)
                          · exact absurd c_27 (by decide)
                          · skip
                            refine lv_aload_n hx hb dX10_addsPrint_143 rfl (lv_at hl 3 rfl) ?_
                            refine lv_iload hx hb dX10_addsPrint_144 (lv_at hl 0 rfl) ?_
                            refine lv_if_lt (tgt := 153) hx hb dX10_addsPrint_146 (by decide) (fun c_28 => ?_) (fun c_28 => ?_)
                            · exact absurd c_28 (nI_pos (by omega))
                            · skip
                              have c_28d := Int32.not_lt.mp c_28
                              refine lv_iconst (v := 1) hx hb dX10_addsPrint_149 (by decide) ?_
                              refine lv_goto (tgt := 154) hx hb dX10_addsPrint_150 (by decide) ?_
                              refine lv_iconst (v := 5) hx hb dX10_addsPrint_154 (by decide) ?_
                              refine lv_aload_n hx hb dX10_addsPrint_155 rfl (lv_at hl 3 rfl) ?_
                              refine lv_iload hx hb dX10_addsPrint_156 (lv_at hl 0 rfl) ?_
                              refine sp_call (W.runV (As := [.int (nI j_11)]) (rest := [.int (5), .int (1), .ref (am (0))]) ⟨hx, hb, hml, hown, hts⟩ (c_X10_idAt l D am cy μ n t (by first | exact hM | exact hi_0 | (repeat first | exact hM | exact hi_0 | refine MS.st0 ?_ | refine MS.st ?_ (by omega))) (some (j_11)) (by intro j hj; first | (cases hj; done) | (cases hj; omega))) (cwV 1 hts gX10_addsPrint_X10_idAt rfl rfl rfl (by decide +kernel) ⟨Nat.le_of_ble_eq_true rfl, Nat.le_of_ble_eq_true rfl⟩) (sp_preV hK hP (κ := 0) (by decide) mE_0 rfl) rfl rfl hl.1 rfl (lv_room (Nat.le_of_ble_eq_true rfl)) dX10_addsPrint_158 ⟨Nat.le_of_ble_eq_true rfl, Nat.le_of_ble_eq_true rfl⟩) ?_
                              refine W.eq (g2 := F0 m 161 ls [.int (m_idAt (μ 1) (some (j_11))), .int (5), .int (1), .ref (am (0))]) rfl ?_
                              refine sp_callm (va_runV (As := [.int (1), .int (5), .int (m_idAt (μ 1) (some (j_11)))]) (rest := []) ⟨hx, hb, hml, hown, hts⟩ (c_X10_rejects_1 l D am cy μ _ hi 5 (m_idAt (μ 1) (some (j_11)))) (cwV 3 hts gX10_addsPrint_X10_rejects rfl rfl rfl (by decide +kernel) ⟨Nat.le_of_ble_eq_true rfl, Nat.le_of_ble_eq_true rfl⟩) (sp_preVm hK hP (κ := 0) (by decide) mE_0 rfl) rfl rfl hl.1 rfl (lv_room (Nat.le_of_ble_eq_true rfl)) dX10_addsPrint_161 ⟨Nat.le_of_ble_eq_true rfl, Nat.le_of_ble_eq_true rfl⟩) hS (fun q h1 h2 => sp_Alt h1 h2) (sp_Ale hS.1) (fun H locs hP hle hfr hS => ?_)
                              refine W.eq (g2 := F0 m 164 ls [.int (1)]) rfl ?_
                              refine lv_if_eq (tgt := 169) hx hb dX10_addsPrint_164 (by decide) (fun c_29 => ?_) (fun c_29 => ?_)
                              · exact absurd c_29 (by decide)
                              · skip
                                refine lv_iconst (v := 3) hx hb dX10_addsPrint_167 (by decide) ?_
                                have hE9 : mW am cy (m_rej μ 5 (m_idAt (μ 1) (some (j_11)))) = mW am cy (m_addP μ n t x u r c1 lf z) := by exact mW_eq (by simp [m_addP, m_objP, m_rejO, m_new, m_idAt, b2i, m_addPv, m_objP, q_1, c_4, c_4d, c_5, c_6, c_7, q_8, q_10, c_22, c_26, c_26d, c_28, c_28d])
                                have hP : va_P D vwCl (mW am cy (m_addP μ n t x u r c1 lf z)) H := by rw [← hE9]; exact hP
                                exact W.iret (v := 3) hx hb hr (fun T9 hT9 _ => ⟨congrArg (fun z9 => Outcome.returned (some (Value.int z9))) (show (3 : Int32) = m_addPv (μ 1) n t x u r c1 z from (by first | rfl | (simp [m_addPv, m_objP, b2i, q_1, c_4, c_4d, c_5, c_6, c_7, q_8, q_10, c_22, c_26, c_26d, c_28, c_28d]; done))), by rw [hT9]; exact hP, hS.F hT9⟩) hS.2.2 dX10_addsPrint_168
                        · skip
                          have c_26d := Int32.not_le.mp c_26
                          refine lv_iconst (v := 1) hx hb dX10_addsPrint_125 (by decide) ?_
                          refine lv_goto (tgt := 130) hx hb dX10_addsPrint_126 (by decide) ?_
                          refine lv_iconst (v := 4) hx hb dX10_addsPrint_130 (by decide) ?_
                          refine lv_aload_n hx hb dX10_addsPrint_131 rfl (lv_at hl 3 rfl) ?_
                          refine sp_get hx hb hts wi_X10_addsPrint_X10 hown hK hP (κ := 0) (by decide) mE_0 rfl 1 (by decide) (hts _ (List.mem_of_getElem? (i := 1) rfl)) (fun _ h => h) rfl dX10_addsPrint_132 ?_
                          refine lv_iconst (v := 4) hx hb dX10_addsPrint_135 (by decide) ?_
                          refine sp_iald hx hb hK hP (κ := 1) (by decide) 1 mE_1 rfl 4 rfl (by omega) (by decide) dX10_addsPrint_136 ?_
                          refine sp_callm (va_runV (As := [.int (1), .int (4), .int (μ 1 4)]) (rest := []) ⟨hx, hb, hml, hown, hts⟩ (c_X10_rejects_1 l D am cy μ _ hi 4 (μ 1 4)) (cwV 3 hts gX10_addsPrint_X10_rejects rfl rfl rfl (by decide +kernel) ⟨Nat.le_of_ble_eq_true rfl, Nat.le_of_ble_eq_true rfl⟩) (sp_preVm hK hP (κ := 0) (by decide) mE_0 rfl) rfl rfl hl.1 rfl (lv_room (Nat.le_of_ble_eq_true rfl)) dX10_addsPrint_137 ⟨Nat.le_of_ble_eq_true rfl, Nat.le_of_ble_eq_true rfl⟩) hS (fun q h1 h2 => sp_Alt h1 h2) (sp_Ale hS.1) (fun H locs hP hle hfr hS => ?_)
                          refine W.eq (g2 := F0 m 140 ls [.int (1)]) rfl ?_
                          refine lv_if_ne (tgt := 167) hx hb dX10_addsPrint_140 (by decide) (fun c_30 => ?_) (fun c_30 => ?_)
                          · skip
                            refine lv_iconst (v := 3) hx hb dX10_addsPrint_167 (by decide) ?_
                            have hE9 : mW am cy (m_rej μ 4 (μ 1 4)) = mW am cy (m_addP μ n t x u r c1 lf z) := by exact mW_eq (by simp [m_addP, m_objP, m_rejO, m_new, m_idAt, b2i, m_addPv, m_objP, q_1, c_4, c_4d, c_5, c_6, c_7, q_8, q_10, c_22, c_26, c_26d])
                            have hP : va_P D vwCl (mW am cy (m_addP μ n t x u r c1 lf z)) H := by rw [← hE9]; exact hP
                            exact W.iret (v := 3) hx hb hr (fun T9 hT9 _ => ⟨congrArg (fun z9 => Outcome.returned (some (Value.int z9))) (show (3 : Int32) = m_addPv (μ 1) n t x u r c1 z from (by first | rfl | (simp [m_addPv, m_objP, b2i, q_1, c_4, c_4d, c_5, c_6, c_7, q_8, q_10, c_22, c_26, c_26d]; done))), by rw [hT9]; exact hP, hS.F hT9⟩) hS.2.2 dX10_addsPrint_168
                          · exact absurd c_30 (by decide)
                    · exact absurd c_24 (by decide)
                · skip
                  refine lv_iconst (v := 1) hx hb dX10_addsPrint_76 (by decide) ?_
                  refine lv_goto (tgt := 81) hx hb dX10_addsPrint_77 (by decide) ?_
                  refine lv_iconst (v := 2) hx hb dX10_addsPrint_81 (by decide) ?_
                  refine lv_bipush (v := 30) hx hb dX10_addsPrint_82 (by decide) ?_
                  refine sp_callm (va_runV (As := [.int (1), .int (2), .int (30)]) (rest := []) ⟨hx, hb, hml, hown, hts⟩ (c_X10_rejects_1 l D am cy μ _ hi 2 30) (cwV 3 hts gX10_addsPrint_X10_rejects rfl rfl rfl (by decide +kernel) ⟨Nat.le_of_ble_eq_true rfl, Nat.le_of_ble_eq_true rfl⟩) (sp_preVm hK hP (κ := 0) (by decide) mE_0 rfl) rfl rfl hl.1 rfl (lv_room (Nat.le_of_ble_eq_true rfl)) dX10_addsPrint_84 ⟨Nat.le_of_ble_eq_true rfl, Nat.le_of_ble_eq_true rfl⟩) hS (fun q h1 h2 => sp_Alt h1 h2) (sp_Ale hS.1) (fun H locs hP hle hfr hS => ?_)
                  refine W.eq (g2 := F0 m 87 ls [.int (1)]) rfl ?_
                  refine lv_if_ne (tgt := 167) hx hb dX10_addsPrint_87 (by decide) (fun c_31 => ?_) (fun c_31 => ?_)
                  · skip
                    refine lv_iconst (v := 3) hx hb dX10_addsPrint_167 (by decide) ?_
                    have hE9 : mW am cy (m_rej μ 2 30) = mW am cy (m_addP μ n t x u r c1 lf z) := by exact mW_eq (by simp [m_addP, m_objP, m_rejO, m_new, m_idAt, b2i, m_addPv, m_objP, q_1, c_4, c_4d, c_5, c_6, c_7, q_8, q_10, c_22])
                    have hP : va_P D vwCl (mW am cy (m_addP μ n t x u r c1 lf z)) H := by rw [← hE9]; exact hP
                    exact W.iret (v := 3) hx hb hr (fun T9 hT9 _ => ⟨congrArg (fun z9 => Outcome.returned (some (Value.int z9))) (show (3 : Int32) = m_addPv (μ 1) n t x u r c1 z from (by first | rfl | (simp [m_addPv, m_objP, b2i, q_1, c_4, c_4d, c_5, c_6, c_7, q_8, q_10, c_22]; done))), by rw [hT9]; exact hP, hS.F hT9⟩) hS.2.2 dX10_addsPrint_168
                  · exact absurd c_31 (by decide)
            · have hj_9 := m_time_lt q_8
              refine W.eq (g2 := F0 m 57 ls [.int (nI j_9)]) (by rw [q_8]; rfl) ?_
              refine lv_istore (lv' := [(8, .int (nI j_9)), (7, .int (nI n)), (0, .ref (am (0))), (1, .int (x)), (2, .int (u)), (3, .int (r)), (4, .int (c1)), (5, .int (lf)), (6, .int (z))]) hx hb dX10_addsPrint_57 hl (by decide) rfl (fun ls hl => ?_)
              refine lv_aload_n hx hb dX10_addsPrint_59 rfl (lv_at hl 2 rfl) ?_
              refine lv_iload_n hx hb dX10_addsPrint_60 rfl (lv_at hl 5 rfl) ?_
              refine lv_iload hx hb dX10_addsPrint_61 (lv_at hl 6 rfl) ?_
              refine sp_call (W.runV (As := [.int (r), .int (c1)]) (rest := []) ⟨hx, hb, hml, hown, hts⟩ (c_X10_inCell l D am cy μ n t (by first | exact hM | exact hi_0 | (repeat first | exact hM | exact hi_0 | refine MS.st0 ?_ | refine MS.st ?_ (by omega))) r c1) (cwV 2 hts gX10_addsPrint_X10_inCell rfl rfl rfl (by decide +kernel) ⟨Nat.le_of_ble_eq_true rfl, Nat.le_of_ble_eq_true rfl⟩) (sp_preV hK hP (κ := 0) (by decide) mE_0 rfl) rfl rfl hl.1 rfl (lv_room (Nat.le_of_ble_eq_true rfl)) dX10_addsPrint_63 ⟨Nat.le_of_ble_eq_true rfl, Nat.le_of_ble_eq_true rfl⟩) ?_
              rcases opt_em (m_cell (μ 1) n r c1) with q_32 | ⟨j_33, q_32⟩
              · refine W.eq (g2 := F0 m 66 ls [.int ((-1))]) (by rw [q_32]; rfl) ?_
                refine lv_istore (lv' := [(9, .int ((-1))), (8, .int (nI j_9)), (7, .int (nI n)), (0, .ref (am (0))), (1, .int (x)), (2, .int (u)), (3, .int (r)), (4, .int (c1)), (5, .int (lf)), (6, .int (z))]) hx hb dX10_addsPrint_66 hl (by decide) rfl (fun ls hl => ?_)
                refine lv_aload_n hx hb dX10_addsPrint_68 rfl (lv_at hl 3 rfl) ?_
                refine lv_iload hx hb dX10_addsPrint_69 (lv_at hl 2 rfl) ?_
                refine lv_bipush (v := 30) hx hb dX10_addsPrint_71 (by decide) ?_
                refine lv_icmp_ne (tgt := 80) hx hb dX10_addsPrint_73 (by decide) (fun c_34 => ?_) (fun c_34 => ?_)
                · skip
                  have hn29 : n < 30 := nI_lt30 c_34 hn30
                  refine lv_iconst (v := 0) hx hb dX10_addsPrint_80 (by decide) ?_
                  refine lv_iconst (v := 2) hx hb dX10_addsPrint_81 (by decide) ?_
                  refine lv_bipush (v := 30) hx hb dX10_addsPrint_82 (by decide) ?_
                  refine sp_callm (va_runV (As := [.int (0), .int (2), .int (30)]) (rest := []) ⟨hx, hb, hml, hown, hts⟩ (c_X10_rejects_0 l D am cy μ _ hi 2 30) (cwV 3 hts gX10_addsPrint_X10_rejects rfl rfl rfl (by decide +kernel) ⟨Nat.le_of_ble_eq_true rfl, Nat.le_of_ble_eq_true rfl⟩) (sp_preVm hK hP (κ := 0) (by decide) mE_0 rfl) rfl rfl hl.1 rfl (lv_room (Nat.le_of_ble_eq_true rfl)) dX10_addsPrint_84 ⟨Nat.le_of_ble_eq_true rfl, Nat.le_of_ble_eq_true rfl⟩) hS (fun q h1 h2 => sp_Alt h1 h2) (sp_Ale hS.1) (fun H locs hP hle hfr hS => ?_)
                  refine W.eq (g2 := F0 m 87 ls [.int (0)]) rfl ?_
                  refine lv_if_ne (tgt := 167) hx hb dX10_addsPrint_87 (by decide) (fun c_35 => ?_) (fun c_35 => ?_)
                  · exact absurd c_35 (by decide)
                  · skip
                    refine lv_aload_n hx hb dX10_addsPrint_90 rfl (lv_at hl 3 rfl) ?_
                    refine lv_iload hx hb dX10_addsPrint_91 (lv_at hl 1 rfl) ?_
                    refine lv_if_lt (tgt := 100) hx hb dX10_addsPrint_93 (by decide) (fun c_36 => ?_) (fun c_36 => ?_)
                    · exact absurd c_36 (nI_pos (by omega))
                    · skip
                      have c_36d := Int32.not_lt.mp c_36
                      refine lv_iconst (v := 1) hx hb dX10_addsPrint_96 (by decide) ?_
                      refine lv_goto (tgt := 101) hx hb dX10_addsPrint_97 (by decide) ?_
                      refine lv_iconst (v := 3) hx hb dX10_addsPrint_101 (by decide) ?_
                      refine lv_aload_n hx hb dX10_addsPrint_102 rfl (lv_at hl 3 rfl) ?_
                      refine lv_iload hx hb dX10_addsPrint_103 (lv_at hl 1 rfl) ?_
                      refine sp_call (W.runV (As := [.int (nI j_9)]) (rest := [.int (3), .int (1), .ref (am (0))]) ⟨hx, hb, hml, hown, hts⟩ (c_X10_idAt l D am cy μ n t (by first | exact hM | exact hi_0 | (repeat first | exact hM | exact hi_0 | refine MS.st0 ?_ | refine MS.st ?_ (by omega))) (some (j_9)) (by intro j hj; first | (cases hj; done) | (cases hj; omega))) (cwV 1 hts gX10_addsPrint_X10_idAt rfl rfl rfl (by decide +kernel) ⟨Nat.le_of_ble_eq_true rfl, Nat.le_of_ble_eq_true rfl⟩) (sp_preV hK hP (κ := 0) (by decide) mE_0 rfl) rfl rfl hl.1 rfl (lv_room (Nat.le_of_ble_eq_true rfl)) dX10_addsPrint_105 ⟨Nat.le_of_ble_eq_true rfl, Nat.le_of_ble_eq_true rfl⟩) ?_
                      refine W.eq (g2 := F0 m 108 ls [.int (m_idAt (μ 1) (some (j_9))), .int (3), .int (1), .ref (am (0))]) rfl ?_
                      refine sp_callm (va_runV (As := [.int (1), .int (3), .int (m_idAt (μ 1) (some (j_9)))]) (rest := []) ⟨hx, hb, hml, hown, hts⟩ (c_X10_rejects_1 l D am cy μ _ hi 3 (m_idAt (μ 1) (some (j_9)))) (cwV 3 hts gX10_addsPrint_X10_rejects rfl rfl rfl (by decide +kernel) ⟨Nat.le_of_ble_eq_true rfl, Nat.le_of_ble_eq_true rfl⟩) (sp_preVm hK hP (κ := 0) (by decide) mE_0 rfl) rfl rfl hl.1 rfl (lv_room (Nat.le_of_ble_eq_true rfl)) dX10_addsPrint_108 ⟨Nat.le_of_ble_eq_true rfl, Nat.le_of_ble_eq_true rfl⟩) hS (fun q h1 h2 => sp_Alt h1 h2) (sp_Ale hS.1) (fun H locs hP hle hfr hS => ?_)
                      refine W.eq (g2 := F0 m 111 ls [.int (1)]) rfl ?_
                      refine lv_if_ne (tgt := 167) hx hb dX10_addsPrint_111 (by decide) (fun c_37 => ?_) (fun c_37 => ?_)
                      · skip
                        refine lv_iconst (v := 3) hx hb dX10_addsPrint_167 (by decide) ?_
                        have hE9 : mW am cy (m_rej μ 3 (m_idAt (μ 1) (some (j_9)))) = mW am cy (m_addP μ n t x u r c1 lf z) := by exact mW_eq (by simp [m_addP, m_objP, m_rejO, m_new, m_idAt, b2i, m_addPv, m_objP, q_1, c_4, c_4d, c_5, c_6, c_7, q_8, q_32, c_34, c_36, c_36d])
                        have hP : va_P D vwCl (mW am cy (m_addP μ n t x u r c1 lf z)) H := by rw [← hE9]; exact hP
                        exact W.iret (v := 3) hx hb hr (fun T9 hT9 _ => ⟨congrArg (fun z9 => Outcome.returned (some (Value.int z9))) (show (3 : Int32) = m_addPv (μ 1) n t x u r c1 z from (by first | rfl | (simp [m_addPv, m_objP, b2i, q_1, c_4, c_4d, c_5, c_6, c_7, q_8, q_32, c_34, c_36, c_36d]; done))), by rw [hT9]; exact hP, hS.F hT9⟩) hS.2.2 dX10_addsPrint_168
                      · exact absurd c_37 (by decide)
                · skip
                  refine lv_iconst (v := 1) hx hb dX10_addsPrint_76 (by decide) ?_
                  refine lv_goto (tgt := 81) hx hb dX10_addsPrint_77 (by decide) ?_
                  refine lv_iconst (v := 2) hx hb dX10_addsPrint_81 (by decide) ?_
                  refine lv_bipush (v := 30) hx hb dX10_addsPrint_82 (by decide) ?_
                  refine sp_callm (va_runV (As := [.int (1), .int (2), .int (30)]) (rest := []) ⟨hx, hb, hml, hown, hts⟩ (c_X10_rejects_1 l D am cy μ _ hi 2 30) (cwV 3 hts gX10_addsPrint_X10_rejects rfl rfl rfl (by decide +kernel) ⟨Nat.le_of_ble_eq_true rfl, Nat.le_of_ble_eq_true rfl⟩) (sp_preVm hK hP (κ := 0) (by decide) mE_0 rfl) rfl rfl hl.1 rfl (lv_room (Nat.le_of_ble_eq_true rfl)) dX10_addsPrint_84 ⟨Nat.le_of_ble_eq_true rfl, Nat.le_of_ble_eq_true rfl⟩) hS (fun q h1 h2 => sp_Alt h1 h2) (sp_Ale hS.1) (fun H locs hP hle hfr hS => ?_)
                  refine W.eq (g2 := F0 m 87 ls [.int (1)]) rfl ?_
                  refine lv_if_ne (tgt := 167) hx hb dX10_addsPrint_87 (by decide) (fun c_38 => ?_) (fun c_38 => ?_)
                  · skip
                    refine lv_iconst (v := 3) hx hb dX10_addsPrint_167 (by decide) ?_
                    have hE9 : mW am cy (m_rej μ 2 30) = mW am cy (m_addP μ n t x u r c1 lf z) := by exact mW_eq (by simp [m_addP, m_objP, m_rejO, m_new, m_idAt, b2i, m_addPv, m_objP, q_1, c_4, c_4d, c_5, c_6, c_7, q_8, q_32, c_34])
                    have hP : va_P D vwCl (mW am cy (m_addP μ n t x u r c1 lf z)) H := by rw [← hE9]; exact hP
                    exact W.iret (v := 3) hx hb hr (fun T9 hT9 _ => ⟨congrArg (fun z9 => Outcome.returned (some (Value.int z9))) (show (3 : Int32) = m_addPv (μ 1) n t x u r c1 z from (by first | rfl | (simp [m_addPv, m_objP, b2i, q_1, c_4, c_4d, c_5, c_6, c_7, q_8, q_32, c_34]; done))), by rw [hT9]; exact hP, hS.F hT9⟩) hS.2.2 dX10_addsPrint_168
                  · exact absurd c_38 (by decide)
              · have hj_33 := m_cell_lt q_32
                refine W.eq (g2 := F0 m 66 ls [.int (nI j_33)]) (by rw [q_32]; rfl) ?_
                refine lv_istore (lv' := [(9, .int (nI j_33)), (8, .int (nI j_9)), (7, .int (nI n)), (0, .ref (am (0))), (1, .int (x)), (2, .int (u)), (3, .int (r)), (4, .int (c1)), (5, .int (lf)), (6, .int (z))]) hx hb dX10_addsPrint_66 hl (by decide) rfl (fun ls hl => ?_)
                refine lv_aload_n hx hb dX10_addsPrint_68 rfl (lv_at hl 3 rfl) ?_
                refine lv_iload hx hb dX10_addsPrint_69 (lv_at hl 2 rfl) ?_
                refine lv_bipush (v := 30) hx hb dX10_addsPrint_71 (by decide) ?_
                refine lv_icmp_ne (tgt := 80) hx hb dX10_addsPrint_73 (by decide) (fun c_39 => ?_) (fun c_39 => ?_)
                · skip
                  have hn29 : n < 30 := nI_lt30 c_39 hn30
                  refine lv_iconst (v := 0) hx hb dX10_addsPrint_80 (by decide) ?_
                  refine lv_iconst (v := 2) hx hb dX10_addsPrint_81 (by decide) ?_
                  refine lv_bipush (v := 30) hx hb dX10_addsPrint_82 (by decide) ?_
                  refine sp_callm (va_runV (As := [.int (0), .int (2), .int (30)]) (rest := []) ⟨hx, hb, hml, hown, hts⟩ (c_X10_rejects_0 l D am cy μ _ hi 2 30) (cwV 3 hts gX10_addsPrint_X10_rejects rfl rfl rfl (by decide +kernel) ⟨Nat.le_of_ble_eq_true rfl, Nat.le_of_ble_eq_true rfl⟩) (sp_preVm hK hP (κ := 0) (by decide) mE_0 rfl) rfl rfl hl.1 rfl (lv_room (Nat.le_of_ble_eq_true rfl)) dX10_addsPrint_84 ⟨Nat.le_of_ble_eq_true rfl, Nat.le_of_ble_eq_true rfl⟩) hS (fun q h1 h2 => sp_Alt h1 h2) (sp_Ale hS.1) (fun H locs hP hle hfr hS => ?_)
                  refine W.eq (g2 := F0 m 87 ls [.int (0)]) rfl ?_
                  refine lv_if_ne (tgt := 167) hx hb dX10_addsPrint_87 (by decide) (fun c_40 => ?_) (fun c_40 => ?_)
                  · exact absurd c_40 (by decide)
                  · skip
                    refine lv_aload_n hx hb dX10_addsPrint_90 rfl (lv_at hl 3 rfl) ?_
                    refine lv_iload hx hb dX10_addsPrint_91 (lv_at hl 1 rfl) ?_
                    refine lv_if_lt (tgt := 100) hx hb dX10_addsPrint_93 (by decide) (fun c_41 => ?_) (fun c_41 => ?_)
                    · exact absurd c_41 (nI_pos (by omega))
                    · skip
                      have c_41d := Int32.not_lt.mp c_41
                      refine lv_iconst (v := 1) hx hb dX10_addsPrint_96 (by decide) ?_
                      refine lv_goto (tgt := 101) hx hb dX10_addsPrint_97 (by decide) ?_
                      refine lv_iconst (v := 3) hx hb dX10_addsPrint_101 (by decide) ?_
                      refine lv_aload_n hx hb dX10_addsPrint_102 rfl (lv_at hl 3 rfl) ?_
                      refine lv_iload hx hb dX10_addsPrint_103 (lv_at hl 1 rfl) ?_
                      refine sp_call (W.runV (As := [.int (nI j_9)]) (rest := [.int (3), .int (1), .ref (am (0))]) ⟨hx, hb, hml, hown, hts⟩ (c_X10_idAt l D am cy μ n t (by first | exact hM | exact hi_0 | (repeat first | exact hM | exact hi_0 | refine MS.st0 ?_ | refine MS.st ?_ (by omega))) (some (j_9)) (by intro j hj; first | (cases hj; done) | (cases hj; omega))) (cwV 1 hts gX10_addsPrint_X10_idAt rfl rfl rfl (by decide +kernel) ⟨Nat.le_of_ble_eq_true rfl, Nat.le_of_ble_eq_true rfl⟩) (sp_preV hK hP (κ := 0) (by decide) mE_0 rfl) rfl rfl hl.1 rfl (lv_room (Nat.le_of_ble_eq_true rfl)) dX10_addsPrint_105 ⟨Nat.le_of_ble_eq_true rfl, Nat.le_of_ble_eq_true rfl⟩) ?_
                      refine W.eq (g2 := F0 m 108 ls [.int (m_idAt (μ 1) (some (j_9))), .int (3), .int (1), .ref (am (0))]) rfl ?_
                      refine sp_callm (va_runV (As := [.int (1), .int (3), .int (m_idAt (μ 1) (some (j_9)))]) (rest := []) ⟨hx, hb, hml, hown, hts⟩ (c_X10_rejects_1 l D am cy μ _ hi 3 (m_idAt (μ 1) (some (j_9)))) (cwV 3 hts gX10_addsPrint_X10_rejects rfl rfl rfl (by decide +kernel) ⟨Nat.le_of_ble_eq_true rfl, Nat.le_of_ble_eq_true rfl⟩) (sp_preVm hK hP (κ := 0) (by decide) mE_0 rfl) rfl rfl hl.1 rfl (lv_room (Nat.le_of_ble_eq_true rfl)) dX10_addsPrint_108 ⟨Nat.le_of_ble_eq_true rfl, Nat.le_of_ble_eq_true rfl⟩) hS (fun q h1 h2 => sp_Alt h1 h2) (sp_Ale hS.1) (fun H locs hP hle hfr hS => ?_)
                      refine W.eq (g2 := F0 m 111 ls [.int (1)]) rfl ?_
                      refine lv_if_ne (tgt := 167) hx hb dX10_addsPrint_111 (by decide) (fun c_42 => ?_) (fun c_42 => ?_)
                      · skip
                        refine lv_iconst (v := 3) hx hb dX10_addsPrint_167 (by decide) ?_
                        have hE9 : mW am cy (m_rej μ 3 (m_idAt (μ 1) (some (j_9)))) = mW am cy (m_addP μ n t x u r c1 lf z) := by exact mW_eq (by simp [m_addP, m_objP, m_rejO, m_new, m_idAt, b2i, m_addPv, m_objP, q_1, c_4, c_4d, c_5, c_6, c_7, q_8, q_32, c_39, c_41, c_41d])
                        have hP : va_P D vwCl (mW am cy (m_addP μ n t x u r c1 lf z)) H := by rw [← hE9]; exact hP
                        exact W.iret (v := 3) hx hb hr (fun T9 hT9 _ => ⟨congrArg (fun z9 => Outcome.returned (some (Value.int z9))) (show (3 : Int32) = m_addPv (μ 1) n t x u r c1 z from (by first | rfl | (simp [m_addPv, m_objP, b2i, q_1, c_4, c_4d, c_5, c_6, c_7, q_8, q_32, c_39, c_41, c_41d]; done))), by rw [hT9]; exact hP, hS.F hT9⟩) hS.2.2 dX10_addsPrint_168
                      · exact absurd c_42 (by decide)
                · skip
                  refine lv_iconst (v := 1) hx hb dX10_addsPrint_76 (by decide) ?_
                  refine lv_goto (tgt := 81) hx hb dX10_addsPrint_77 (by decide) ?_
                  refine lv_iconst (v := 2) hx hb dX10_addsPrint_81 (by decide) ?_
                  refine lv_bipush (v := 30) hx hb dX10_addsPrint_82 (by decide) ?_
                  refine sp_callm (va_runV (As := [.int (1), .int (2), .int (30)]) (rest := []) ⟨hx, hb, hml, hown, hts⟩ (c_X10_rejects_1 l D am cy μ _ hi 2 30) (cwV 3 hts gX10_addsPrint_X10_rejects rfl rfl rfl (by decide +kernel) ⟨Nat.le_of_ble_eq_true rfl, Nat.le_of_ble_eq_true rfl⟩) (sp_preVm hK hP (κ := 0) (by decide) mE_0 rfl) rfl rfl hl.1 rfl (lv_room (Nat.le_of_ble_eq_true rfl)) dX10_addsPrint_84 ⟨Nat.le_of_ble_eq_true rfl, Nat.le_of_ble_eq_true rfl⟩) hS (fun q h1 h2 => sp_Alt h1 h2) (sp_Ale hS.1) (fun H locs hP hle hfr hS => ?_)
                  refine W.eq (g2 := F0 m 87 ls [.int (1)]) rfl ?_
                  refine lv_if_ne (tgt := 167) hx hb dX10_addsPrint_87 (by decide) (fun c_43 => ?_) (fun c_43 => ?_)
                  · skip
                    refine lv_iconst (v := 3) hx hb dX10_addsPrint_167 (by decide) ?_
                    have hE9 : mW am cy (m_rej μ 2 30) = mW am cy (m_addP μ n t x u r c1 lf z) := by exact mW_eq (by simp [m_addP, m_objP, m_rejO, m_new, m_idAt, b2i, m_addPv, m_objP, q_1, c_4, c_4d, c_5, c_6, c_7, q_8, q_32, c_39])
                    have hP : va_P D vwCl (mW am cy (m_addP μ n t x u r c1 lf z)) H := by rw [← hE9]; exact hP
                    exact W.iret (v := 3) hx hb hr (fun T9 hT9 _ => ⟨congrArg (fun z9 => Outcome.returned (some (Value.int z9))) (show (3 : Int32) = m_addPv (μ 1) n t x u r c1 z from (by first | rfl | (simp [m_addPv, m_objP, b2i, q_1, c_4, c_4d, c_5, c_6, c_7, q_8, q_32, c_39]; done))), by rw [hT9]; exact hP, hS.F hT9⟩) hS.2.2 dX10_addsPrint_168
                  · exact absurd c_43 (by decide)
          · rw [b2i_eq0] at c_7
            refine lv_iconst (v := 2) hx hb dX10_addsPrint_41 (by decide) ?_
            have hE9 : mW am cy (μ) = mW am cy (m_addP μ n t x u r c1 lf z) := by exact mW_eq (by simp [m_addP, m_objP, m_rejO, m_new, m_idAt, b2i, m_addPv, m_objP, q_1, c_4, c_4d, c_5, c_6, c_7])
            have hP : va_P D vwCl (mW am cy (m_addP μ n t x u r c1 lf z)) s.heap := by rw [← hE9]; exact hP
            exact W.iret (v := 2) hx hb hr (fun T9 hT9 _ => ⟨congrArg (fun z9 => Outcome.returned (some (Value.int z9))) (show (2 : Int32) = m_addPv (μ 1) n t x u r c1 z from (by first | rfl | (simp [m_addPv, m_objP, b2i, q_1, c_4, c_4d, c_5, c_6, c_7]; done))), by rw [hT9]; exact hP, hS.F hT9⟩) hS.2.2 dX10_addsPrint_42
      · rw [b2i_eq0] at c_5
        refine lv_iconst (v := 1) hx hb dX10_addsPrint_17 (by decide) ?_
        have hE9 : mW am cy (μ) = mW am cy (m_addP μ n t x u r c1 lf z) := by exact mW_eq (by simp [m_addP, m_objP, m_rejO, m_new, m_idAt, b2i, m_addPv, m_objP, q_1, c_4, c_4d, c_5])
        have hP : va_P D vwCl (mW am cy (m_addP μ n t x u r c1 lf z)) s.heap := by rw [← hE9]; exact hP
        exact W.iret (v := 1) hx hb hr (fun T9 hT9 _ => ⟨congrArg (fun z9 => Outcome.returned (some (Value.int z9))) (show (1 : Int32) = m_addPv (μ 1) n t x u r c1 z from (by first | rfl | (simp [m_addPv, m_objP, b2i, q_1, c_4, c_4d, c_5]; done))), by rw [hT9]; exact hP, hS.F hT9⟩) hS.2.2 dX10_addsPrint_18

theorem wi_X10_correctsHeel_X10 : ∀ w ∈ wsX100, w ∈ wsX10_correctsHeel := by decide +kernel
set_option maxHeartbeats 4000000 in
set_option maxRecDepth 100000 in
theorem c_X10_correctsHeel (l : Launch) (D : va_G) (am : Nat → Nat) (cy : Nat → ClassId) (μ : Nat → Nat → Int32) (sz : Nat) (hi : sp_inj am 5) (n : Nat) (t : Nat) (hM : MS (μ 1) n t) (x : Int32) (r : Int32) (c1 : Int32) : Met l yX10_correctsHeel wsX10_correctsHeel ({ frames := 2, cells := 0, slots := 0, locals := 45 } : Room) (sp_Pm D (tyG cy) sz [.ref (am (0)), .int (x), .int (r), .int (c1)] (mW am cy μ)) (sp_Q D (some (.int (m_corv (μ 1) n x r c1))) (mW am cy (m_cor μ n x r c1)) (sp_A am 5 sz)) 0 0 (sp_A am 5 sz) := by
  refine Met.ofW (cc := cX10_correctsHeel) (maxL := 7) (ret := (some .int)) (by decide) rfl ?_
  intro p e s m args below meth c s₁ B hml hv
  obtain ⟨rfl, hsz, hP, hK⟩ := hv
  have hx := B.exec
  have hb := B.bytes
  have hr := B.returns
  have hts := atoms_spec (ws := wsX10_correctsHeel) B.pre
  have hown : s.vm.findClass RX10 = some m.cls := findClass_of_methodNamed B.named
  have hlocks := B.notSynchronized
  subst hsz
  have hS : va_S (sp_A am 5 s.heap.size) s.heap s.heap [] := va_S.rf
  have hAk : ∀ k, k < 5 → (sp_A am 5 s.heap.size) (am k) := fun k hk => Or.inl ⟨k, hk, rfl⟩
  skip
  have hn30 := hM.2.1
  have ht6 := hM.2.2.2
  have hl := lv_entry ([.ref (am (0)), .int (x), .int (r), .int (c1)]) (n := 7) (Nat.le_of_ble_eq_true rfl)
  refine W.eq (lg_entry_eq _ ([.ref (am (0)), .int (x), .int (r), .int (c1)]) _) ?_
  generalize (lg_sl ([.ref (am (0)), .int (x), .int (r), .int (c1)]) ++ List.replicate (7 - (lg_sl ([.ref (am (0)), .int (x), .int (r), .int (c1)])).length) Slot.unset).toArray = ls at hl ⊢
  have hl : lv_has ls 7 [(0, .ref (am (0))), (1, .int (x)), (2, .int (r)), (3, .int (c1))] := hl
  refine lv_aload_n hx hb dX10_correctsHeel_0 rfl (lv_at hl 0 rfl) ?_
  refine lv_iload_n hx hb dX10_correctsHeel_1 rfl (lv_at hl 1 rfl) ?_
  refine sp_call (W.runV (As := [.int (x)]) (rest := []) ⟨hx, hb, hml, hown, hts⟩ (c_X10_find l D am cy μ n t (by first | exact hM | exact hi_0 | (repeat first | exact hM | exact hi_0 | refine MS.st0 ?_ | refine MS.st ?_ (by omega))) x) (cwV 1 hts gX10_correctsHeel_X10_find rfl rfl rfl (by decide +kernel) ⟨Nat.le_of_ble_eq_true rfl, Nat.le_of_ble_eq_true rfl⟩) (sp_preV hK hP (κ := 0) (by decide) mE_0 rfl) rfl rfl hl.1 rfl (lv_room (Nat.le_of_ble_eq_true rfl)) dX10_correctsHeel_2 ⟨Nat.le_of_ble_eq_true rfl, Nat.le_of_ble_eq_true rfl⟩) ?_
  rcases opt_em (m_find (μ 1) n x) with q_1 | ⟨j_2, q_1⟩
  · refine W.eq (g2 := F0 m 5 ls [.int ((-1))]) (by rw [q_1]; rfl) ?_
    refine lv_istore (lv' := [(4, .int ((-1))), (0, .ref (am (0))), (1, .int (x)), (2, .int (r)), (3, .int (c1))]) hx hb dX10_correctsHeel_5 hl (by decide) rfl (fun ls hl => ?_)
    refine lv_iload hx hb dX10_correctsHeel_7 (lv_at hl 0 rfl) ?_
    refine lv_if_lt (tgt := 20) hx hb dX10_correctsHeel_9 (by decide) (fun c_3 => ?_) (fun c_3 => ?_)
    · skip
      refine lv_iconst (v := 1) hx hb dX10_correctsHeel_20 (by decide) ?_
      have hE9 : mW am cy (μ) = mW am cy (m_cor μ n x r c1) := by exact mW_eq (by simp [m_cor, m_objM, m_rejO, m_idAt, b2i, m_corv, m_objM, q_1])
      have hP : va_P D vwCl (mW am cy (m_cor μ n x r c1)) s.heap := by rw [← hE9]; exact hP
      exact W.iret (v := 1) hx hb hr (fun T9 hT9 _ => ⟨congrArg (fun z9 => Outcome.returned (some (Value.int z9))) (show (1 : Int32) = m_corv (μ 1) n x r c1 from (by first | rfl | (simp [m_corv, m_objM, b2i, q_1]; done))), by rw [hT9]; exact hP, hS.F hT9⟩) hS.2.2 dX10_correctsHeel_21
    · exact absurd c_3 (by decide)
  · have hj_2 := m_find_lt q_1
    refine W.eq (g2 := F0 m 5 ls [.int (nI j_2)]) (by rw [q_1]; rfl) ?_
    refine lv_istore (lv' := [(4, .int (nI j_2)), (0, .ref (am (0))), (1, .int (x)), (2, .int (r)), (3, .int (c1))]) hx hb dX10_correctsHeel_5 hl (by decide) rfl (fun ls hl => ?_)
    refine lv_iload hx hb dX10_correctsHeel_7 (lv_at hl 0 rfl) ?_
    refine lv_if_lt (tgt := 20) hx hb dX10_correctsHeel_9 (by decide) (fun c_4 => ?_) (fun c_4 => ?_)
    · exact absurd c_4 (nI_pos (by omega))
    · skip
      have c_4d := Int32.not_lt.mp c_4
      refine lv_iload_n hx hb dX10_correctsHeel_12 rfl (lv_at hl 3 rfl) ?_
      refine lv_iload_n hx hb dX10_correctsHeel_13 rfl (lv_at hl 4 rfl) ?_
      refine sp_call (W.runS (As := [.int (r), .int (c1)]) (rest := []) ⟨hx, hb, hml, hown, hts⟩ (c_X10_isCell l D am cy μ r c1) (va_cwS 2 hts gX10_correctsHeel_X10_isCell rfl rfl rfl (by decide +kernel) ⟨Nat.le_of_ble_eq_true rfl, Nat.le_of_ble_eq_true rfl⟩) (sp_preS hK hP) rfl rfl hl.1 rfl (lv_room (Nat.le_of_ble_eq_true rfl)) dX10_correctsHeel_14 ⟨Nat.le_of_ble_eq_true rfl, Nat.le_of_ble_eq_true rfl⟩) ?_
      refine W.eq (g2 := F0 m 17 ls [.int (b2i (m_isCell r c1))]) rfl ?_
      refine lv_if_ne (tgt := 22) hx hb dX10_correctsHeel_17 (by decide) (fun c_5 => ?_) (fun c_5 => ?_)
      · rw [b2i_eq0] at c_5
        refine lv_aload_n hx hb dX10_correctsHeel_22 rfl (lv_at hl 1 rfl) ?_
        refine lv_iload hx hb dX10_correctsHeel_23 (lv_at hl 0 rfl) ?_
        refine lv_iload_n hx hb dX10_correctsHeel_25 rfl (lv_at hl 3 rfl) ?_
        refine lv_iload_n hx hb dX10_correctsHeel_26 rfl (lv_at hl 4 rfl) ?_
        refine sp_call (W.runV (As := [.int (nI j_2), .int (r), .int (c1)]) (rest := []) ⟨hx, hb, hml, hown, hts⟩ (c_X10_distance l D am cy μ n t (by first | exact hM | exact hi_0 | (repeat first | exact hM | exact hi_0 | refine MS.st0 ?_ | refine MS.st ?_ (by omega))) j_2 (by omega) r c1) (cwV 3 hts gX10_correctsHeel_X10_distance rfl rfl rfl (by decide +kernel) ⟨Nat.le_of_ble_eq_true rfl, Nat.le_of_ble_eq_true rfl⟩) (sp_preV hK hP (κ := 0) (by decide) mE_0 rfl) rfl rfl hl.1 rfl (lv_room (Nat.le_of_ble_eq_true rfl)) dX10_correctsHeel_27 ⟨Nat.le_of_ble_eq_true rfl, Nat.le_of_ble_eq_true rfl⟩) ?_
        refine W.eq (g2 := F0 m 30 ls [.int (m_dist (μ 1) j_2 r c1)]) rfl ?_
        refine lv_istore (lv' := [(5, .int (m_dist (μ 1) j_2 r c1)), (4, .int (nI j_2)), (0, .ref (am (0))), (1, .int (x)), (2, .int (r)), (3, .int (c1))]) hx hb dX10_correctsHeel_30 hl (by decide) rfl (fun ls hl => ?_)
        refine lv_aload_n hx hb dX10_correctsHeel_32 rfl (lv_at hl 2 rfl) ?_
        refine lv_iload_n hx hb dX10_correctsHeel_33 rfl (lv_at hl 4 rfl) ?_
        refine lv_iload_n hx hb dX10_correctsHeel_34 rfl (lv_at hl 5 rfl) ?_
        refine sp_call (W.runV (As := [.int (r), .int (c1)]) (rest := []) ⟨hx, hb, hml, hown, hts⟩ (c_X10_inCell l D am cy μ n t (by first | exact hM | exact hi_0 | (repeat first | exact hM | exact hi_0 | refine MS.st0 ?_ | refine MS.st ?_ (by omega))) r c1) (cwV 2 hts gX10_correctsHeel_X10_inCell rfl rfl rfl (by decide +kernel) ⟨Nat.le_of_ble_eq_true rfl, Nat.le_of_ble_eq_true rfl⟩) (sp_preV hK hP (κ := 0) (by decide) mE_0 rfl) rfl rfl hl.1 rfl (lv_room (Nat.le_of_ble_eq_true rfl)) dX10_correctsHeel_35 ⟨Nat.le_of_ble_eq_true rfl, Nat.le_of_ble_eq_true rfl⟩) ?_
        rcases opt_em (m_cell (μ 1) n r c1) with q_6 | ⟨j_7, q_6⟩
        · refine W.eq (g2 := F0 m 38 ls [.int ((-1))]) (by rw [q_6]; rfl) ?_
          refine lv_istore (lv' := [(6, .int ((-1))), (5, .int (m_dist (μ 1) j_2 r c1)), (4, .int (nI j_2)), (0, .ref (am (0))), (1, .int (x)), (2, .int (r)), (3, .int (c1))]) hx hb dX10_correctsHeel_38 hl (by decide) rfl (fun ls hl => ?_)
          refine lv_aload_n hx hb dX10_correctsHeel_40 rfl (lv_at hl 3 rfl) ?_
          refine lv_iload hx hb dX10_correctsHeel_41 (lv_at hl 1 rfl) ?_
          refine lv_iconst (v := 1) hx hb dX10_correctsHeel_43 (by decide) ?_
          refine lv_iconst (v := 2) hx hb dX10_correctsHeel_44 (by decide) ?_
          refine sp_call (W.runS (As := [.int (m_dist (μ 1) j_2 r c1), .int (1), .int (2)]) (rest := [.ref (am (0))]) ⟨hx, hb, hml, hown, hts⟩ (c_X10_in l D am cy μ (m_dist (μ 1) j_2 r c1) 1 2) (va_cwS 3 hts gX10_correctsHeel_X10_in rfl rfl rfl (by decide +kernel) ⟨Nat.le_of_ble_eq_true rfl, Nat.le_of_ble_eq_true rfl⟩) (sp_preS hK hP) rfl rfl hl.1 rfl (lv_room (Nat.le_of_ble_eq_true rfl)) dX10_correctsHeel_45 ⟨Nat.le_of_ble_eq_true rfl, Nat.le_of_ble_eq_true rfl⟩) ?_
          refine W.eq (g2 := F0 m 48 ls [.int (b2i (m_in (m_dist (μ 1) j_2 r c1) 1 2)), .ref (am (0))]) rfl ?_
          refine lv_if_ne (tgt := 55) hx hb dX10_correctsHeel_48 (by decide) (fun c_8 => ?_) (fun c_8 => ?_)
          · rw [b2i_eq0] at c_8
            refine lv_iconst (v := 0) hx hb dX10_correctsHeel_55 (by decide) ?_
            refine lv_bipush (v := 6) hx hb dX10_correctsHeel_56 (by decide) ?_
            refine lv_iload hx hb dX10_correctsHeel_58 (lv_at hl 1 rfl) ?_
            refine sp_callm (va_runV (As := [.int (0), .int (6), .int (m_dist (μ 1) j_2 r c1)]) (rest := []) ⟨hx, hb, hml, hown, hts⟩ (c_X10_rejects_0 l D am cy μ _ hi 6 (m_dist (μ 1) j_2 r c1)) (cwV 3 hts gX10_correctsHeel_X10_rejects rfl rfl rfl (by decide +kernel) ⟨Nat.le_of_ble_eq_true rfl, Nat.le_of_ble_eq_true rfl⟩) (sp_preVm hK hP (κ := 0) (by decide) mE_0 rfl) rfl rfl hl.1 rfl (lv_room (Nat.le_of_ble_eq_true rfl)) dX10_correctsHeel_60 ⟨Nat.le_of_ble_eq_true rfl, Nat.le_of_ble_eq_true rfl⟩) hS (fun q h1 h2 => sp_Alt h1 h2) (sp_Ale hS.1) (fun H locs hP hle hfr hS => ?_)
            refine W.eq (g2 := F0 m 63 ls [.int (0)]) rfl ?_
            refine lv_if_ne (tgt := 119) hx hb dX10_correctsHeel_63 (by decide) (fun c_9 => ?_) (fun c_9 => ?_)
            · exact absurd c_9 (by decide)
            · skip
              refine lv_aload_n hx hb dX10_correctsHeel_66 rfl (lv_at hl 3 rfl) ?_
              refine lv_iload_n hx hb dX10_correctsHeel_67 rfl (lv_at hl 5 rfl) ?_
              refine lv_aload_n hx hb dX10_correctsHeel_68 rfl (lv_at hl 3 rfl) ?_
              refine sp_get hx hb hts wi_X10_correctsHeel_X10 hown hK hP (κ := 0) (by decide) mE_0 rfl 1 (by decide) (hts _ (List.mem_of_getElem? (i := 1) rfl)) (fun _ h => h) rfl dX10_correctsHeel_69 ?_
              refine lv_iconst (v := 4) hx hb dX10_correctsHeel_72 (by decide) ?_
              refine sp_iald hx hb hK hP (κ := 1) (by decide) 1 mE_1 rfl 4 rfl (by omega) (by decide) dX10_correctsHeel_73 ?_
              refine lv_icmp_ge (tgt := 81) hx hb dX10_correctsHeel_74 (by decide) (fun c_10 => ?_) (fun c_10 => ?_)
              · skip
                have c_10d := Int32.not_lt.mpr c_10
                refine lv_iconst (v := 0) hx hb dX10_correctsHeel_81 (by decide) ?_
                refine lv_iconst (v := 4) hx hb dX10_correctsHeel_82 (by decide) ?_
                refine lv_aload_n hx hb dX10_correctsHeel_83 rfl (lv_at hl 3 rfl) ?_
                refine sp_get hx hb hts wi_X10_correctsHeel_X10 hown hK hP (κ := 0) (by decide) mE_0 rfl 1 (by decide) (hts _ (List.mem_of_getElem? (i := 1) rfl)) (fun _ h => h) rfl dX10_correctsHeel_84 ?_
                refine lv_iconst (v := 4) hx hb dX10_correctsHeel_87 (by decide) ?_
                refine sp_iald hx hb hK hP (κ := 1) (by decide) 1 mE_1 rfl 4 rfl (by omega) (by decide) dX10_correctsHeel_88 ?_
                refine sp_callm (va_runV (As := [.int (0), .int (4), .int (μ 1 4)]) (rest := []) ⟨hx, hb, hml, hown, hts⟩ (c_X10_rejects_0 l D am cy μ _ hi 4 (μ 1 4)) (cwV 3 hts gX10_correctsHeel_X10_rejects rfl rfl rfl (by decide +kernel) ⟨Nat.le_of_ble_eq_true rfl, Nat.le_of_ble_eq_true rfl⟩) (sp_preVm hK hP (κ := 0) (by decide) mE_0 rfl) rfl rfl hl.1 rfl (lv_room (Nat.le_of_ble_eq_true rfl)) dX10_correctsHeel_89 ⟨Nat.le_of_ble_eq_true rfl, Nat.le_of_ble_eq_true rfl⟩) hS (fun q h1 h2 => sp_Alt h1 h2) (sp_Ale hS.1) (fun H locs hP hle hfr hS => ?_)
                refine W.eq (g2 := F0 m 92 ls [.int (0)]) rfl ?_
                refine lv_if_ne (tgt := 119) hx hb dX10_correctsHeel_92 (by decide) (fun c_11 => ?_) (fun c_11 => ?_)
                · exact absurd c_11 (by decide)
                · skip
                  refine lv_aload_n hx hb dX10_correctsHeel_95 rfl (lv_at hl 3 rfl) ?_
                  refine lv_iload hx hb dX10_correctsHeel_96 (lv_at hl 0 rfl) ?_
                  refine lv_if_lt (tgt := 105) hx hb dX10_correctsHeel_98 (by decide) (fun c_12 => ?_) (fun c_12 => ?_)
                  · skip
                    refine lv_iconst (v := 0) hx hb dX10_correctsHeel_105 (by decide) ?_
                    refine lv_iconst (v := 5) hx hb dX10_correctsHeel_106 (by decide) ?_
                    refine lv_aload_n hx hb dX10_correctsHeel_107 rfl (lv_at hl 3 rfl) ?_
                    refine lv_iload hx hb dX10_correctsHeel_108 (lv_at hl 0 rfl) ?_
                    refine sp_call (W.runV (As := [.int ((-1))]) (rest := [.int (5), .int (0), .ref (am (0))]) ⟨hx, hb, hml, hown, hts⟩ (c_X10_idAt l D am cy μ n t (by first | exact hM | exact hi_0 | (repeat first | exact hM | exact hi_0 | refine MS.st0 ?_ | refine MS.st ?_ (by omega))) (none : Option Nat) (by intro j hj; first | (cases hj; done) | (cases hj; omega))) (cwV 1 hts gX10_correctsHeel_X10_idAt rfl rfl rfl (by decide +kernel) ⟨Nat.le_of_ble_eq_true rfl, Nat.le_of_ble_eq_true rfl⟩) (sp_preV hK hP (κ := 0) (by decide) mE_0 rfl) rfl rfl hl.1 rfl (lv_room (Nat.le_of_ble_eq_true rfl)) dX10_correctsHeel_110 ⟨Nat.le_of_ble_eq_true rfl, Nat.le_of_ble_eq_true rfl⟩) ?_
                    refine W.eq (g2 := F0 m 113 ls [.int (m_idAt (μ 1) (none : Option Nat)), .int (5), .int (0), .ref (am (0))]) rfl ?_
                    refine sp_callm (va_runV (As := [.int (0), .int (5), .int (m_idAt (μ 1) (none : Option Nat))]) (rest := []) ⟨hx, hb, hml, hown, hts⟩ (c_X10_rejects_0 l D am cy μ _ hi 5 (m_idAt (μ 1) (none : Option Nat))) (cwV 3 hts gX10_correctsHeel_X10_rejects rfl rfl rfl (by decide +kernel) ⟨Nat.le_of_ble_eq_true rfl, Nat.le_of_ble_eq_true rfl⟩) (sp_preVm hK hP (κ := 0) (by decide) mE_0 rfl) rfl rfl hl.1 rfl (lv_room (Nat.le_of_ble_eq_true rfl)) dX10_correctsHeel_113 ⟨Nat.le_of_ble_eq_true rfl, Nat.le_of_ble_eq_true rfl⟩) hS (fun q h1 h2 => sp_Alt h1 h2) (sp_Ale hS.1) (fun H locs hP hle hfr hS => ?_)
                    refine W.eq (g2 := F0 m 116 ls [.int (0)]) rfl ?_
                    refine lv_if_eq (tgt := 121) hx hb dX10_correctsHeel_116 (by decide) (fun c_13 => ?_) (fun c_13 => ?_)
                    · skip
                      refine lv_aload_n hx hb dX10_correctsHeel_121 rfl (lv_at hl 3 rfl) ?_
                      refine lv_iload hx hb dX10_correctsHeel_122 (lv_at hl 2 rfl) ?_
                      refine lv_iconst (v := 3) hx hb dX10_correctsHeel_124 (by decide) ?_
                      refine lv_iload_n hx hb dX10_correctsHeel_125 rfl (lv_at hl 5 rfl) ?_
                      refine sp_callm (va_runV (As := [.int (nI j_2), .int (3), .int (r)]) (rest := []) ⟨hx, hb, hml, hown, hts⟩ (c_X10_set l D am cy μ _ hi j_2 (by omega) 3 (by omega) r) (cwV 3 hts gX10_correctsHeel_X10_set rfl rfl rfl (by decide +kernel) ⟨Nat.le_of_ble_eq_true rfl, Nat.le_of_ble_eq_true rfl⟩) (sp_preVm hK hP (κ := 0) (by decide) mE_0 rfl) rfl rfl hl.1 rfl (lv_room (Nat.le_of_ble_eq_true rfl)) dX10_correctsHeel_126 ⟨Nat.le_of_ble_eq_true rfl, Nat.le_of_ble_eq_true rfl⟩) hS (fun q h1 h2 => sp_Alt h1 h2) (sp_Ale hS.1) (fun H locs hP hle hfr hS => ?_)
                      refine W.eq (g2 := F0 m 129 ls []) rfl ?_
                      refine lv_aload_n hx hb dX10_correctsHeel_129 rfl (lv_at hl 3 rfl) ?_
                      refine lv_iload hx hb dX10_correctsHeel_130 (lv_at hl 2 rfl) ?_
                      refine lv_iconst (v := 4) hx hb dX10_correctsHeel_132 (by decide) ?_
                      refine lv_iload_n hx hb dX10_correctsHeel_133 rfl (lv_at hl 6 rfl) ?_
                      refine sp_callm (va_runV (As := [.int (nI j_2), .int (4), .int (c1)]) (rest := []) ⟨hx, hb, hml, hown, hts⟩ (c_X10_set l D am cy (sp_st μ 1 (19 + 9 * j_2 + 3) r) _ hi j_2 (by omega) 4 (by omega) c1) (cwV 3 hts gX10_correctsHeel_X10_set rfl rfl rfl (by decide +kernel) ⟨Nat.le_of_ble_eq_true rfl, Nat.le_of_ble_eq_true rfl⟩) (sp_preVm hK hP (κ := 0) (by decide) mE_0 rfl) rfl rfl hl.1 rfl (lv_room (Nat.le_of_ble_eq_true rfl)) dX10_correctsHeel_134 ⟨Nat.le_of_ble_eq_true rfl, Nat.le_of_ble_eq_true rfl⟩) hS (fun q h1 h2 => sp_Alt h1 h2) (sp_Ale hS.1) (fun H locs hP hle hfr hS => ?_)
                      refine W.eq (g2 := F0 m 137 ls []) rfl ?_
                      refine lv_aload_n hx hb dX10_correctsHeel_137 rfl (lv_at hl 3 rfl) ?_
                      refine sp_get hx hb hts wi_X10_correctsHeel_X10 hown hK hP (κ := 0) (by decide) mE_0 rfl 1 (by decide) (hts _ (List.mem_of_getElem? (i := 1) rfl)) (fun _ h => h) rfl dX10_correctsHeel_138 ?_
                      refine lv_bipush (v := 6) hx hb dX10_correctsHeel_141 (by decide) ?_
                      refine lv_dup2_11 hx hb dX10_correctsHeel_143 rfl rfl ?_
                      refine sp_iald hx hb hK hP (κ := 1) (by decide) 1 mE_1 rfl 6 rfl (by omega) (by decide) dX10_correctsHeel_144 ?_
                      refine W.eq (g2 := F0 m 145 ls [.int (μ 1 6), .int (6), .ref (am (1))]) (by rw [sp_st_j _ _ _ _ _ _ (by omega), sp_st_j _ _ _ _ _ _ (by omega)]) ?_
                      refine lv_iconst (v := 1) hx hb dX10_correctsHeel_145 (by decide) ?_
                      refine lv_iadd hx hb dX10_correctsHeel_146 ?_
                      refine sp_iast hx hb hK hP hi hAk hS (κ := 1) (by decide) 1 mE_1 rfl 6 rfl (by omega) (by decide) (r1 := upd ((sp_st (sp_st μ 1 (19 + 9 * j_2 + 3) r) 1 (19 + 9 * j_2 + 4) c1) 1) 6 ((μ 1 6) + 1)) mE_1 dX10_correctsHeel_147 (fun H locs hP hS => ?_)
                      have hP : va_P D vwCl (mW am cy (sp_st (sp_st (sp_st μ 1 (19 + 9 * j_2 + 3) r) 1 (19 + 9 * j_2 + 4) c1) 1 6 ((μ 1 6) + 1))) H := hP
                      refine lv_aload_n hx hb dX10_correctsHeel_148 rfl (lv_at hl 3 rfl) ?_
                      refine lv_iload hx hb dX10_correctsHeel_149 (lv_at hl 1 rfl) ?_
                      refine sp_put hx hb hts wi_X10_correctsHeel_X10 tyX10 tyX10_ok nmX10 hown hK hP hi hAk hS (κ := 0) (by decide) mE_0 rfl 4 (by decide) (hts _ (List.mem_of_getElem? (i := 2) rfl)) (fun _ h => h) rfl (ty := tyX10 4) (by decide +kernel) ⟨rfl, rfl⟩ (Nat.le_of_ble_eq_true rfl) (r1 := upd ((sp_st (sp_st (sp_st μ 1 (19 + 9 * j_2 + 3) r) 1 (19 + 9 * j_2 + 4) c1) 1 6 ((μ 1 6) + 1)) 0) 4 (m_dist (μ 1) j_2 r c1)) (cE_of mE_0 (by simp [upd])) dX10_correctsHeel_151 (fun H locs hP hS => ?_)
                      have hP : va_P D vwCl (mW am cy (sp_st (sp_st (sp_st (sp_st μ 1 (19 + 9 * j_2 + 3) r) 1 (19 + 9 * j_2 + 4) c1) 1 6 ((μ 1 6) + 1)) 0 4 (m_dist (μ 1) j_2 r c1))) H := hP
                      refine lv_iconst (v := 0) hx hb dX10_correctsHeel_154 (by decide) ?_
                      have hE9 : mW am cy (sp_st (sp_st (sp_st (sp_st μ 1 (19 + 9 * j_2 + 3) r) 1 (19 + 9 * j_2 + 4) c1) 1 6 ((μ 1 6) + 1)) 0 4 (m_dist (μ 1) j_2 r c1)) = mW am cy (m_cor μ n x r c1) := by exact mW_eq (by simp [m_cor, m_objM, m_rejO, m_idAt, b2i, m_corv, m_objM, q_1, c_4, c_4d, c_5, q_6, c_8, c_10, c_10d])
                      have hP : va_P D vwCl (mW am cy (m_cor μ n x r c1)) H := by rw [← hE9]; exact hP
                      exact W.iret (v := 0) hx hb hr (fun T9 hT9 _ => ⟨congrArg (fun z9 => Outcome.returned (some (Value.int z9))) (show (0 : Int32) = m_corv (μ 1) n x r c1 from (by first | rfl | (simp [m_corv, m_objM, b2i, q_1, c_4, c_4d, c_5, q_6, c_8, c_10, c_10d]; done))), by rw [hT9]; exact hP, hS.F hT9⟩) hS.2.2 dX10_correctsHeel_155
                    · exact absurd c_13 (by decide)
                  · exact absurd c_12 (by decide)
              · skip
                have c_10d := Int32.not_le.mp c_10
                refine lv_iconst (v := 1) hx hb dX10_correctsHeel_77 (by decide) ?_
                refine lv_goto (tgt := 82) hx hb dX10_correctsHeel_78 (by decide) ?_
                refine lv_iconst (v := 4) hx hb dX10_correctsHeel_82 (by decide) ?_
                refine lv_aload_n hx hb dX10_correctsHeel_83 rfl (lv_at hl 3 rfl) ?_
                refine sp_get hx hb hts wi_X10_correctsHeel_X10 hown hK hP (κ := 0) (by decide) mE_0 rfl 1 (by decide) (hts _ (List.mem_of_getElem? (i := 1) rfl)) (fun _ h => h) rfl dX10_correctsHeel_84 ?_
                refine lv_iconst (v := 4) hx hb dX10_correctsHeel_87 (by decide) ?_
                refine sp_iald hx hb hK hP (κ := 1) (by decide) 1 mE_1 rfl 4 rfl (by omega) (by decide) dX10_correctsHeel_88 ?_
                refine sp_callm (va_runV (As := [.int (1), .int (4), .int (μ 1 4)]) (rest := []) ⟨hx, hb, hml, hown, hts⟩ (c_X10_rejects_1 l D am cy μ _ hi 4 (μ 1 4)) (cwV 3 hts gX10_correctsHeel_X10_rejects rfl rfl rfl (by decide +kernel) ⟨Nat.le_of_ble_eq_true rfl, Nat.le_of_ble_eq_true rfl⟩) (sp_preVm hK hP (κ := 0) (by decide) mE_0 rfl) rfl rfl hl.1 rfl (lv_room (Nat.le_of_ble_eq_true rfl)) dX10_correctsHeel_89 ⟨Nat.le_of_ble_eq_true rfl, Nat.le_of_ble_eq_true rfl⟩) hS (fun q h1 h2 => sp_Alt h1 h2) (sp_Ale hS.1) (fun H locs hP hle hfr hS => ?_)
                refine W.eq (g2 := F0 m 92 ls [.int (1)]) rfl ?_
                refine lv_if_ne (tgt := 119) hx hb dX10_correctsHeel_92 (by decide) (fun c_14 => ?_) (fun c_14 => ?_)
                · skip
                  refine lv_iconst (v := 3) hx hb dX10_correctsHeel_119 (by decide) ?_
                  have hE9 : mW am cy (m_rej μ 4 (μ 1 4)) = mW am cy (m_cor μ n x r c1) := by exact mW_eq (by simp [m_cor, m_objM, m_rejO, m_idAt, b2i, m_corv, m_objM, q_1, c_4, c_4d, c_5, q_6, c_8, c_10, c_10d])
                  have hP : va_P D vwCl (mW am cy (m_cor μ n x r c1)) H := by rw [← hE9]; exact hP
                  exact W.iret (v := 3) hx hb hr (fun T9 hT9 _ => ⟨congrArg (fun z9 => Outcome.returned (some (Value.int z9))) (show (3 : Int32) = m_corv (μ 1) n x r c1 from (by first | rfl | (simp [m_corv, m_objM, b2i, q_1, c_4, c_4d, c_5, q_6, c_8, c_10, c_10d]; done))), by rw [hT9]; exact hP, hS.F hT9⟩) hS.2.2 dX10_correctsHeel_120
                · exact absurd c_14 (by decide)
          · rw [b2i_eq0] at c_8
            refine lv_iconst (v := 1) hx hb dX10_correctsHeel_51 (by decide) ?_
            refine lv_goto (tgt := 56) hx hb dX10_correctsHeel_52 (by decide) ?_
            refine lv_bipush (v := 6) hx hb dX10_correctsHeel_56 (by decide) ?_
            refine lv_iload hx hb dX10_correctsHeel_58 (lv_at hl 1 rfl) ?_
            refine sp_callm (va_runV (As := [.int (1), .int (6), .int (m_dist (μ 1) j_2 r c1)]) (rest := []) ⟨hx, hb, hml, hown, hts⟩ (c_X10_rejects_1 l D am cy μ _ hi 6 (m_dist (μ 1) j_2 r c1)) (cwV 3 hts gX10_correctsHeel_X10_rejects rfl rfl rfl (by decide +kernel) ⟨Nat.le_of_ble_eq_true rfl, Nat.le_of_ble_eq_true rfl⟩) (sp_preVm hK hP (κ := 0) (by decide) mE_0 rfl) rfl rfl hl.1 rfl (lv_room (Nat.le_of_ble_eq_true rfl)) dX10_correctsHeel_60 ⟨Nat.le_of_ble_eq_true rfl, Nat.le_of_ble_eq_true rfl⟩) hS (fun q h1 h2 => sp_Alt h1 h2) (sp_Ale hS.1) (fun H locs hP hle hfr hS => ?_)
            refine W.eq (g2 := F0 m 63 ls [.int (1)]) rfl ?_
            refine lv_if_ne (tgt := 119) hx hb dX10_correctsHeel_63 (by decide) (fun c_15 => ?_) (fun c_15 => ?_)
            · skip
              refine lv_iconst (v := 3) hx hb dX10_correctsHeel_119 (by decide) ?_
              have hE9 : mW am cy (m_rej μ 6 (m_dist (μ 1) j_2 r c1)) = mW am cy (m_cor μ n x r c1) := by exact mW_eq (by simp [m_cor, m_objM, m_rejO, m_idAt, b2i, m_corv, m_objM, q_1, c_4, c_4d, c_5, q_6, c_8])
              have hP : va_P D vwCl (mW am cy (m_cor μ n x r c1)) H := by rw [← hE9]; exact hP
              exact W.iret (v := 3) hx hb hr (fun T9 hT9 _ => ⟨congrArg (fun z9 => Outcome.returned (some (Value.int z9))) (show (3 : Int32) = m_corv (μ 1) n x r c1 from (by first | rfl | (simp [m_corv, m_objM, b2i, q_1, c_4, c_4d, c_5, q_6, c_8]; done))), by rw [hT9]; exact hP, hS.F hT9⟩) hS.2.2 dX10_correctsHeel_120
            · exact absurd c_15 (by decide)
        · have hj_7 := m_cell_lt q_6
          refine W.eq (g2 := F0 m 38 ls [.int (nI j_7)]) (by rw [q_6]; rfl) ?_
          refine lv_istore (lv' := [(6, .int (nI j_7)), (5, .int (m_dist (μ 1) j_2 r c1)), (4, .int (nI j_2)), (0, .ref (am (0))), (1, .int (x)), (2, .int (r)), (3, .int (c1))]) hx hb dX10_correctsHeel_38 hl (by decide) rfl (fun ls hl => ?_)
          refine lv_aload_n hx hb dX10_correctsHeel_40 rfl (lv_at hl 3 rfl) ?_
          refine lv_iload hx hb dX10_correctsHeel_41 (lv_at hl 1 rfl) ?_
          refine lv_iconst (v := 1) hx hb dX10_correctsHeel_43 (by decide) ?_
          refine lv_iconst (v := 2) hx hb dX10_correctsHeel_44 (by decide) ?_
          refine sp_call (W.runS (As := [.int (m_dist (μ 1) j_2 r c1), .int (1), .int (2)]) (rest := [.ref (am (0))]) ⟨hx, hb, hml, hown, hts⟩ (c_X10_in l D am cy μ (m_dist (μ 1) j_2 r c1) 1 2) (va_cwS 3 hts gX10_correctsHeel_X10_in rfl rfl rfl (by decide +kernel) ⟨Nat.le_of_ble_eq_true rfl, Nat.le_of_ble_eq_true rfl⟩) (sp_preS hK hP) rfl rfl hl.1 rfl (lv_room (Nat.le_of_ble_eq_true rfl)) dX10_correctsHeel_45 ⟨Nat.le_of_ble_eq_true rfl, Nat.le_of_ble_eq_true rfl⟩) ?_
          refine W.eq (g2 := F0 m 48 ls [.int (b2i (m_in (m_dist (μ 1) j_2 r c1) 1 2)), .ref (am (0))]) rfl ?_
          refine lv_if_ne (tgt := 55) hx hb dX10_correctsHeel_48 (by decide) (fun c_16 => ?_) (fun c_16 => ?_)
          · rw [b2i_eq0] at c_16
            refine lv_iconst (v := 0) hx hb dX10_correctsHeel_55 (by decide) ?_
            refine lv_bipush (v := 6) hx hb dX10_correctsHeel_56 (by decide) ?_
            refine lv_iload hx hb dX10_correctsHeel_58 (lv_at hl 1 rfl) ?_
            refine sp_callm (va_runV (As := [.int (0), .int (6), .int (m_dist (μ 1) j_2 r c1)]) (rest := []) ⟨hx, hb, hml, hown, hts⟩ (c_X10_rejects_0 l D am cy μ _ hi 6 (m_dist (μ 1) j_2 r c1)) (cwV 3 hts gX10_correctsHeel_X10_rejects rfl rfl rfl (by decide +kernel) ⟨Nat.le_of_ble_eq_true rfl, Nat.le_of_ble_eq_true rfl⟩) (sp_preVm hK hP (κ := 0) (by decide) mE_0 rfl) rfl rfl hl.1 rfl (lv_room (Nat.le_of_ble_eq_true rfl)) dX10_correctsHeel_60 ⟨Nat.le_of_ble_eq_true rfl, Nat.le_of_ble_eq_true rfl⟩) hS (fun q h1 h2 => sp_Alt h1 h2) (sp_Ale hS.1) (fun H locs hP hle hfr hS => ?_)
            refine W.eq (g2 := F0 m 63 ls [.int (0)]) rfl ?_
            refine lv_if_ne (tgt := 119) hx hb dX10_correctsHeel_63 (by decide) (fun c_17 => ?_) (fun c_17 => ?_)
            · exact absurd c_17 (by decide)
            · skip
              refine lv_aload_n hx hb dX10_correctsHeel_66 rfl (lv_at hl 3 rfl) ?_
              refine lv_iload_n hx hb dX10_correctsHeel_67 rfl (lv_at hl 5 rfl) ?_
              refine lv_aload_n hx hb dX10_correctsHeel_68 rfl (lv_at hl 3 rfl) ?_
              refine sp_get hx hb hts wi_X10_correctsHeel_X10 hown hK hP (κ := 0) (by decide) mE_0 rfl 1 (by decide) (hts _ (List.mem_of_getElem? (i := 1) rfl)) (fun _ h => h) rfl dX10_correctsHeel_69 ?_
              refine lv_iconst (v := 4) hx hb dX10_correctsHeel_72 (by decide) ?_
              refine sp_iald hx hb hK hP (κ := 1) (by decide) 1 mE_1 rfl 4 rfl (by omega) (by decide) dX10_correctsHeel_73 ?_
              refine lv_icmp_ge (tgt := 81) hx hb dX10_correctsHeel_74 (by decide) (fun c_18 => ?_) (fun c_18 => ?_)
              · skip
                have c_18d := Int32.not_lt.mpr c_18
                refine lv_iconst (v := 0) hx hb dX10_correctsHeel_81 (by decide) ?_
                refine lv_iconst (v := 4) hx hb dX10_correctsHeel_82 (by decide) ?_
                refine lv_aload_n hx hb dX10_correctsHeel_83 rfl (lv_at hl 3 rfl) ?_
                refine sp_get hx hb hts wi_X10_correctsHeel_X10 hown hK hP (κ := 0) (by decide) mE_0 rfl 1 (by decide) (hts _ (List.mem_of_getElem? (i := 1) rfl)) (fun _ h => h) rfl dX10_correctsHeel_84 ?_
                refine lv_iconst (v := 4) hx hb dX10_correctsHeel_87 (by decide) ?_
                refine sp_iald hx hb hK hP (κ := 1) (by decide) 1 mE_1 rfl 4 rfl (by omega) (by decide) dX10_correctsHeel_88 ?_
                refine sp_callm (va_runV (As := [.int (0), .int (4), .int (μ 1 4)]) (rest := []) ⟨hx, hb, hml, hown, hts⟩ (c_X10_rejects_0 l D am cy μ _ hi 4 (μ 1 4)) (cwV 3 hts gX10_correctsHeel_X10_rejects rfl rfl rfl (by decide +kernel) ⟨Nat.le_of_ble_eq_true rfl, Nat.le_of_ble_eq_true rfl⟩) (sp_preVm hK hP (κ := 0) (by decide) mE_0 rfl) rfl rfl hl.1 rfl (lv_room (Nat.le_of_ble_eq_true rfl)) dX10_correctsHeel_89 ⟨Nat.le_of_ble_eq_true rfl, Nat.le_of_ble_eq_true rfl⟩) hS (fun q h1 h2 => sp_Alt h1 h2) (sp_Ale hS.1) (fun H locs hP hle hfr hS => ?_)
                refine W.eq (g2 := F0 m 92 ls [.int (0)]) rfl ?_
                refine lv_if_ne (tgt := 119) hx hb dX10_correctsHeel_92 (by decide) (fun c_19 => ?_) (fun c_19 => ?_)
                · exact absurd c_19 (by decide)
                · skip
                  refine lv_aload_n hx hb dX10_correctsHeel_95 rfl (lv_at hl 3 rfl) ?_
                  refine lv_iload hx hb dX10_correctsHeel_96 (lv_at hl 0 rfl) ?_
                  refine lv_if_lt (tgt := 105) hx hb dX10_correctsHeel_98 (by decide) (fun c_20 => ?_) (fun c_20 => ?_)
                  · exact absurd c_20 (nI_pos (by omega))
                  · skip
                    have c_20d := Int32.not_lt.mp c_20
                    refine lv_iconst (v := 1) hx hb dX10_correctsHeel_101 (by decide) ?_
                    refine lv_goto (tgt := 106) hx hb dX10_correctsHeel_102 (by decide) ?_
                    refine lv_iconst (v := 5) hx hb dX10_correctsHeel_106 (by decide) ?_
                    refine lv_aload_n hx hb dX10_correctsHeel_107 rfl (lv_at hl 3 rfl) ?_
                    refine lv_iload hx hb dX10_correctsHeel_108 (lv_at hl 0 rfl) ?_
                    refine sp_call (W.runV (As := [.int (nI j_7)]) (rest := [.int (5), .int (1), .ref (am (0))]) ⟨hx, hb, hml, hown, hts⟩ (c_X10_idAt l D am cy μ n t (by first | exact hM | exact hi_0 | (repeat first | exact hM | exact hi_0 | refine MS.st0 ?_ | refine MS.st ?_ (by omega))) (some (j_7)) (by intro j hj; first | (cases hj; done) | (cases hj; omega))) (cwV 1 hts gX10_correctsHeel_X10_idAt rfl rfl rfl (by decide +kernel) ⟨Nat.le_of_ble_eq_true rfl, Nat.le_of_ble_eq_true rfl⟩) (sp_preV hK hP (κ := 0) (by decide) mE_0 rfl) rfl rfl hl.1 rfl (lv_room (Nat.le_of_ble_eq_true rfl)) dX10_correctsHeel_110 ⟨Nat.le_of_ble_eq_true rfl, Nat.le_of_ble_eq_true rfl⟩) ?_
                    refine W.eq (g2 := F0 m 113 ls [.int (m_idAt (μ 1) (some (j_7))), .int (5), .int (1), .ref (am (0))]) rfl ?_
                    refine sp_callm (va_runV (As := [.int (1), .int (5), .int (m_idAt (μ 1) (some (j_7)))]) (rest := []) ⟨hx, hb, hml, hown, hts⟩ (c_X10_rejects_1 l D am cy μ _ hi 5 (m_idAt (μ 1) (some (j_7)))) (cwV 3 hts gX10_correctsHeel_X10_rejects rfl rfl rfl (by decide +kernel) ⟨Nat.le_of_ble_eq_true rfl, Nat.le_of_ble_eq_true rfl⟩) (sp_preVm hK hP (κ := 0) (by decide) mE_0 rfl) rfl rfl hl.1 rfl (lv_room (Nat.le_of_ble_eq_true rfl)) dX10_correctsHeel_113 ⟨Nat.le_of_ble_eq_true rfl, Nat.le_of_ble_eq_true rfl⟩) hS (fun q h1 h2 => sp_Alt h1 h2) (sp_Ale hS.1) (fun H locs hP hle hfr hS => ?_)
                    refine W.eq (g2 := F0 m 116 ls [.int (1)]) rfl ?_
                    refine lv_if_eq (tgt := 121) hx hb dX10_correctsHeel_116 (by decide) (fun c_21 => ?_) (fun c_21 => ?_)
                    · exact absurd c_21 (by decide)
                    · skip
                      refine lv_iconst (v := 3) hx hb dX10_correctsHeel_119 (by decide) ?_
                      have hE9 : mW am cy (m_rej μ 5 (m_idAt (μ 1) (some (j_7)))) = mW am cy (m_cor μ n x r c1) := by exact mW_eq (by simp [m_cor, m_objM, m_rejO, m_idAt, b2i, m_corv, m_objM, q_1, c_4, c_4d, c_5, q_6, c_16, c_18, c_18d, c_20, c_20d])
                      have hP : va_P D vwCl (mW am cy (m_cor μ n x r c1)) H := by rw [← hE9]; exact hP
                      exact W.iret (v := 3) hx hb hr (fun T9 hT9 _ => ⟨congrArg (fun z9 => Outcome.returned (some (Value.int z9))) (show (3 : Int32) = m_corv (μ 1) n x r c1 from (by first | rfl | (simp [m_corv, m_objM, b2i, q_1, c_4, c_4d, c_5, q_6, c_16, c_18, c_18d, c_20, c_20d]; done))), by rw [hT9]; exact hP, hS.F hT9⟩) hS.2.2 dX10_correctsHeel_120
              · skip
                have c_18d := Int32.not_le.mp c_18
                refine lv_iconst (v := 1) hx hb dX10_correctsHeel_77 (by decide) ?_
                refine lv_goto (tgt := 82) hx hb dX10_correctsHeel_78 (by decide) ?_
                refine lv_iconst (v := 4) hx hb dX10_correctsHeel_82 (by decide) ?_
                refine lv_aload_n hx hb dX10_correctsHeel_83 rfl (lv_at hl 3 rfl) ?_
                refine sp_get hx hb hts wi_X10_correctsHeel_X10 hown hK hP (κ := 0) (by decide) mE_0 rfl 1 (by decide) (hts _ (List.mem_of_getElem? (i := 1) rfl)) (fun _ h => h) rfl dX10_correctsHeel_84 ?_
                refine lv_iconst (v := 4) hx hb dX10_correctsHeel_87 (by decide) ?_
                refine sp_iald hx hb hK hP (κ := 1) (by decide) 1 mE_1 rfl 4 rfl (by omega) (by decide) dX10_correctsHeel_88 ?_
                refine sp_callm (va_runV (As := [.int (1), .int (4), .int (μ 1 4)]) (rest := []) ⟨hx, hb, hml, hown, hts⟩ (c_X10_rejects_1 l D am cy μ _ hi 4 (μ 1 4)) (cwV 3 hts gX10_correctsHeel_X10_rejects rfl rfl rfl (by decide +kernel) ⟨Nat.le_of_ble_eq_true rfl, Nat.le_of_ble_eq_true rfl⟩) (sp_preVm hK hP (κ := 0) (by decide) mE_0 rfl) rfl rfl hl.1 rfl (lv_room (Nat.le_of_ble_eq_true rfl)) dX10_correctsHeel_89 ⟨Nat.le_of_ble_eq_true rfl, Nat.le_of_ble_eq_true rfl⟩) hS (fun q h1 h2 => sp_Alt h1 h2) (sp_Ale hS.1) (fun H locs hP hle hfr hS => ?_)
                refine W.eq (g2 := F0 m 92 ls [.int (1)]) rfl ?_
                refine lv_if_ne (tgt := 119) hx hb dX10_correctsHeel_92 (by decide) (fun c_22 => ?_) (fun c_22 => ?_)
                · skip
                  refine lv_iconst (v := 3) hx hb dX10_correctsHeel_119 (by decide) ?_
                  have hE9 : mW am cy (m_rej μ 4 (μ 1 4)) = mW am cy (m_cor μ n x r c1) := by exact mW_eq (by simp [m_cor, m_objM, m_rejO, m_idAt, b2i, m_corv, m_objM, q_1, c_4, c_4d, c_5, q_6, c_16, c_18, c_18d])
                  have hP : va_P D vwCl (mW am cy (m_cor μ n x r c1)) H := by rw [← hE9]; exact hP
                  exact W.iret (v := 3) hx hb hr (fun T9 hT9 _ => ⟨congrArg (fun z9 => Outcome.returned (some (Value.int z9))) (show (3 : Int32) = m_corv (μ 1) n x r c1 from (by first | rfl | (simp [m_corv, m_objM, b2i, q_1, c_4, c_4d, c_5, q_6, c_16, c_18, c_18d]; done))), by rw [hT9]; exact hP, hS.F hT9⟩) hS.2.2 dX10_correctsHeel_120
                · exact absurd c_22 (by decide)
          · rw [b2i_eq0] at c_16
            refine lv_iconst (v := 1) hx hb dX10_correctsHeel_51 (by decide) ?_
            refine lv_goto (tgt := 56) hx hb dX10_correctsHeel_52 (by decide) ?_
            refine lv_bipush (v := 6) hx hb dX10_correctsHeel_56 (by decide) ?_
            refine lv_iload hx hb dX10_correctsHeel_58 (lv_at hl 1 rfl) ?_
            refine sp_callm (va_runV (As := [.int (1), .int (6), .int (m_dist (μ 1) j_2 r c1)]) (rest := []) ⟨hx, hb, hml, hown, hts⟩ (c_X10_rejects_1 l D am cy μ _ hi 6 (m_dist (μ 1) j_2 r c1)) (cwV 3 hts gX10_correctsHeel_X10_rejects rfl rfl rfl (by decide +kernel) ⟨Nat.le_of_ble_eq_true rfl, Nat.le_of_ble_eq_true rfl⟩) (sp_preVm hK hP (κ := 0) (by decide) mE_0 rfl) rfl rfl hl.1 rfl (lv_room (Nat.le_of_ble_eq_true rfl)) dX10_correctsHeel_60 ⟨Nat.le_of_ble_eq_true rfl, Nat.le_of_ble_eq_true rfl⟩) hS (fun q h1 h2 => sp_Alt h1 h2) (sp_Ale hS.1) (fun H locs hP hle hfr hS => ?_)
            refine W.eq (g2 := F0 m 63 ls [.int (1)]) rfl ?_
            refine lv_if_ne (tgt := 119) hx hb dX10_correctsHeel_63 (by decide) (fun c_23 => ?_) (fun c_23 => ?_)
            · skip
              refine lv_iconst (v := 3) hx hb dX10_correctsHeel_119 (by decide) ?_
              have hE9 : mW am cy (m_rej μ 6 (m_dist (μ 1) j_2 r c1)) = mW am cy (m_cor μ n x r c1) := by exact mW_eq (by simp [m_cor, m_objM, m_rejO, m_idAt, b2i, m_corv, m_objM, q_1, c_4, c_4d, c_5, q_6, c_16])
              have hP : va_P D vwCl (mW am cy (m_cor μ n x r c1)) H := by rw [← hE9]; exact hP
              exact W.iret (v := 3) hx hb hr (fun T9 hT9 _ => ⟨congrArg (fun z9 => Outcome.returned (some (Value.int z9))) (show (3 : Int32) = m_corv (μ 1) n x r c1 from (by first | rfl | (simp [m_corv, m_objM, b2i, q_1, c_4, c_4d, c_5, q_6, c_16]; done))), by rw [hT9]; exact hP, hS.F hT9⟩) hS.2.2 dX10_correctsHeel_120
            · exact absurd c_23 (by decide)
      · rw [b2i_eq0] at c_5
        refine lv_iconst (v := 1) hx hb dX10_correctsHeel_20 (by decide) ?_
        have hE9 : mW am cy (μ) = mW am cy (m_cor μ n x r c1) := by exact mW_eq (by simp [m_cor, m_objM, m_rejO, m_idAt, b2i, m_corv, m_objM, q_1, c_4, c_4d, c_5])
        have hP : va_P D vwCl (mW am cy (m_cor μ n x r c1)) s.heap := by rw [← hE9]; exact hP
        exact W.iret (v := 1) hx hb hr (fun T9 hT9 _ => ⟨congrArg (fun z9 => Outcome.returned (some (Value.int z9))) (show (1 : Int32) = m_corv (μ 1) n x r c1 from (by first | rfl | (simp [m_corv, m_objM, b2i, q_1, c_4, c_4d, c_5]; done))), by rw [hT9]; exact hP, hS.F hT9⟩) hS.2.2 dX10_correctsHeel_21

theorem wi_X10_removesTrack_X10 : ∀ w ∈ wsX100, w ∈ wsX10_removesTrack := by decide +kernel
set_option maxHeartbeats 4000000 in
set_option maxRecDepth 100000 in
theorem c_X10_removesTrack (l : Launch) (D : va_G) (am : Nat → Nat) (cy : Nat → ClassId) (μ : Nat → Nat → Int32) (sz : Nat) (hi : sp_inj am 5) (n : Nat) (t : Nat) (hM : MS (μ 1) n t) (x : Int32) : Met l yX10_removesTrack wsX10_removesTrack ({ frames := 2, cells := 0, slots := 0, locals := 46 } : Room) (sp_Pm D (tyG cy) sz [.ref (am (0)), .int (x)] (mW am cy μ)) (sp_Q D (some (.int (m_by (m_ft (μ 1) t x)))) (mW am cy (m_rmTr μ n t x)) (sp_A am 5 sz)) 0 0 (sp_A am 5 sz) := by
  refine Met.ofW (cc := cX10_removesTrack) (maxL := 5) (ret := (some .int)) (by decide) rfl ?_
  intro p e s m args below meth c s₁ B hml hv
  obtain ⟨rfl, hsz, hP, hK⟩ := hv
  have hx := B.exec
  have hb := B.bytes
  have hr := B.returns
  have hts := atoms_spec (ws := wsX10_removesTrack) B.pre
  have hown : s.vm.findClass RX10 = some m.cls := findClass_of_methodNamed B.named
  have hlocks := B.notSynchronized
  subst hsz
  have hS : va_S (sp_A am 5 s.heap.size) s.heap s.heap [] := va_S.rf
  have hAk : ∀ k, k < 5 → (sp_A am 5 s.heap.size) (am k) := fun k hk => Or.inl ⟨k, hk, rfl⟩
  skip
  have hn30 := hM.2.1
  have ht6 := hM.2.2.2
  have hl := lv_entry ([.ref (am (0)), .int (x)]) (n := 5) (Nat.le_of_ble_eq_true rfl)
  refine W.eq (lg_entry_eq _ ([.ref (am (0)), .int (x)]) _) ?_
  generalize (lg_sl ([.ref (am (0)), .int (x)]) ++ List.replicate (5 - (lg_sl ([.ref (am (0)), .int (x)])).length) Slot.unset).toArray = ls at hl ⊢
  have hl : lv_has ls 5 [(0, .ref (am (0))), (1, .int (x))] := hl
  refine lv_aload_n hx hb dX10_removesTrack_0 rfl (lv_at hl 0 rfl) ?_
  refine lv_iload_n hx hb dX10_removesTrack_1 rfl (lv_at hl 1 rfl) ?_
  refine sp_call (W.runV (As := [.int (x)]) (rest := []) ⟨hx, hb, hml, hown, hts⟩ (c_X10_findTrack l D am cy μ n t (by first | exact hM | exact hi_0 | (repeat first | exact hM | exact hi_0 | refine MS.st0 ?_ | refine MS.st ?_ (by omega))) x) (cwV 1 hts gX10_removesTrack_X10_findTrack rfl rfl rfl (by decide +kernel) ⟨Nat.le_of_ble_eq_true rfl, Nat.le_of_ble_eq_true rfl⟩) (sp_preV hK hP (κ := 0) (by decide) mE_0 rfl) rfl rfl hl.1 rfl (lv_room (Nat.le_of_ble_eq_true rfl)) dX10_removesTrack_2 ⟨Nat.le_of_ble_eq_true rfl, Nat.le_of_ble_eq_true rfl⟩) ?_
  rcases opt_em (m_ft (μ 1) t x) with q_1 | ⟨k, q_1⟩
  · refine W.eq (g2 := F0 m 5 ls [.int ((-1))]) (by rw [q_1]; rfl) ?_
    refine lv_istore_n (lv' := [(2, .int ((-1))), (0, .ref (am (0))), (1, .int (x))]) hx hb dX10_removesTrack_5 rfl hl (by decide) rfl (fun ls hl => ?_)
    refine lv_iload_n hx hb dX10_removesTrack_6 rfl (lv_at hl 0 rfl) ?_
    refine lv_if_ge (tgt := 12) hx hb dX10_removesTrack_7 (by decide) (fun c_2 => ?_) (fun c_2 => ?_)
    · exact absurd c_2 (by decide)
    · skip
      refine lv_iconst (v := 1) hx hb dX10_removesTrack_10 (by decide) ?_
      have hE9 : mW am cy (μ) = mW am cy (m_rmTr μ n t x) := by exact mW_eq (by first | (simp only [m_rmTr, atO, b2i, m_by, q_1]; done) | (simp only [m_rmTr, atO, b2i, m_by, q_1]; rfl) | (simp only [m_rmTr, atO, b2i, m_by, q_1]; unfold m_rmT; rw [show nI t - 1 = nI (t - 1) from nI_subE rfl rfl (by omega)]))
      have hP : va_P D vwCl (mW am cy (m_rmTr μ n t x)) s.heap := by rw [← hE9]; exact hP
      exact W.iret (v := 1) hx hb hr (fun T9 hT9 _ => ⟨congrArg (fun z9 => Outcome.returned (some (Value.int z9))) (show (1 : Int32) = m_by (m_ft (μ 1) t x) from (by first | rfl | (simp [m_by, b2i, q_1]; done))), by rw [hT9]; exact hP, hS.F hT9⟩) hS.2.2 dX10_removesTrack_11
  · have hk := m_ft_lt q_1
    refine W.eq (g2 := F0 m 5 ls [.int (nI k)]) (by rw [q_1]; rfl) ?_
    refine lv_istore_n (lv' := [(2, .int (nI k)), (0, .ref (am (0))), (1, .int (x))]) hx hb dX10_removesTrack_5 rfl hl (by decide) rfl (fun ls hl => ?_)
    refine lv_iload_n hx hb dX10_removesTrack_6 rfl (lv_at hl 0 rfl) ?_
    refine lv_if_ge (tgt := 12) hx hb dX10_removesTrack_7 (by decide) (fun c_3 => ?_) (fun c_3 => ?_)
    · skip
      have c_3d := Int32.not_lt.mpr c_3
      refine lv_aload_n hx hb dX10_removesTrack_12 rfl (lv_at hl 1 rfl) ?_
      refine lv_aload_n hx hb dX10_removesTrack_13 rfl (lv_at hl 1 rfl) ?_
      refine lv_iload_n hx hb dX10_removesTrack_14 rfl (lv_at hl 2 rfl) ?_
      refine sp_call (W.runV (As := [.int (x)]) (rest := [.ref (am (0))]) ⟨hx, hb, hml, hown, hts⟩ (c_X10_countOf l D am cy μ n t (by first | exact hM | exact hi_0 | (repeat first | exact hM | exact hi_0 | refine MS.st0 ?_ | refine MS.st ?_ (by omega))) x) (cwV 1 hts gX10_removesTrack_X10_countOf rfl rfl rfl (by decide +kernel) ⟨Nat.le_of_ble_eq_true rfl, Nat.le_of_ble_eq_true rfl⟩) (sp_preV hK hP (κ := 0) (by decide) mE_0 rfl) rfl rfl hl.1 rfl (lv_room (Nat.le_of_ble_eq_true rfl)) dX10_removesTrack_15 ⟨Nat.le_of_ble_eq_true rfl, Nat.le_of_ble_eq_true rfl⟩) ?_
      refine W.eq (g2 := F0 m 18 ls [.int (m_count (μ 1) n x), .ref (am (0))]) rfl ?_
      refine sp_put hx hb hts wi_X10_removesTrack_X10 tyX10 tyX10_ok nmX10 hown hK hP hi hAk hS (κ := 0) (by decide) mE_0 rfl 4 (by decide) (hts _ (List.mem_of_getElem? (i := 1) rfl)) (fun _ h => h) rfl (ty := tyX10 4) (by decide +kernel) ⟨rfl, rfl⟩ (Nat.le_of_ble_eq_true rfl) (r1 := upd (μ 0) 4 (m_count (μ 1) n x)) (cE_of mE_0 (by simp [upd])) dX10_removesTrack_18 (fun H locs hP hS => ?_)
      have hP : va_P D vwCl (mW am cy (sp_st μ 0 4 (m_count (μ 1) n x))) H := hP
      refine lv_aload_n hx hb dX10_removesTrack_21 rfl (lv_at hl 1 rfl) ?_
      refine sp_get hx hb hts wi_X10_removesTrack_X10 hown hK hP (κ := 0) (by decide) mE_0 rfl 1 (by decide) (hts _ (List.mem_of_getElem? (i := 2) rfl)) (fun _ h => h) rfl dX10_removesTrack_22 ?_
      refine lv_iconst (v := 1) hx hb dX10_removesTrack_25 (by decide) ?_
      refine sp_iald hx hb hK hP (κ := 1) (by decide) 1 mE_1 rfl 1 rfl (by omega) (by decide) dX10_removesTrack_26 ?_
      refine W.eq (g2 := F0 m 27 ls [.int (μ 1 1)]) (by rw [sp_st_k _ _ _ _ _ _ (by decide)]) ?_
      refine W.eq (g2 := F0 m 27 ls [.int (nI n)]) (by rw [hM.1]) ?_
      refine lv_iconst (v := 1) hx hb dX10_removesTrack_27 (by decide) ?_
      refine lv_isub hx hb dX10_removesTrack_28 ?_
      refine lv_istore_n (lv' := [(3, .int ((nI n) - 1)), (2, .int (nI k)), (0, .ref (am (0))), (1, .int (x))]) hx hb dX10_removesTrack_29 rfl hl (by decide) rfl (fun ls hl => ?_)
      have hE7 : nI n - 1 = posI (dnx n 0) := dnx_0 _
      rw [hE7] at hl
      have loop_30 : ∀ (fu i : Nat) (H : Heap) (locs : List Loc), (i ≤ n) → (n - i < fu) → (MS ((m_rm (mQ_tr x) n (sp_st μ 0 4 (m_count (μ 1) n x)) i).2 1) (m_rm (mQ_tr x) n (sp_st μ 0 4 (m_count (μ 1) n x)) i).1 t) → (n - i ≤ (m_rm (mQ_tr x) n (sp_st μ 0 4 (m_count (μ 1) n x)) i).1) → (va_P D vwCl (mW am cy ((m_rm (mQ_tr x) n (sp_st μ 0 4 (m_count (μ 1) n x)) i).2)) H) → (va_S (sp_A am 5 s.heap.size) s.heap H locs) → ∀ ls : Array Slot, lv_has ls 5 [(3, .int (posI (dnx n i))), (2, .int (nI k)), (0, .ref (am (0))), (1, .int (x))] → W p l e (headSpec wsX10_removesTrack ({ frames := 2, cells := 0, slots := 0, locals := 46 } : Room)).room s m ([.ref (am (0)), .int (x)] : List Value).toArray below meth c H locs 0 0 (MQ below (sp_Q D (some (.int (m_by (m_ft (μ 1) t x)))) (mW am cy (m_rmTr μ n t x)) (sp_A am 5 s.heap.size)) ([.ref (am (0)), .int (x)] : List Value).toArray s 0 0 (sp_A am 5 s.heap.size)) (F0 m 30 ls []) := by
        intro fu
        induction fu with
        | zero => intro i H locs hle hlt hi_0 hi_1 hP hS ls hl; exact absurd hlt (Nat.not_lt_zero _)
        | succ fu ih =>
          intro i H locs hle hlt hi_0 hi_1 hP hS ls hl
          rcases hdn : dnx n i with _ | d9
          · have hl : lv_has ls 5 [(3, .int ((-1))), (2, .int (nI k)), (0, .ref (am (0))), (1, .int (x))] := by rw [hdn] at hl; exact hl
            have hx_i : i = n := dnx_none hdn hle
            refine lv_iload_n hx hb dX10_removesTrack_30 rfl (lv_at hl 0 rfl) ?_
            refine lv_if_lt (tgt := 55) hx hb dX10_removesTrack_31 (by decide) (fun c_4 => ?_) (fun c_4 => ?_)
            · skip
              rw [hx_i] at hP hi_0
              have hT9 : (m_rm (mQ_tr x) n (sp_st μ 0 4 (m_count (μ 1) n x)) n).2 1 0 = nI t := hi_0.2.2.1
              refine lv_aload_n hx hb dX10_removesTrack_55 rfl (lv_at hl 2 rfl) ?_
              refine sp_get hx hb hts wi_X10_removesTrack_X10 hown hK hP (κ := 0) (by decide) mE_0 rfl 1 (by decide) (hts _ (List.mem_of_getElem? (i := 2) rfl)) (fun _ h => h) rfl dX10_removesTrack_56 ?_
              refine lv_iconst (v := 0) hx hb dX10_removesTrack_59 (by decide) ?_
              refine sp_iald hx hb hK hP (κ := 1) (by decide) 1 mE_1 rfl 0 rfl (by omega) (by decide) dX10_removesTrack_60 ?_
              refine W.eq (g2 := F0 m 61 ls [.int (nI t)]) (by rw [hT9]) ?_
              refine lv_iconst (v := 1) hx hb dX10_removesTrack_61 (by decide) ?_
              refine lv_isub hx hb dX10_removesTrack_62 ?_
              refine lv_istore_n (lv' := [(3, .int ((nI t) - 1)), (2, .int (nI k)), (0, .ref (am (0))), (1, .int (x))]) hx hb dX10_removesTrack_63 rfl hl (by decide) rfl (fun ls hl => ?_)
              refine lv_iconst (v := 2) hx hb dX10_removesTrack_64 (by decide) ?_
              refine lv_iload_n hx hb dX10_removesTrack_65 rfl (lv_at hl 1 rfl) ?_
              refine lv_imul hx hb dX10_removesTrack_66 ?_
              refine lv_istore (lv' := [(4, .int (2 * (nI k))), (3, .int ((nI t) - 1)), (2, .int (nI k)), (0, .ref (am (0))), (1, .int (x))]) hx hb dX10_removesTrack_67 hl (by decide) rfl (fun ls hl => ?_)
              have hE6 : 2 * nI k = nI (2 * k) := nI_mulE rfl rfl
              rw [hE6] at hl
              have loop_69 : ∀ (fu j : Nat) (H : Heap) (locs : List Loc), (j ≤ 2 * (t - 1)) → (2 * (t - 1) - j < fu) → (2 * k ≤ j) → (va_P D vwCl (mW am cy (m_mv (m_rm (mQ_tr x) n (sp_st μ 0 4 (m_count (μ 1) n x)) n).2 2 (7 + 2 * k) (7 + j))) H) → (va_S (sp_A am 5 s.heap.size) s.heap H locs) → ∀ ls : Array Slot, lv_has ls 5 [(4, .int (nI j)), (3, .int ((nI t) - 1)), (2, .int (nI k)), (0, .ref (am (0))), (1, .int (x))] → W p l e (headSpec wsX10_removesTrack ({ frames := 2, cells := 0, slots := 0, locals := 46 } : Room)).room s m ([.ref (am (0)), .int (x)] : List Value).toArray below meth c H locs 0 0 (MQ below (sp_Q D (some (.int (m_by (m_ft (μ 1) t x)))) (mW am cy (m_rmTr μ n t x)) (sp_A am 5 s.heap.size)) ([.ref (am (0)), .int (x)] : List Value).toArray s 0 0 (sp_A am 5 s.heap.size)) (F0 m 69 ls []) := by
                intro fu
                induction fu with
                | zero => intro j H locs hle hlt hj_0 hP hS ls hl; exact absurd hlt (Nat.not_lt_zero _)
                | succ fu ih2 =>
                  intro j H locs hle hlt hj_0 hP hS ls hl
                  refine lv_iload hx hb dX10_removesTrack_69 (lv_at hl 0 rfl) ?_
                  refine lv_iconst (v := 2) hx hb dX10_removesTrack_71 (by decide) ?_
                  refine lv_iload_n hx hb dX10_removesTrack_72 rfl (lv_at hl 1 rfl) ?_
                  refine lv_imul hx hb dX10_removesTrack_73 ?_
                  refine lv_icmp_ge (tgt := 105) hx hb dX10_removesTrack_74 (by decide) (fun c_5 => ?_) (fun c_5 => ?_)
                  · skip
                    have c_5d := Int32.not_lt.mpr c_5
                    rw [(show 2 * (nI t - 1) = nI (2 * (t - 1)) from nI_mulE rfl (nI_subE rfl rfl (by omega)))] at c_5
                    have hx_j : j = 2 * (t - 1) := by have := (nI_leI (a := 2 * (t - 1)) (b := j) (by omega) (by omega)).mp c_5; omega
                    try rw [hx_j] at hj_0
                    rw [hx_j] at hP
                    refine lv_aload_n hx hb dX10_removesTrack_105 rfl (lv_at hl 3 rfl) ?_
                    refine sp_get hx hb hts wi_X10_removesTrack_X10 hown hK hP (κ := 0) (by decide) mE_0 rfl 1 (by decide) (hts _ (List.mem_of_getElem? (i := 2) rfl)) (fun _ h => h) rfl dX10_removesTrack_106 ?_
                    refine lv_bipush (v := 7) hx hb dX10_removesTrack_109 (by decide) ?_
                    refine lv_iconst (v := 2) hx hb dX10_removesTrack_111 (by decide) ?_
                    refine lv_iload_n hx hb dX10_removesTrack_112 rfl (lv_at hl 1 rfl) ?_
                    refine lv_imul hx hb dX10_removesTrack_113 ?_
                    refine lv_iadd hx hb dX10_removesTrack_114 ?_
                    refine lv_iconst (v := 0) hx hb dX10_removesTrack_115 (by decide) ?_
                    refine sp_iast hx hb hK hP hi hAk hS (κ := 1) (by decide) 1 mE_1 rfl (7 + (2 * (t - 1))) (nI_addE rfl (nI_mulE rfl (nI_subE rfl rfl (by omega)))) (by omega) (by decide) (r1 := upd ((m_mv (m_rm (mQ_tr x) n (sp_st μ 0 4 (m_count (μ 1) n x)) n).2 2 (7 + 2 * k) (7 + 2 * (t - 1))) 1) (7 + (2 * (t - 1))) 0) mE_1 dX10_removesTrack_116 (fun H locs hP hS => ?_)
                    have hP : va_P D vwCl (mW am cy (sp_st (m_mv (m_rm (mQ_tr x) n (sp_st μ 0 4 (m_count (μ 1) n x)) n).2 2 (7 + 2 * k) (7 + 2 * (t - 1))) 1 (7 + (2 * (t - 1))) 0)) H := hP
                    refine lv_aload_n hx hb dX10_removesTrack_117 rfl (lv_at hl 3 rfl) ?_
                    refine sp_get hx hb hts wi_X10_removesTrack_X10 hown hK hP (κ := 0) (by decide) mE_0 rfl 1 (by decide) (hts _ (List.mem_of_getElem? (i := 2) rfl)) (fun _ h => h) rfl dX10_removesTrack_118 ?_
                    refine lv_bipush (v := 7) hx hb dX10_removesTrack_121 (by decide) ?_
                    refine lv_iconst (v := 2) hx hb dX10_removesTrack_123 (by decide) ?_
                    refine lv_iload_n hx hb dX10_removesTrack_124 rfl (lv_at hl 1 rfl) ?_
                    refine lv_imul hx hb dX10_removesTrack_125 ?_
                    refine lv_iadd hx hb dX10_removesTrack_126 ?_
                    refine lv_iconst (v := 1) hx hb dX10_removesTrack_127 (by decide) ?_
                    refine lv_iadd hx hb dX10_removesTrack_128 ?_
                    refine lv_iconst (v := 0) hx hb dX10_removesTrack_129 (by decide) ?_
                    refine sp_iast hx hb hK hP hi hAk hS (κ := 1) (by decide) 1 mE_1 rfl ((7 + (2 * (t - 1))) + 1) (nI_addE (nI_addE rfl (nI_mulE rfl (nI_subE rfl rfl (by omega)))) rfl) (by omega) (by decide) (r1 := upd ((sp_st (m_mv (m_rm (mQ_tr x) n (sp_st μ 0 4 (m_count (μ 1) n x)) n).2 2 (7 + 2 * k) (7 + 2 * (t - 1))) 1 (7 + (2 * (t - 1))) 0) 1) ((7 + (2 * (t - 1))) + 1) 0) mE_1 dX10_removesTrack_130 (fun H locs hP hS => ?_)
                    have hP : va_P D vwCl (mW am cy (sp_st (sp_st (m_mv (m_rm (mQ_tr x) n (sp_st μ 0 4 (m_count (μ 1) n x)) n).2 2 (7 + 2 * k) (7 + 2 * (t - 1))) 1 (7 + (2 * (t - 1))) 0) 1 ((7 + (2 * (t - 1))) + 1) 0)) H := hP
                    refine lv_aload_n hx hb dX10_removesTrack_131 rfl (lv_at hl 3 rfl) ?_
                    refine sp_get hx hb hts wi_X10_removesTrack_X10 hown hK hP (κ := 0) (by decide) mE_0 rfl 1 (by decide) (hts _ (List.mem_of_getElem? (i := 2) rfl)) (fun _ h => h) rfl dX10_removesTrack_132 ?_
                    refine lv_iconst (v := 0) hx hb dX10_removesTrack_135 (by decide) ?_
                    refine lv_iload_n hx hb dX10_removesTrack_136 rfl (lv_at hl 1 rfl) ?_
                    refine sp_iast hx hb hK hP hi hAk hS (κ := 1) (by decide) 1 mE_1 rfl 0 rfl (by omega) (by decide) (r1 := upd ((sp_st (sp_st (m_mv (m_rm (mQ_tr x) n (sp_st μ 0 4 (m_count (μ 1) n x)) n).2 2 (7 + 2 * k) (7 + 2 * (t - 1))) 1 (7 + (2 * (t - 1))) 0) 1 ((7 + (2 * (t - 1))) + 1) 0) 1) 0 ((nI t) - 1)) mE_1 dX10_removesTrack_137 (fun H locs hP hS => ?_)
                    have hP : va_P D vwCl (mW am cy (sp_st (sp_st (sp_st (m_mv (m_rm (mQ_tr x) n (sp_st μ 0 4 (m_count (μ 1) n x)) n).2 2 (7 + 2 * k) (7 + 2 * (t - 1))) 1 (7 + (2 * (t - 1))) 0) 1 ((7 + (2 * (t - 1))) + 1) 0) 1 0 ((nI t) - 1))) H := hP
                    refine lv_iconst (v := 0) hx hb dX10_removesTrack_138 (by decide) ?_
                    have hE9 : mW am cy (sp_st (sp_st (sp_st (m_mv (m_rm (mQ_tr x) n (sp_st μ 0 4 (m_count (μ 1) n x)) n).2 2 (7 + 2 * k) (7 + 2 * (t - 1))) 1 (7 + (2 * (t - 1))) 0) 1 ((7 + (2 * (t - 1))) + 1) 0) 1 0 ((nI t) - 1)) = mW am cy (m_rmTr μ n t x) := by exact mW_eq (by first | (simp only [m_rmTr, atO, b2i, m_by, q_1, c_3, c_3d]; done) | (simp only [m_rmTr, atO, b2i, m_by, q_1, c_3, c_3d]; rfl) | (simp only [m_rmTr, atO, b2i, m_by, q_1, c_3, c_3d]; unfold m_rmT; rw [show nI t - 1 = nI (t - 1) from nI_subE rfl rfl (by omega)]))
                    have hP : va_P D vwCl (mW am cy (m_rmTr μ n t x)) H := by rw [← hE9]; exact hP
                    exact W.iret (v := 0) hx hb hr (fun T9 hT9 _ => ⟨congrArg (fun z9 => Outcome.returned (some (Value.int z9))) (show (0 : Int32) = m_by (m_ft (μ 1) t x) from (by first | rfl | (simp [m_by, b2i, q_1, c_3, c_3d]; done))), by rw [hT9]; exact hP, hS.F hT9⟩) hS.2.2 dX10_removesTrack_139
                  · skip
                    have c_5d := Int32.not_le.mp c_5
                    rw [(show 2 * (nI t - 1) = nI (2 * (t - 1)) from nI_mulE rfl (nI_subE rfl rfl (by omega)))] at c_5
                    have hb_j : j < 2 * (t - 1) := Nat.lt_of_not_le (fun z => c_5 (nI_le z (by omega)))
                    refine lv_aload_n hx hb dX10_removesTrack_77 rfl (lv_at hl 3 rfl) ?_
                    refine sp_get hx hb hts wi_X10_removesTrack_X10 hown hK hP (κ := 0) (by decide) mE_0 rfl 1 (by decide) (hts _ (List.mem_of_getElem? (i := 2) rfl)) (fun _ h => h) rfl dX10_removesTrack_78 ?_
                    refine lv_bipush (v := 7) hx hb dX10_removesTrack_81 (by decide) ?_
                    refine lv_iload hx hb dX10_removesTrack_83 (lv_at hl 0 rfl) ?_
                    refine lv_iadd hx hb dX10_removesTrack_85 ?_
                    refine lv_aload_n hx hb dX10_removesTrack_86 rfl (lv_at hl 3 rfl) ?_
                    refine sp_get hx hb hts wi_X10_removesTrack_X10 hown hK hP (κ := 0) (by decide) mE_0 rfl 1 (by decide) (hts _ (List.mem_of_getElem? (i := 2) rfl)) (fun _ h => h) rfl dX10_removesTrack_87 ?_
                    refine lv_bipush (v := 7) hx hb dX10_removesTrack_90 (by decide) ?_
                    refine lv_iload hx hb dX10_removesTrack_92 (lv_at hl 0 rfl) ?_
                    refine lv_iadd hx hb dX10_removesTrack_94 ?_
                    refine lv_iconst (v := 2) hx hb dX10_removesTrack_95 (by decide) ?_
                    refine lv_iadd hx hb dX10_removesTrack_96 ?_
                    refine sp_iald hx hb hK hP (κ := 1) (by decide) 1 mE_1 rfl ((7 + j) + 2) (nI_addE (nI_addE rfl rfl) rfl) (by omega) (by decide) dX10_removesTrack_97 ?_
                    refine sp_iast hx hb hK hP hi hAk hS (κ := 1) (by decide) 1 mE_1 rfl (7 + j) (nI_addE rfl rfl) (by omega) (by decide) (r1 := upd ((m_mv (m_rm (mQ_tr x) n (sp_st μ 0 4 (m_count (μ 1) n x)) n).2 2 (7 + 2 * k) (7 + j)) 1) (7 + j) (m_mv (m_rm (mQ_tr x) n (sp_st μ 0 4 (m_count (μ 1) n x)) n).2 2 (7 + 2 * k) (7 + j) 1 ((7 + j) + 2))) mE_1 dX10_removesTrack_98 (fun H locs hP hS => ?_)
                    have hP : va_P D vwCl (mW am cy (sp_st (m_mv (m_rm (mQ_tr x) n (sp_st μ 0 4 (m_count (μ 1) n x)) n).2 2 (7 + 2 * k) (7 + j)) 1 (7 + j) (m_mv (m_rm (mQ_tr x) n (sp_st μ 0 4 (m_count (μ 1) n x)) n).2 2 (7 + 2 * k) (7 + j) 1 ((7 + j) + 2)))) H := hP
                    refine lv_iinc (v := nI (j + 1)) (lv' := [(4, .int (nI (j + 1))), (3, .int ((nI t) - 1)), (2, .int (nI k)), (0, .ref (am (0))), (1, .int (x))]) hx hb dX10_removesTrack_99 hl (k := 0) rfl (nI_1 _) (by decide) rfl (fun ls hl => ?_)
                    refine lv_goto (tgt := 69) hx hb dX10_removesTrack_102 (by decide) ?_
                    exact ih2 (j + 1)  _ _ (by omega) (by omega) (by omega) ((show mW am cy (sp_st (m_mv (m_rm (mQ_tr x) n (sp_st μ 0 4 (m_count (μ 1) n x)) n).2 2 (7 + 2 * k) (7 + j)) 1 (7 + j) (m_mv (m_rm (mQ_tr x) n (sp_st μ 0 4 (m_count (μ 1) n x)) n).2 2 (7 + 2 * k) (7 + j) 1 ((7 + j) + 2))) = mW am cy (m_mv (m_rm (mQ_tr x) n (sp_st μ 0 4 (m_count (μ 1) n x)) n).2 2 (7 + 2 * k) (7 + (j + 1))) from (by exact mW_eq (m_mv_s (by omega) (by omega)))) ▸ hP) hS ls (lv_sub hl [0, 1, 2, 3, 4] rfl)
              exact loop_69 (2 * (t - 1) + 1) (2 * k)  _ _ (by omega) (by omega) (Nat.le_refl _) ((show mW am cy ((m_rm (mQ_tr x) n (sp_st μ 0 4 (m_count (μ 1) n x)) n).2) = mW am cy (m_mv (m_rm (mQ_tr x) n (sp_st μ 0 4 (m_count (μ 1) n x)) n).2 2 (7 + 2 * k) (7 + (2 * k))) from (by exact mW_eq (m_mv_0 _ _ _).symm)) ▸ hP) hS ls (lv_sub hl [0, 1, 2, 3, 4] rfl)
            · exact absurd c_4 (by decide)
          · have hl : lv_has ls 5 [(3, .int (nI d9)), (2, .int (nI k)), (0, .ref (am (0))), (1, .int (x))] := by rw [hdn] at hl; exact hl
            obtain ⟨hj9, hb_i⟩ := dnx_some hdn
            refine lv_iload_n hx hb dX10_removesTrack_30 rfl (lv_at hl 0 rfl) ?_
            refine lv_if_lt (tgt := 55) hx hb dX10_removesTrack_31 (by decide) (fun c_6 => ?_) (fun c_6 => ?_)
            · exact absurd c_6 (nI_pos (by omega))
            · skip
              have c_6d := Int32.not_lt.mp c_6
              refine lv_aload_n hx hb dX10_removesTrack_34 rfl (lv_at hl 2 rfl) ?_
              refine lv_iload_n hx hb dX10_removesTrack_35 rfl (lv_at hl 0 rfl) ?_
              refine lv_iconst (v := 1) hx hb dX10_removesTrack_36 (by decide) ?_
              refine sp_call (W.runV (As := [.int (nI d9), .int (1)]) (rest := []) ⟨hx, hb, hml, hown, hts⟩ (c_X10_p l D am cy ((m_rm (mQ_tr x) n (sp_st μ 0 4 (m_count (μ 1) n x)) i).2) d9 (by omega) 1 (by omega)) (cwV 2 hts gX10_removesTrack_X10_p rfl rfl rfl (by decide +kernel) ⟨Nat.le_of_ble_eq_true rfl, Nat.le_of_ble_eq_true rfl⟩) (sp_preV hK hP (κ := 0) (by decide) mE_0 rfl) rfl rfl hl.1 rfl (lv_room (Nat.le_of_ble_eq_true rfl)) dX10_removesTrack_37 ⟨Nat.le_of_ble_eq_true rfl, Nat.le_of_ble_eq_true rfl⟩) ?_
              refine W.eq (g2 := F0 m 40 ls [.int (gP (((m_rm (mQ_tr x) n (sp_st μ 0 4 (m_count (μ 1) n x)) i).2) 1) d9 1)]) rfl ?_
              refine lv_iload_n hx hb dX10_removesTrack_40 rfl (lv_at hl 3 rfl) ?_
              refine lv_icmp_ne (tgt := 49) hx hb dX10_removesTrack_41 (by decide) (fun c_7 => ?_) (fun c_7 => ?_)
              · skip
                refine lv_iinc (v := (nI d9) + (-1)) (lv' := [(3, .int ((nI d9) + (-1))), (2, .int (nI k)), (0, .ref (am (0))), (1, .int (x))]) hx hb dX10_removesTrack_49 hl (k := 0) rfl rfl (by decide) rfl (fun ls hl => ?_)
                refine lv_goto (tgt := 30) hx hb dX10_removesTrack_52 (by decide) ?_
                have hE8 : nI d9 + (-1) = posI (dnx n (i + 1)) := dnx_next hdn
                rw [hE8] at hl
                exact ih (i + 1)  _ _ (by omega) (by omega) (m_rm_MS hi_0 hi_1 hb_i) (m_rm_le hi_1 hb_i) ((show mW am cy ((m_rm (mQ_tr x) n (sp_st μ 0 4 (m_count (μ 1) n x)) i).2) = mW am cy ((m_rm (mQ_tr x) n (sp_st μ 0 4 (m_count (μ 1) n x)) (i + 1)).2) from (by first | exact mW_eq (m_rm_y hj9 (by simp [mQ_tr, mQ_row, b2i, m_by, q_1, c_3, c_3d, c_6, c_6d, c_7])) | exact mW_eq (m_rm_n hj9 (by simp [mQ_tr, mQ_row, b2i, m_by, q_1, c_3, c_3d, c_6, c_6d, c_7])))) ▸ hP) hS ls (lv_sub hl [0, 1, 2, 3] rfl)
              · skip
                refine lv_aload_n hx hb dX10_removesTrack_44 rfl (lv_at hl 2 rfl) ?_
                refine lv_iload_n hx hb dX10_removesTrack_45 rfl (lv_at hl 0 rfl) ?_
                refine sp_callm (va_runV (As := [.int (nI d9)]) (rest := []) ⟨hx, hb, hml, hown, hts⟩ (c_X10_goes l D am cy ((m_rm (mQ_tr x) n (sp_st μ 0 4 (m_count (μ 1) n x)) i).2) _ hi ((m_rm (mQ_tr x) n (sp_st μ 0 4 (m_count (μ 1) n x)) i).1) t (by first | exact hM | exact hi_0 | (repeat first | exact hM | exact hi_0 | refine MS.st0 ?_ | refine MS.st ?_ (by omega))) d9 (by omega)) (cwV 1 hts gX10_removesTrack_X10_goes rfl rfl rfl (by decide +kernel) ⟨Nat.le_of_ble_eq_true rfl, Nat.le_of_ble_eq_true rfl⟩) (sp_preVm hK hP (κ := 0) (by decide) mE_0 rfl) rfl rfl hl.1 rfl (lv_room (Nat.le_of_ble_eq_true rfl)) dX10_removesTrack_46 ⟨Nat.le_of_ble_eq_true rfl, Nat.le_of_ble_eq_true rfl⟩) hS (fun q h1 h2 => sp_Alt h1 h2) (sp_Ale hS.1) (fun H locs hP hle hfr hS => ?_)
                refine W.eq (g2 := F0 m 49 ls []) rfl ?_
                refine lv_iinc (v := (nI d9) + (-1)) (lv' := [(3, .int ((nI d9) + (-1))), (2, .int (nI k)), (0, .ref (am (0))), (1, .int (x))]) hx hb dX10_removesTrack_49 hl (k := 0) rfl rfl (by decide) rfl (fun ls hl => ?_)
                refine lv_goto (tgt := 30) hx hb dX10_removesTrack_52 (by decide) ?_
                have hE8 : nI d9 + (-1) = posI (dnx n (i + 1)) := dnx_next hdn
                rw [hE8] at hl
                exact ih (i + 1)  _ _ (by omega) (by omega) (m_rm_MS hi_0 hi_1 hb_i) (m_rm_le hi_1 hb_i) ((show mW am cy (m_goes ((m_rm (mQ_tr x) n (sp_st μ 0 4 (m_count (μ 1) n x)) i).2) ((m_rm (mQ_tr x) n (sp_st μ 0 4 (m_count (μ 1) n x)) i).1) d9) = mW am cy ((m_rm (mQ_tr x) n (sp_st μ 0 4 (m_count (μ 1) n x)) (i + 1)).2) from (by first | exact mW_eq (m_rm_y hj9 (by simp [mQ_tr, mQ_row, b2i, m_by, q_1, c_3, c_3d, c_6, c_6d, c_7])) | exact mW_eq (m_rm_n hj9 (by simp [mQ_tr, mQ_row, b2i, m_by, q_1, c_3, c_3d, c_6, c_6d, c_7])))) ▸ hP) hS ls (lv_sub hl [0, 1, 2, 3] rfl)
      exact loop_30 (n + 1) (0)  _ _ (by omega) (by omega) (show MS ((sp_st μ 0 4 (m_count (μ 1) n x)) 1) n t from hM.st0) (Nat.le_refl _) ((show mW am cy (sp_st μ 0 4 (m_count (μ 1) n x)) = mW am cy ((m_rm (mQ_tr x) n (sp_st μ 0 4 (m_count (μ 1) n x)) 0).2) from (by rfl)) ▸ hP) hS ls (lv_sub hl [0, 1, 2, 3] rfl)
    · exact absurd (Int32.not_lt.mp (nI_pos (by omega))) c_3

theorem wi_X10_setsTide_X10 : ∀ w ∈ wsX100, w ∈ wsX10_setsTide := by decide +kernel
set_option maxHeartbeats 4000000 in
set_option maxRecDepth 100000 in
theorem c_X10_setsTide (l : Launch) (D : va_G) (am : Nat → Nat) (cy : Nat → ClassId) (μ : Nat → Nat → Int32) (sz : Nat) (hi : sp_inj am 5) (n : Nat) (t : Nat) (hM : MS (μ 1) n t) (v : Int32) : Met l yX10_setsTide wsX10_setsTide ({ frames := 2, cells := 0, slots := 0, locals := 46 } : Room) (sp_Pm D (tyG cy) sz [.ref (am (0)), .int (v)] (mW am cy μ)) (sp_Q D (some (.int (m_tidev (μ 1) v))) (mW am cy (m_tide μ n v)) (sp_A am 5 sz)) 0 0 (sp_A am 5 sz) := by
  refine Met.ofW (cc := cX10_setsTide) (maxL := 3) (ret := (some .int)) (by decide) rfl ?_
  intro p e s m args below meth c s₁ B hml hv
  obtain ⟨rfl, hsz, hP, hK⟩ := hv
  have hx := B.exec
  have hb := B.bytes
  have hr := B.returns
  have hts := atoms_spec (ws := wsX10_setsTide) B.pre
  have hown : s.vm.findClass RX10 = some m.cls := findClass_of_methodNamed B.named
  have hlocks := B.notSynchronized
  subst hsz
  have hS : va_S (sp_A am 5 s.heap.size) s.heap s.heap [] := va_S.rf
  have hAk : ∀ k, k < 5 → (sp_A am 5 s.heap.size) (am k) := fun k hk => Or.inl ⟨k, hk, rfl⟩
  skip
  have hn30 := hM.2.1
  have ht6 := hM.2.2.2
  have hl := lv_entry ([.ref (am (0)), .int (v)]) (n := 3) (Nat.le_of_ble_eq_true rfl)
  refine W.eq (lg_entry_eq _ ([.ref (am (0)), .int (v)]) _) ?_
  generalize (lg_sl ([.ref (am (0)), .int (v)]) ++ List.replicate (3 - (lg_sl ([.ref (am (0)), .int (v)])).length) Slot.unset).toArray = ls at hl ⊢
  have hl : lv_has ls 3 [(0, .ref (am (0))), (1, .int (v))] := hl
  refine lv_iload_n hx hb dX10_setsTide_0 rfl (lv_at hl 1 rfl) ?_
  refine lv_iconst (v := 0) hx hb dX10_setsTide_1 (by decide) ?_
  refine lv_bipush (v := 8) hx hb dX10_setsTide_2 (by decide) ?_
  refine sp_call (W.runS (As := [.int (v), .int (0), .int (8)]) (rest := []) ⟨hx, hb, hml, hown, hts⟩ (c_X10_in l D am cy μ v 0 8) (va_cwS 3 hts gX10_setsTide_X10_in rfl rfl rfl (by decide +kernel) ⟨Nat.le_of_ble_eq_true rfl, Nat.le_of_ble_eq_true rfl⟩) (sp_preS hK hP) rfl rfl hl.1 rfl (lv_room (Nat.le_of_ble_eq_true rfl)) dX10_setsTide_4 ⟨Nat.le_of_ble_eq_true rfl, Nat.le_of_ble_eq_true rfl⟩) ?_
  refine W.eq (g2 := F0 m 7 ls [.int (b2i (m_in v 0 8))]) rfl ?_
  refine lv_if_ne (tgt := 12) hx hb dX10_setsTide_7 (by decide) (fun c_1 => ?_) (fun c_1 => ?_)
  · rw [b2i_eq0] at c_1
    refine lv_aload_n hx hb dX10_setsTide_12 rfl (lv_at hl 0 rfl) ?_
    refine lv_aload_n hx hb dX10_setsTide_13 rfl (lv_at hl 0 rfl) ?_
    refine sp_get hx hb hts wi_X10_setsTide_X10 hown hK hP (κ := 0) (by decide) mE_0 rfl 1 (by decide) (hts _ (List.mem_of_getElem? (i := 1) rfl)) (fun _ h => h) rfl dX10_setsTide_14 ?_
    refine lv_iconst (v := 4) hx hb dX10_setsTide_17 (by decide) ?_
    refine sp_iald hx hb hK hP (κ := 1) (by decide) 1 mE_1 rfl 4 rfl (by omega) (by decide) dX10_setsTide_18 ?_
    refine lv_iload_n hx hb dX10_setsTide_19 rfl (lv_at hl 1 rfl) ?_
    refine lv_icmp_ne (tgt := 27) hx hb dX10_setsTide_20 (by decide) (fun c_2 => ?_) (fun c_2 => ?_)
    · skip
      refine lv_iconst (v := 0) hx hb dX10_setsTide_27 (by decide) ?_
      refine lv_bipush (v := 9) hx hb dX10_setsTide_28 (by decide) ?_
      refine lv_iload_n hx hb dX10_setsTide_30 rfl (lv_at hl 1 rfl) ?_
      refine sp_callm (va_runV (As := [.int (0), .int (9), .int (v)]) (rest := []) ⟨hx, hb, hml, hown, hts⟩ (c_X10_rejects_0 l D am cy μ _ hi 9 v) (cwV 3 hts gX10_setsTide_X10_rejects rfl rfl rfl (by decide +kernel) ⟨Nat.le_of_ble_eq_true rfl, Nat.le_of_ble_eq_true rfl⟩) (sp_preVm hK hP (κ := 0) (by decide) mE_0 rfl) rfl rfl hl.1 rfl (lv_room (Nat.le_of_ble_eq_true rfl)) dX10_setsTide_31 ⟨Nat.le_of_ble_eq_true rfl, Nat.le_of_ble_eq_true rfl⟩) hS (fun q h1 h2 => sp_Alt h1 h2) (sp_Ale hS.1) (fun H locs hP hle hfr hS => ?_)
      refine W.eq (g2 := F0 m 34 ls [.int (0)]) rfl ?_
      refine lv_if_eq (tgt := 39) hx hb dX10_setsTide_34 (by decide) (fun c_3 => ?_) (fun c_3 => ?_)
      · skip
        refine lv_aload_n hx hb dX10_setsTide_39 rfl (lv_at hl 0 rfl) ?_
        refine lv_aload_n hx hb dX10_setsTide_40 rfl (lv_at hl 0 rfl) ?_
        refine lv_iload_n hx hb dX10_setsTide_41 rfl (lv_at hl 1 rfl) ?_
        refine sp_call (W.runV (As := [.int (v)]) (rest := [.ref (am (0))]) ⟨hx, hb, hml, hown, hts⟩ (c_X10_belowRow l D am cy μ n t (by first | exact hM | exact hi_0 | (repeat first | exact hM | exact hi_0 | refine MS.st0 ?_ | refine MS.st ?_ (by omega))) v) (cwV 1 hts gX10_setsTide_X10_belowRow rfl rfl rfl (by decide +kernel) ⟨Nat.le_of_ble_eq_true rfl, Nat.le_of_ble_eq_true rfl⟩) (sp_preV hK hP (κ := 0) (by decide) mE_0 rfl) rfl rfl hl.1 rfl (lv_room (Nat.le_of_ble_eq_true rfl)) dX10_setsTide_42 ⟨Nat.le_of_ble_eq_true rfl, Nat.le_of_ble_eq_true rfl⟩) ?_
        refine W.eq (g2 := F0 m 45 ls [.int (m_below (μ 1) n v), .ref (am (0))]) rfl ?_
        refine sp_put hx hb hts wi_X10_setsTide_X10 tyX10 tyX10_ok nmX10 hown hK hP hi hAk hS (κ := 0) (by decide) mE_0 rfl 4 (by decide) (hts _ (List.mem_of_getElem? (i := 2) rfl)) (fun _ h => h) rfl (ty := tyX10 4) (by decide +kernel) ⟨rfl, rfl⟩ (Nat.le_of_ble_eq_true rfl) (r1 := upd (μ 0) 4 (m_below (μ 1) n v)) (cE_of mE_0 (by simp [upd])) dX10_setsTide_45 (fun H locs hP hS => ?_)
        have hP : va_P D vwCl (mW am cy (sp_st μ 0 4 (m_below (μ 1) n v))) H := hP
        refine lv_aload_n hx hb dX10_setsTide_48 rfl (lv_at hl 0 rfl) ?_
        refine sp_get hx hb hts wi_X10_setsTide_X10 hown hK hP (κ := 0) (by decide) mE_0 rfl 1 (by decide) (hts _ (List.mem_of_getElem? (i := 1) rfl)) (fun _ h => h) rfl dX10_setsTide_49 ?_
        refine lv_iconst (v := 1) hx hb dX10_setsTide_52 (by decide) ?_
        refine sp_iald hx hb hK hP (κ := 1) (by decide) 1 mE_1 rfl 1 rfl (by omega) (by decide) dX10_setsTide_53 ?_
        refine W.eq (g2 := F0 m 54 ls [.int (μ 1 1)]) (by rw [sp_st_k _ _ _ _ _ _ (by decide)]) ?_
        refine W.eq (g2 := F0 m 54 ls [.int (nI n)]) (by rw [hM.1]) ?_
        refine lv_iconst (v := 1) hx hb dX10_setsTide_54 (by decide) ?_
        refine lv_isub hx hb dX10_setsTide_55 ?_
        refine lv_istore_n (lv' := [(2, .int ((nI n) - 1)), (0, .ref (am (0))), (1, .int (v))]) hx hb dX10_setsTide_56 rfl hl (by decide) rfl (fun ls hl => ?_)
        have hE7 : nI n - 1 = posI (dnx n 0) := dnx_0 _
        rw [hE7] at hl
        have loop_57 : ∀ (fu i : Nat) (H : Heap) (locs : List Loc), (i ≤ n) → (n - i < fu) → (MS ((m_rm (mQ_row v) n (sp_st μ 0 4 (m_below (μ 1) n v)) i).2 1) (m_rm (mQ_row v) n (sp_st μ 0 4 (m_below (μ 1) n v)) i).1 t) → (n - i ≤ (m_rm (mQ_row v) n (sp_st μ 0 4 (m_below (μ 1) n v)) i).1) → (va_P D vwCl (mW am cy ((m_rm (mQ_row v) n (sp_st μ 0 4 (m_below (μ 1) n v)) i).2)) H) → (va_S (sp_A am 5 s.heap.size) s.heap H locs) → ∀ ls : Array Slot, lv_has ls 3 [(2, .int (posI (dnx n i))), (0, .ref (am (0))), (1, .int (v))] → W p l e (headSpec wsX10_setsTide ({ frames := 2, cells := 0, slots := 0, locals := 46 } : Room)).room s m ([.ref (am (0)), .int (v)] : List Value).toArray below meth c H locs 0 0 (MQ below (sp_Q D (some (.int (m_tidev (μ 1) v))) (mW am cy (m_tide μ n v)) (sp_A am 5 s.heap.size)) ([.ref (am (0)), .int (v)] : List Value).toArray s 0 0 (sp_A am 5 s.heap.size)) (F0 m 57 ls []) := by
          intro fu
          induction fu with
          | zero => intro i H locs hle hlt hi_0 hi_1 hP hS ls hl; exact absurd hlt (Nat.not_lt_zero _)
          | succ fu ih =>
            intro i H locs hle hlt hi_0 hi_1 hP hS ls hl
            rcases hdn : dnx n i with _ | d9
            · have hl : lv_has ls 3 [(2, .int ((-1))), (0, .ref (am (0))), (1, .int (v))] := by rw [hdn] at hl; exact hl
              have hx_i : i = n := dnx_none hdn hle
              refine lv_iload_n hx hb dX10_setsTide_57 rfl (lv_at hl 0 rfl) ?_
              refine lv_if_lt (tgt := 82) hx hb dX10_setsTide_58 (by decide) (fun c_4 => ?_) (fun c_4 => ?_)
              · skip
                rw [hx_i] at hP
                refine lv_aload_n hx hb dX10_setsTide_82 rfl (lv_at hl 1 rfl) ?_
                refine sp_get hx hb hts wi_X10_setsTide_X10 hown hK hP (κ := 0) (by decide) mE_0 rfl 1 (by decide) (hts _ (List.mem_of_getElem? (i := 1) rfl)) (fun _ h => h) rfl dX10_setsTide_83 ?_
                refine lv_iconst (v := 4) hx hb dX10_setsTide_86 (by decide) ?_
                refine lv_iload_n hx hb dX10_setsTide_87 rfl (lv_at hl 2 rfl) ?_
                refine sp_iast hx hb hK hP hi hAk hS (κ := 1) (by decide) 1 mE_1 rfl 4 rfl (by omega) (by decide) (r1 := upd (((m_rm (mQ_row v) n (sp_st μ 0 4 (m_below (μ 1) n v)) n).2) 1) 4 v) mE_1 dX10_setsTide_88 (fun H locs hP hS => ?_)
                have hP : va_P D vwCl (mW am cy (sp_st ((m_rm (mQ_row v) n (sp_st μ 0 4 (m_below (μ 1) n v)) n).2) 1 4 v)) H := hP
                refine lv_aload_n hx hb dX10_setsTide_89 rfl (lv_at hl 1 rfl) ?_
                refine sp_get hx hb hts wi_X10_setsTide_X10 hown hK hP (κ := 0) (by decide) mE_0 rfl 1 (by decide) (hts _ (List.mem_of_getElem? (i := 1) rfl)) (fun _ h => h) rfl dX10_setsTide_90 ?_
                refine lv_iconst (v := 5) hx hb dX10_setsTide_93 (by decide) ?_
                refine lv_dup2_11 hx hb dX10_setsTide_94 rfl rfl ?_
                refine sp_iald hx hb hK hP (κ := 1) (by decide) 1 mE_1 rfl 5 rfl (by omega) (by decide) dX10_setsTide_95 ?_
                refine W.eq (g2 := F0 m 96 ls [.int ((m_rm (mQ_row v) n (sp_st μ 0 4 (m_below (μ 1) n v)) n).2 1 5), .int (5), .ref (am (1))]) (by rw [sp_st_j _ _ _ _ _ _ (by decide)]) ?_
                refine W.eq (g2 := F0 m 96 ls [.int (μ 1 5), .int (5), .ref (am (1))]) (by rw [m_rm_15 _]) ?_
                refine lv_aload_n hx hb dX10_setsTide_96 rfl (lv_at hl 1 rfl) ?_
                refine sp_get hx hb hts wi_X10_setsTide_X10 hown hK hP (κ := 0) (by decide) mE_0 rfl 4 (by decide) (hts _ (List.mem_of_getElem? (i := 2) rfl)) (fun _ h => h) rfl dX10_setsTide_97 ?_
                refine W.eq (g2 := F0 m 100 ls [.int ((m_rm (mQ_row v) n (sp_st μ 0 4 (m_below (μ 1) n v)) n).2 0 4), .int (μ 1 5), .int (5), .ref (am (1))]) (by rw [sp_st_k _ _ _ _ _ _ (by omega)]) ?_
                refine W.eq (g2 := F0 m 100 ls [.int (m_below (μ 1) n v), .int (μ 1 5), .int (5), .ref (am (1))]) (by rw [m_rm_04 _]) ?_
                refine lv_iadd hx hb dX10_setsTide_100 ?_
                refine sp_iast hx hb hK hP hi hAk hS (κ := 1) (by decide) 1 mE_1 rfl 5 rfl (by omega) (by decide) (r1 := upd ((sp_st ((m_rm (mQ_row v) n (sp_st μ 0 4 (m_below (μ 1) n v)) n).2) 1 4 v) 1) 5 ((μ 1 5) + (m_below (μ 1) n v))) mE_1 dX10_setsTide_101 (fun H locs hP hS => ?_)
                have hP : va_P D vwCl (mW am cy (sp_st (sp_st ((m_rm (mQ_row v) n (sp_st μ 0 4 (m_below (μ 1) n v)) n).2) 1 4 v) 1 5 ((μ 1 5) + (m_below (μ 1) n v)))) H := hP
                refine lv_iconst (v := 0) hx hb dX10_setsTide_102 (by decide) ?_
                have hE9 : mW am cy (sp_st (sp_st ((m_rm (mQ_row v) n (sp_st μ 0 4 (m_below (μ 1) n v)) n).2) 1 4 v) 1 5 ((μ 1 5) + (m_below (μ 1) n v))) = mW am cy (m_tide μ n v) := by exact mW_eq (by simp [m_tide, b2i, m_tidev, c_1, c_2])
                have hP : va_P D vwCl (mW am cy (m_tide μ n v)) H := by rw [← hE9]; exact hP
                exact W.iret (v := 0) hx hb hr (fun T9 hT9 _ => ⟨congrArg (fun z9 => Outcome.returned (some (Value.int z9))) (show (0 : Int32) = m_tidev (μ 1) v from (by first | rfl | (simp [m_tidev, b2i, c_1, c_2]; done))), by rw [hT9]; exact hP, hS.F hT9⟩) hS.2.2 dX10_setsTide_103
              · exact absurd c_4 (by decide)
            · have hl : lv_has ls 3 [(2, .int (nI d9)), (0, .ref (am (0))), (1, .int (v))] := by rw [hdn] at hl; exact hl
              obtain ⟨hj9, hb_i⟩ := dnx_some hdn
              refine lv_iload_n hx hb dX10_setsTide_57 rfl (lv_at hl 0 rfl) ?_
              refine lv_if_lt (tgt := 82) hx hb dX10_setsTide_58 (by decide) (fun c_5 => ?_) (fun c_5 => ?_)
              · exact absurd c_5 (nI_pos (by omega))
              · skip
                have c_5d := Int32.not_lt.mp c_5
                refine lv_aload_n hx hb dX10_setsTide_61 rfl (lv_at hl 1 rfl) ?_
                refine lv_iload_n hx hb dX10_setsTide_62 rfl (lv_at hl 0 rfl) ?_
                refine lv_iconst (v := 3) hx hb dX10_setsTide_63 (by decide) ?_
                refine sp_call (W.runV (As := [.int (nI d9), .int (3)]) (rest := []) ⟨hx, hb, hml, hown, hts⟩ (c_X10_p l D am cy ((m_rm (mQ_row v) n (sp_st μ 0 4 (m_below (μ 1) n v)) i).2) d9 (by omega) 3 (by omega)) (cwV 2 hts gX10_setsTide_X10_p rfl rfl rfl (by decide +kernel) ⟨Nat.le_of_ble_eq_true rfl, Nat.le_of_ble_eq_true rfl⟩) (sp_preV hK hP (κ := 0) (by decide) mE_0 rfl) rfl rfl hl.1 rfl (lv_room (Nat.le_of_ble_eq_true rfl)) dX10_setsTide_64 ⟨Nat.le_of_ble_eq_true rfl, Nat.le_of_ble_eq_true rfl⟩) ?_
                refine W.eq (g2 := F0 m 67 ls [.int (gP (((m_rm (mQ_row v) n (sp_st μ 0 4 (m_below (μ 1) n v)) i).2) 1) d9 3)]) rfl ?_
                refine lv_iload_n hx hb dX10_setsTide_67 rfl (lv_at hl 2 rfl) ?_
                refine lv_icmp_ge (tgt := 76) hx hb dX10_setsTide_68 (by decide) (fun c_6 => ?_) (fun c_6 => ?_)
                · skip
                  have c_6d := Int32.not_lt.mpr c_6
                  refine lv_iinc (v := (nI d9) + (-1)) (lv' := [(2, .int ((nI d9) + (-1))), (0, .ref (am (0))), (1, .int (v))]) hx hb dX10_setsTide_76 hl (k := 0) rfl rfl (by decide) rfl (fun ls hl => ?_)
                  refine lv_goto (tgt := 57) hx hb dX10_setsTide_79 (by decide) ?_
                  have hE8 : nI d9 + (-1) = posI (dnx n (i + 1)) := dnx_next hdn
                  rw [hE8] at hl
                  exact ih (i + 1)  _ _ (by omega) (by omega) (m_rm_MS hi_0 hi_1 hb_i) (m_rm_le hi_1 hb_i) ((show mW am cy ((m_rm (mQ_row v) n (sp_st μ 0 4 (m_below (μ 1) n v)) i).2) = mW am cy ((m_rm (mQ_row v) n (sp_st μ 0 4 (m_below (μ 1) n v)) (i + 1)).2) from (by first | exact mW_eq (m_rm_y hj9 (by simp [mQ_tr, mQ_row, b2i, m_tidev, c_1, c_2, c_5, c_5d, c_6, c_6d])) | exact mW_eq (m_rm_n hj9 (by simp [mQ_tr, mQ_row, b2i, m_tidev, c_1, c_2, c_5, c_5d, c_6, c_6d])))) ▸ hP) hS ls (lv_sub hl [0, 1, 2] rfl)
                · skip
                  have c_6d := Int32.not_le.mp c_6
                  refine lv_aload_n hx hb dX10_setsTide_71 rfl (lv_at hl 1 rfl) ?_
                  refine lv_iload_n hx hb dX10_setsTide_72 rfl (lv_at hl 0 rfl) ?_
                  refine sp_callm (va_runV (As := [.int (nI d9)]) (rest := []) ⟨hx, hb, hml, hown, hts⟩ (c_X10_goes l D am cy ((m_rm (mQ_row v) n (sp_st μ 0 4 (m_below (μ 1) n v)) i).2) _ hi ((m_rm (mQ_row v) n (sp_st μ 0 4 (m_below (μ 1) n v)) i).1) t (by first | exact hM | exact hi_0 | (repeat first | exact hM | exact hi_0 | refine MS.st0 ?_ | refine MS.st ?_ (by omega))) d9 (by omega)) (cwV 1 hts gX10_setsTide_X10_goes rfl rfl rfl (by decide +kernel) ⟨Nat.le_of_ble_eq_true rfl, Nat.le_of_ble_eq_true rfl⟩) (sp_preVm hK hP (κ := 0) (by decide) mE_0 rfl) rfl rfl hl.1 rfl (lv_room (Nat.le_of_ble_eq_true rfl)) dX10_setsTide_73 ⟨Nat.le_of_ble_eq_true rfl, Nat.le_of_ble_eq_true rfl⟩) hS (fun q h1 h2 => sp_Alt h1 h2) (sp_Ale hS.1) (fun H locs hP hle hfr hS => ?_)
                  refine W.eq (g2 := F0 m 76 ls []) rfl ?_
                  refine lv_iinc (v := (nI d9) + (-1)) (lv' := [(2, .int ((nI d9) + (-1))), (0, .ref (am (0))), (1, .int (v))]) hx hb dX10_setsTide_76 hl (k := 0) rfl rfl (by decide) rfl (fun ls hl => ?_)
                  refine lv_goto (tgt := 57) hx hb dX10_setsTide_79 (by decide) ?_
                  have hE8 : nI d9 + (-1) = posI (dnx n (i + 1)) := dnx_next hdn
                  rw [hE8] at hl
                  exact ih (i + 1)  _ _ (by omega) (by omega) (m_rm_MS hi_0 hi_1 hb_i) (m_rm_le hi_1 hb_i) ((show mW am cy (m_goes ((m_rm (mQ_row v) n (sp_st μ 0 4 (m_below (μ 1) n v)) i).2) ((m_rm (mQ_row v) n (sp_st μ 0 4 (m_below (μ 1) n v)) i).1) d9) = mW am cy ((m_rm (mQ_row v) n (sp_st μ 0 4 (m_below (μ 1) n v)) (i + 1)).2) from (by first | exact mW_eq (m_rm_y hj9 (by simp [mQ_tr, mQ_row, b2i, m_tidev, c_1, c_2, c_5, c_5d, c_6, c_6d])) | exact mW_eq (m_rm_n hj9 (by simp [mQ_tr, mQ_row, b2i, m_tidev, c_1, c_2, c_5, c_5d, c_6, c_6d])))) ▸ hP) hS ls (lv_sub hl [0, 1, 2] rfl)
        exact loop_57 (n + 1) (0)  _ _ (by omega) (by omega) (show MS ((sp_st μ 0 4 (m_below (μ 1) n v)) 1) n t from hM.st0) (Nat.le_refl _) ((show mW am cy (sp_st μ 0 4 (m_below (μ 1) n v)) = mW am cy ((m_rm (mQ_row v) n (sp_st μ 0 4 (m_below (μ 1) n v)) 0).2) from (by rfl)) ▸ hP) hS ls (lv_sub hl [0, 1, 2] rfl)
      · exact absurd c_3 (by decide)
    · skip
      refine lv_iconst (v := 1) hx hb dX10_setsTide_23 (by decide) ?_
      refine lv_goto (tgt := 28) hx hb dX10_setsTide_24 (by decide) ?_
      refine lv_bipush (v := 9) hx hb dX10_setsTide_28 (by decide) ?_
      refine lv_iload_n hx hb dX10_setsTide_30 rfl (lv_at hl 1 rfl) ?_
      refine sp_callm (va_runV (As := [.int (1), .int (9), .int (v)]) (rest := []) ⟨hx, hb, hml, hown, hts⟩ (c_X10_rejects_1 l D am cy μ _ hi 9 v) (cwV 3 hts gX10_setsTide_X10_rejects rfl rfl rfl (by decide +kernel) ⟨Nat.le_of_ble_eq_true rfl, Nat.le_of_ble_eq_true rfl⟩) (sp_preVm hK hP (κ := 0) (by decide) mE_0 rfl) rfl rfl hl.1 rfl (lv_room (Nat.le_of_ble_eq_true rfl)) dX10_setsTide_31 ⟨Nat.le_of_ble_eq_true rfl, Nat.le_of_ble_eq_true rfl⟩) hS (fun q h1 h2 => sp_Alt h1 h2) (sp_Ale hS.1) (fun H locs hP hle hfr hS => ?_)
      refine W.eq (g2 := F0 m 34 ls [.int (1)]) rfl ?_
      refine lv_if_eq (tgt := 39) hx hb dX10_setsTide_34 (by decide) (fun c_7 => ?_) (fun c_7 => ?_)
      · exact absurd c_7 (by decide)
      · skip
        refine lv_iconst (v := 3) hx hb dX10_setsTide_37 (by decide) ?_
        have hE9 : mW am cy (m_rej μ 9 v) = mW am cy (m_tide μ n v) := by exact mW_eq (by simp [m_tide, b2i, m_tidev, c_1, c_2])
        have hP : va_P D vwCl (mW am cy (m_tide μ n v)) H := by rw [← hE9]; exact hP
        exact W.iret (v := 3) hx hb hr (fun T9 hT9 _ => ⟨congrArg (fun z9 => Outcome.returned (some (Value.int z9))) (show (3 : Int32) = m_tidev (μ 1) v from (by first | rfl | (simp [m_tidev, b2i, c_1, c_2]; done))), by rw [hT9]; exact hP, hS.F hT9⟩) hS.2.2 dX10_setsTide_38
  · rw [b2i_eq0] at c_1
    refine lv_iconst (v := 2) hx hb dX10_setsTide_10 (by decide) ?_
    have hE9 : mW am cy (μ) = mW am cy (m_tide μ n v) := by exact mW_eq (by simp [m_tide, b2i, m_tidev, c_1])
    have hP : va_P D vwCl (mW am cy (m_tide μ n v)) s.heap := by rw [← hE9]; exact hP
    exact W.iret (v := 2) hx hb hr (fun T9 hT9 _ => ⟨congrArg (fun z9 => Outcome.returned (some (Value.int z9))) (show (2 : Int32) = m_tidev (μ 1) v from (by first | rfl | (simp [m_tidev, b2i, c_1]; done))), by rw [hT9]; exact hP, hS.F hT9⟩) hS.2.2 dX10_setsTide_11

theorem wi_X10_ends_X10 : ∀ w ∈ wsX100, w ∈ wsX10_ends := by decide +kernel
set_option maxHeartbeats 40000000 in
set_option maxRecDepth 100000 in
theorem c_X10_ends (l : Launch) (D : va_G) (am : Nat → Nat) (cy : Nat → ClassId) (μ : Nat → Nat → Int32) (sz : Nat) (hi : sp_inj am 5) (z : Int32) (p1 : Int32) (p2 : Int32) (p3 : Int32) (ch : Nat) (hC : μ 0 2 = nI ch) (hc8 : ch ≤ 8) : Met l yX10_ends wsX10_ends ({ frames := 1, cells := 0, slots := 0, locals := 23 } : Room) (sp_Pm D (tyG cy) sz [.ref (am (0)), .int (z), .int (p1), .int (p2), .int (p3)] (mW am cy μ)) (sp_Q D (some (.int (m_endr μ z p1 p2 p3))) (mW am cy (m_ends μ ch z p1 p2 p3)) (sp_A am 5 sz)) 0 0 (sp_A am 5 sz) := by
  refine Met.ofW (cc := cX10_ends) (maxL := 6) (ret := (some .int)) (by decide) rfl ?_
  intro p e s m args below meth c s₁ B hml hv
  obtain ⟨rfl, hsz, hP, hK⟩ := hv
  have hx := B.exec
  have hb := B.bytes
  have hr := B.returns
  have hts := atoms_spec (ws := wsX10_ends) B.pre
  have hown : s.vm.findClass RX10 = some m.cls := findClass_of_methodNamed B.named
  have hlocks := B.notSynchronized
  subst hsz
  have hS : va_S (sp_A am 5 s.heap.size) s.heap s.heap [] := va_S.rf
  have hAk : ∀ k, k < 5 → (sp_A am 5 s.heap.size) (am k) := fun k hk => Or.inl ⟨k, hk, rfl⟩
  skip
  have hl := lv_entry ([.ref (am (0)), .int (z), .int (p1), .int (p2), .int (p3)]) (n := 6) (Nat.le_of_ble_eq_true rfl)
  refine W.eq (lg_entry_eq _ ([.ref (am (0)), .int (z), .int (p1), .int (p2), .int (p3)]) _) ?_
  generalize (lg_sl ([.ref (am (0)), .int (z), .int (p1), .int (p2), .int (p3)]) ++ List.replicate (6 - (lg_sl ([.ref (am (0)), .int (z), .int (p1), .int (p2), .int (p3)])).length) Slot.unset).toArray = ls at hl ⊢
  have hl : lv_has ls 6 [(0, .ref (am (0))), (1, .int (z)), (2, .int (p1)), (3, .int (p2)), (4, .int (p3))] := hl
  refine lv_aload_n hx hb dX10_ends_0 rfl (lv_at hl 0 rfl) ?_
  refine lv_iload_n hx hb dX10_ends_1 rfl (lv_at hl 1 rfl) ?_
  refine lv_iconst (v := 1) hx hb dX10_ends_2 (by decide) ?_
  refine lv_icmp_ne (tgt := 10) hx hb dX10_ends_3 (by decide) (fun c_1 => ?_) (fun c_1 => ?_)
  · skip
    refine lv_iload_n hx hb dX10_ends_10 rfl (lv_at hl 1 rfl) ?_
    refine lv_iconst (v := 2) hx hb dX10_ends_11 (by decide) ?_
    refine lv_icmp_ne (tgt := 19) hx hb dX10_ends_12 (by decide) (fun c_2 => ?_) (fun c_2 => ?_)
    · skip
      refine lv_iload_n hx hb dX10_ends_19 rfl (lv_at hl 1 rfl) ?_
      refine lv_iconst (v := 3) hx hb dX10_ends_20 (by decide) ?_
      refine lv_icmp_ne (tgt := 29) hx hb dX10_ends_21 (by decide) (fun c_3 => ?_) (fun c_3 => ?_)
      · skip
        refine lv_iconst (v := 0) hx hb dX10_ends_29 (by decide) ?_
        refine sp_put hx hb hts wi_X10_ends_X10 tyX10 tyX10_ok nmX10 hown hK hP hi hAk hS (κ := 0) (by decide) mE_0 rfl 0 (by decide) (hts _ (List.mem_of_getElem? (i := 1) rfl)) (fun _ h => h) rfl (ty := tyX10 0) (by decide +kernel) ⟨rfl, rfl⟩ (Nat.le_of_ble_eq_true rfl) (r1 := upd (μ 0) 0 0) (cE_of mE_0 (by simp [upd])) dX10_ends_30 (fun H locs hP hS => ?_)
        have hP : va_P D vwCl (mW am cy (sp_st μ 0 0 0)) H := hP
        refine lv_aload_n hx hb dX10_ends_33 rfl (lv_at hl 0 rfl) ?_
        refine sp_get hx hb hts wi_X10_ends_X10 hown hK hP (κ := 0) (by decide) mE_0 rfl 0 (by decide) (hts _ (List.mem_of_getElem? (i := 1) rfl)) (fun _ h => h) rfl dX10_ends_34 ?_
        refine W.eq (g2 := F0 m 37 ls [.int (0)]) (by rw [sp_st_s]) ?_
        refine lv_if_eq (tgt := 49) hx hb dX10_ends_37 (by decide) (fun c_4 => ?_) (fun c_4 => ?_)
        · skip
          refine lv_aload_n hx hb dX10_ends_49 rfl (lv_at hl 0 rfl) ?_
          refine sp_get hx hb hts wi_X10_ends_X10 hown hK hP (κ := 0) (by decide) mE_0 rfl 2 (by decide) (hts _ (List.mem_of_getElem? (i := 2) rfl)) (fun _ h => h) rfl dX10_ends_50 ?_
          refine W.eq (g2 := F0 m 53 ls [.int (μ 0 2)]) (by rw [sp_st_j _ _ _ _ _ _ (by decide)]) ?_
          refine W.eq (g2 := F0 m 53 ls [.int (nI ch)]) (by rw [hC]) ?_
          refine lv_bipush (v := 8) hx hb dX10_ends_53 (by decide) ?_
          refine lv_icmp_ne (tgt := 94) hx hb dX10_ends_55 (by decide) (fun c_5 => ?_) (fun c_5 => ?_)
          · skip
            have hc9 : ch < 8 := nI_lt8 c_5 hc8
            refine lv_aload_n hx hb dX10_ends_94 rfl (lv_at hl 0 rfl) ?_
            refine lv_dup hx hb dX10_ends_95 rfl ?_
            refine sp_get hx hb hts wi_X10_ends_X10 hown hK hP (κ := 0) (by decide) mE_0 rfl 2 (by decide) (hts _ (List.mem_of_getElem? (i := 2) rfl)) (fun _ h => h) rfl dX10_ends_96 ?_
            refine W.eq (g2 := F0 m 99 ls [.int (μ 0 2), .ref (am (0))]) (by rw [sp_st_j _ _ _ _ _ _ (by decide)]) ?_
            refine W.eq (g2 := F0 m 99 ls [.int (nI ch), .ref (am (0))]) (by rw [hC]) ?_
            refine lv_iconst (v := 1) hx hb dX10_ends_99 (by decide) ?_
            refine lv_iadd hx hb dX10_ends_100 ?_
            refine sp_put hx hb hts wi_X10_ends_X10 tyX10 tyX10_ok nmX10 hown hK hP hi hAk hS (κ := 0) (by decide) mE_0 rfl 2 (by decide) (hts _ (List.mem_of_getElem? (i := 2) rfl)) (fun _ h => h) rfl (ty := tyX10 2) (by decide +kernel) ⟨rfl, rfl⟩ (Nat.le_of_ble_eq_true rfl) (r1 := upd ((sp_st μ 0 0 0) 0) 2 ((nI ch) + 1)) (cE_of mE_0 (by simp [upd])) dX10_ends_101 (fun H locs hP hS => ?_)
            have hP : va_P D vwCl (mW am cy (sp_st (sp_st μ 0 0 0) 0 2 ((nI ch) + 1))) H := hP
            refine lv_aload_n hx hb dX10_ends_104 rfl (lv_at hl 0 rfl) ?_
            refine lv_bipush (v := 10) hx hb dX10_ends_105 (by decide) ?_
            refine lv_aload_n hx hb dX10_ends_107 rfl (lv_at hl 0 rfl) ?_
            refine sp_get hx hb hts wi_X10_ends_X10 hown hK hP (κ := 0) (by decide) mE_0 rfl 2 (by decide) (hts _ (List.mem_of_getElem? (i := 2) rfl)) (fun _ h => h) rfl dX10_ends_108 ?_
            refine W.eq (g2 := F0 m 111 ls [.int ((nI ch) + 1), .int (10), .ref (am (0))]) (by rw [sp_st_s]) ?_
            refine W.eq (g2 := F0 m 111 ls [.int (nI (ch + 1)), .int (10), .ref (am (0))]) (by rw [show ((nI ch) + 1 : Int32) = nI (ch + 1) from (nI_addE rfl rfl)]) ?_
            refine sp_callm (va_runV (As := [.int (10), .int (nI (ch + 1))]) (rest := []) ⟨hx, hb, hml, hown, hts⟩ (c_X10_copies l D am cy (sp_st (sp_st μ 0 0 0) 0 2 ((nI ch) + 1)) _ hi 10 (by omega) (ch + 1) (by omega) (by omega)) (cwV 2 hts gX10_ends_X10_copies rfl rfl rfl (by decide +kernel) ⟨Nat.le_of_ble_eq_true rfl, Nat.le_of_ble_eq_true rfl⟩) (sp_preVm hK hP (κ := 0) (by decide) mE_0 rfl) rfl rfl hl.1 rfl (lv_room (Nat.le_of_ble_eq_true rfl)) dX10_ends_111 ⟨Nat.le_of_ble_eq_true rfl, Nat.le_of_ble_eq_true rfl⟩) hS (fun q h1 h2 => sp_Alt h1 h2) (sp_Ale hS.1) (fun H locs hP hle hfr hS => ?_)
            refine W.eq (g2 := F0 m 114 ls []) rfl ?_
            refine lv_aload_n hx hb dX10_ends_114 rfl (lv_at hl 0 rfl) ?_
            refine sp_get hx hb hts wi_X10_ends_X10 hown hK hP (κ := 0) (by decide) mE_0 rfl 4 (by decide) (hts _ (List.mem_of_getElem? (i := 3) rfl)) (fun _ h => h) rfl dX10_ends_115 ?_
            refine W.eq (g2 := F0 m 118 ls [.int (μ 0 4)]) (by rw [(show m_copy (sp_st (sp_st μ 0 0 0) 0 2 ((nI ch) + 1)) 10 (ch + 1) 0 4 = μ 0 4 from (by simp [m_copy0, m_sh0, sp_st_at]))]) ?_
            have hE9 : mW am cy (m_copy (sp_st (sp_st μ 0 0 0) 0 2 ((nI ch) + 1)) 10 (ch + 1)) = mW am cy (m_ends μ ch z p1 p2 p3) := by exact mW_eq (by simp [m_ends, m_endv, m_done, b2i, c_1, c_2, c_3, c_5])
            have hP : va_P D vwCl (mW am cy (m_ends μ ch z p1 p2 p3)) H := by rw [← hE9]; exact hP
            exact W.iret (v := μ 0 4) hx hb hr (fun T9 hT9 _ => ⟨congrArg (fun z9 => Outcome.returned (some (Value.int z9))) (show (μ 0 4 : Int32) = m_endr μ z p1 p2 p3 from (by simp [m_endr, m_endv, b2i, c_1, c_2, c_3, c_5])), by rw [hT9]; exact hP, hS.F hT9⟩) hS.2.2 dX10_ends_118
          · skip
            have hc9 : ch = 8 := nI_eq8 c_5 hc8
            refine lv_iconst (v := 1) hx hb dX10_ends_58 (by decide) ?_
            refine lv_istore (lv' := [(5, .int (1)), (0, .ref (am (0))), (1, .int (z)), (2, .int (p1)), (3, .int (p2)), (4, .int (p3))]) hx hb dX10_ends_59 hl (by decide) rfl (fun ls hl => ?_)
            have loop_61 : ∀ (fu i : Nat) (H : Heap) (locs : List Loc), (i ≤ 8) → (8 - i < fu) → (1 ≤ i) → (va_P D vwCl (mW am cy (m_sh (sp_st μ 0 0 0) i)) H) → (va_S (sp_A am 5 s.heap.size) s.heap H locs) → ∀ ls : Array Slot, lv_has ls 6 [(5, .int (nI i)), (0, .ref (am (0))), (1, .int (z)), (2, .int (p1)), (3, .int (p2)), (4, .int (p3))] → W p l e (headSpec wsX10_ends ({ frames := 1, cells := 0, slots := 0, locals := 23 } : Room)).room s m ([.ref (am (0)), .int (z), .int (p1), .int (p2), .int (p3)] : List Value).toArray below meth c H locs 0 0 (MQ below (sp_Q D (some (.int (m_endr μ z p1 p2 p3))) (mW am cy (m_ends μ ch z p1 p2 p3)) (sp_A am 5 s.heap.size)) ([.ref (am (0)), .int (z), .int (p1), .int (p2), .int (p3)] : List Value).toArray s 0 0 (sp_A am 5 s.heap.size)) (F0 m 61 ls []) := by
              intro fu
              induction fu with
              | zero => intro i H locs hle hlt hi_0 hP hS ls hl; exact absurd hlt (Nat.not_lt_zero _)
              | succ fu ih =>
                intro i H locs hle hlt hi_0 hP hS ls hl
                refine lv_iload hx hb dX10_ends_61 (lv_at hl 0 rfl) ?_
                refine lv_bipush (v := 8) hx hb dX10_ends_63 (by decide) ?_
                refine lv_icmp_ge (tgt := 84) hx hb dX10_ends_65 (by decide) (fun c_6 => ?_) (fun c_6 => ?_)
                · skip
                  have c_6d := Int32.not_lt.mpr c_6
                  have hx_i : i = 8 := by have := (nI_leI (a := 8) (b := i) (by omega) (by omega)).mp c_6; omega
                  try rw [hx_i] at hi_0
                  rw [hx_i] at hP
                  refine lv_aload_n hx hb dX10_ends_84 rfl (lv_at hl 1 rfl) ?_
                  refine lv_dup hx hb dX10_ends_85 rfl ?_
                  refine sp_get hx hb hts wi_X10_ends_X10 hown hK hP (κ := 0) (by decide) mE_0 rfl 2 (by decide) (hts _ (List.mem_of_getElem? (i := 2) rfl)) (fun _ h => h) rfl dX10_ends_86 ?_
                  refine W.eq (g2 := F0 m 89 ls [.int (nI ch), .ref (am (0))]) (by rw [(m_sh_ch hC)]) ?_
                  refine lv_iconst (v := 1) hx hb dX10_ends_89 (by decide) ?_
                  refine lv_isub hx hb dX10_ends_90 ?_
                  refine sp_put hx hb hts wi_X10_ends_X10 tyX10 tyX10_ok nmX10 hown hK hP hi hAk hS (κ := 0) (by decide) mE_0 rfl 2 (by decide) (hts _ (List.mem_of_getElem? (i := 2) rfl)) (fun _ h => h) rfl (ty := tyX10 2) (by decide +kernel) ⟨rfl, rfl⟩ (Nat.le_of_ble_eq_true rfl) (r1 := upd ((m_sh (sp_st μ 0 0 0) 8) 0) 2 ((nI ch) - 1)) (cE_of mE_0 (by simp [upd])) dX10_ends_91 (fun H locs hP hS => ?_)
                  have hP : va_P D vwCl (mW am cy (sp_st (m_sh (sp_st μ 0 0 0) 8) 0 2 ((nI ch) - 1))) H := hP
                  refine lv_aload_n hx hb dX10_ends_94 rfl (lv_at hl 1 rfl) ?_
                  refine lv_dup hx hb dX10_ends_95 rfl ?_
                  refine sp_get hx hb hts wi_X10_ends_X10 hown hK hP (κ := 0) (by decide) mE_0 rfl 2 (by decide) (hts _ (List.mem_of_getElem? (i := 2) rfl)) (fun _ h => h) rfl dX10_ends_96 ?_
                  refine W.eq (g2 := F0 m 99 ls [.int ((nI ch) - 1), .ref (am (0))]) (by rw [sp_st_s]) ?_
                  refine lv_iconst (v := 1) hx hb dX10_ends_99 (by decide) ?_
                  refine lv_iadd hx hb dX10_ends_100 ?_
                  refine sp_put hx hb hts wi_X10_ends_X10 tyX10 tyX10_ok nmX10 hown hK hP hi hAk hS (κ := 0) (by decide) mE_0 rfl 2 (by decide) (hts _ (List.mem_of_getElem? (i := 2) rfl)) (fun _ h => h) rfl (ty := tyX10 2) (by decide +kernel) ⟨rfl, rfl⟩ (Nat.le_of_ble_eq_true rfl) (r1 := upd ((sp_st (m_sh (sp_st μ 0 0 0) 8) 0 2 ((nI ch) - 1)) 0) 2 (((nI ch) - 1) + 1)) (cE_of mE_0 (by simp [upd])) dX10_ends_101 (fun H locs hP hS => ?_)
                  have hP : va_P D vwCl (mW am cy (sp_st (sp_st (m_sh (sp_st μ 0 0 0) 8) 0 2 ((nI ch) - 1)) 0 2 (((nI ch) - 1) + 1))) H := hP
                  refine lv_aload_n hx hb dX10_ends_104 rfl (lv_at hl 1 rfl) ?_
                  refine lv_bipush (v := 10) hx hb dX10_ends_105 (by decide) ?_
                  refine lv_aload_n hx hb dX10_ends_107 rfl (lv_at hl 1 rfl) ?_
                  refine sp_get hx hb hts wi_X10_ends_X10 hown hK hP (κ := 0) (by decide) mE_0 rfl 2 (by decide) (hts _ (List.mem_of_getElem? (i := 2) rfl)) (fun _ h => h) rfl dX10_ends_108 ?_
                  refine W.eq (g2 := F0 m 111 ls [.int (((nI ch) - 1) + 1), .int (10), .ref (am (0))]) (by rw [sp_st_s]) ?_
                  refine W.eq (g2 := F0 m 111 ls [.int (nI ((ch - 1) + 1)), .int (10), .ref (am (0))]) (by rw [show (((nI ch) - 1) + 1 : Int32) = nI ((ch - 1) + 1) from (nI_addE (nI_subE rfl rfl (by omega)) rfl)]) ?_
                  refine sp_callm (va_runV (As := [.int (10), .int (nI ((ch - 1) + 1))]) (rest := []) ⟨hx, hb, hml, hown, hts⟩ (c_X10_copies l D am cy (sp_st (sp_st (m_sh (sp_st μ 0 0 0) 8) 0 2 ((nI ch) - 1)) 0 2 (((nI ch) - 1) + 1)) _ hi 10 (by omega) ((ch - 1) + 1) (by omega) (by omega)) (cwV 2 hts gX10_ends_X10_copies rfl rfl rfl (by decide +kernel) ⟨Nat.le_of_ble_eq_true rfl, Nat.le_of_ble_eq_true rfl⟩) (sp_preVm hK hP (κ := 0) (by decide) mE_0 rfl) rfl rfl hl.1 rfl (lv_room (Nat.le_of_ble_eq_true rfl)) dX10_ends_111 ⟨Nat.le_of_ble_eq_true rfl, Nat.le_of_ble_eq_true rfl⟩) hS (fun q h1 h2 => sp_Alt h1 h2) (sp_Ale hS.1) (fun H locs hP hle hfr hS => ?_)
                  refine W.eq (g2 := F0 m 114 ls []) rfl ?_
                  refine lv_aload_n hx hb dX10_ends_114 rfl (lv_at hl 1 rfl) ?_
                  refine sp_get hx hb hts wi_X10_ends_X10 hown hK hP (κ := 0) (by decide) mE_0 rfl 4 (by decide) (hts _ (List.mem_of_getElem? (i := 3) rfl)) (fun _ h => h) rfl dX10_ends_115 ?_
                  refine W.eq (g2 := F0 m 118 ls [.int (μ 0 4)]) (by rw [(show m_copy (sp_st (sp_st (m_sh (sp_st μ 0 0 0) 8) 0 2 ((nI ch) - 1)) 0 2 (((nI ch) - 1) + 1)) 10 ((ch - 1) + 1) 0 4 = μ 0 4 from (by simp [m_copy0, m_sh0, sp_st_at]))]) ?_
                  have hE9 : mW am cy (m_copy (sp_st (sp_st (m_sh (sp_st μ 0 0 0) 8) 0 2 ((nI ch) - 1)) 0 2 (((nI ch) - 1) + 1)) 10 ((ch - 1) + 1)) = mW am cy (m_ends μ ch z p1 p2 p3) := by exact mW_eq (by simp [m_ends, m_endv, m_done, b2i, c_1, c_2, c_3, c_5])
                  have hP : va_P D vwCl (mW am cy (m_ends μ ch z p1 p2 p3)) H := by rw [← hE9]; exact hP
                  exact W.iret (v := μ 0 4) hx hb hr (fun T9 hT9 _ => ⟨congrArg (fun z9 => Outcome.returned (some (Value.int z9))) (show (μ 0 4 : Int32) = m_endr μ z p1 p2 p3 from (by simp [m_endr, m_endv, b2i, c_1, c_2, c_3, c_5])), by rw [hT9]; exact hP, hS.F hT9⟩) hS.2.2 dX10_ends_118
                · skip
                  have c_6d := Int32.not_le.mp c_6
                  have hb_i : i < 8 := Nat.lt_of_not_le (fun z => c_6 (nI_le z (by omega)))
                  refine lv_aload_n hx hb dX10_ends_68 rfl (lv_at hl 1 rfl) ?_
                  refine lv_iload hx hb dX10_ends_69 (lv_at hl 0 rfl) ?_
                  refine lv_iconst (v := 1) hx hb dX10_ends_71 (by decide) ?_
                  refine lv_iadd hx hb dX10_ends_72 ?_
                  refine lv_iload hx hb dX10_ends_73 (lv_at hl 0 rfl) ?_
                  refine W.eq (g2 := F0 m 75 ls [.int (nI i), .int (nI (i + 1)), .ref (am (0))]) (by rw [show ((nI i) + 1 : Int32) = nI (i + 1) from (nI_addE rfl rfl)]) ?_
                  refine sp_callm (va_runV (As := [.int (nI (i + 1)), .int (nI i)]) (rest := []) ⟨hx, hb, hml, hown, hts⟩ (c_X10_copies l D am cy (m_sh (sp_st μ 0 0 0) i) _ hi (i + 1) (by omega) i (by omega) (by omega)) (cwV 2 hts gX10_ends_X10_copies rfl rfl rfl (by decide +kernel) ⟨Nat.le_of_ble_eq_true rfl, Nat.le_of_ble_eq_true rfl⟩) (sp_preVm hK hP (κ := 0) (by decide) mE_0 rfl) rfl rfl hl.1 rfl (lv_room (Nat.le_of_ble_eq_true rfl)) dX10_ends_75 ⟨Nat.le_of_ble_eq_true rfl, Nat.le_of_ble_eq_true rfl⟩) hS (fun q h1 h2 => sp_Alt h1 h2) (sp_Ale hS.1) (fun H locs hP hle hfr hS => ?_)
                  refine W.eq (g2 := F0 m 78 ls []) rfl ?_
                  refine lv_iinc (v := nI (i + 1)) (lv' := [(5, .int (nI (i + 1))), (0, .ref (am (0))), (1, .int (z)), (2, .int (p1)), (3, .int (p2)), (4, .int (p3))]) hx hb dX10_ends_78 hl (k := 0) rfl (nI_1 _) (by decide) rfl (fun ls hl => ?_)
                  refine lv_goto (tgt := 61) hx hb dX10_ends_81 (by decide) ?_
                  exact ih (i + 1)  _ _ (by omega) (by omega) (by omega) ((show mW am cy (m_copy (m_sh (sp_st μ 0 0 0) i) (i + 1) i) = mW am cy (m_sh (sp_st μ 0 0 0) (i + 1)) from (by exact mW_eq (m_sh_s (by omega)))) ▸ hP) hS ls (lv_sub hl [0, 1, 2, 3, 4, 5] rfl)
            exact loop_61 (8 + 1) (1)  _ _ (by omega) (by omega) (Nat.le_refl 1) ((show mW am cy (sp_st μ 0 0 0) = mW am cy (m_sh (sp_st μ 0 0 0) 1) from (by rfl)) ▸ hP) hS ls (lv_sub hl [0, 1, 2, 3, 4, 5] rfl)
        · exact absurd c_4 (by decide)
      · skip
        refine lv_iload hx hb dX10_ends_24 (lv_at hl 4 rfl) ?_
        refine lv_goto (tgt := 30) hx hb dX10_ends_26 (by decide) ?_
        refine sp_put hx hb hts wi_X10_ends_X10 tyX10 tyX10_ok nmX10 hown hK hP hi hAk hS (κ := 0) (by decide) mE_0 rfl 0 (by decide) (hts _ (List.mem_of_getElem? (i := 1) rfl)) (fun _ h => h) rfl (ty := tyX10 0) (by decide +kernel) ⟨rfl, rfl⟩ (Nat.le_of_ble_eq_true rfl) (r1 := upd (μ 0) 0 p3) (cE_of mE_0 (by simp [upd])) dX10_ends_30 (fun H locs hP hS => ?_)
        have hP : va_P D vwCl (mW am cy (sp_st μ 0 0 p3)) H := hP
        refine lv_aload_n hx hb dX10_ends_33 rfl (lv_at hl 0 rfl) ?_
        refine sp_get hx hb hts wi_X10_ends_X10 hown hK hP (κ := 0) (by decide) mE_0 rfl 0 (by decide) (hts _ (List.mem_of_getElem? (i := 1) rfl)) (fun _ h => h) rfl dX10_ends_34 ?_
        refine W.eq (g2 := F0 m 37 ls [.int (p3)]) (by rw [sp_st_s]) ?_
        refine lv_if_eq (tgt := 49) hx hb dX10_ends_37 (by decide) (fun c_7 => ?_) (fun c_7 => ?_)
        · skip
          refine lv_aload_n hx hb dX10_ends_49 rfl (lv_at hl 0 rfl) ?_
          refine sp_get hx hb hts wi_X10_ends_X10 hown hK hP (κ := 0) (by decide) mE_0 rfl 2 (by decide) (hts _ (List.mem_of_getElem? (i := 2) rfl)) (fun _ h => h) rfl dX10_ends_50 ?_
          refine W.eq (g2 := F0 m 53 ls [.int (μ 0 2)]) (by rw [sp_st_j _ _ _ _ _ _ (by decide)]) ?_
          refine W.eq (g2 := F0 m 53 ls [.int (nI ch)]) (by rw [hC]) ?_
          refine lv_bipush (v := 8) hx hb dX10_ends_53 (by decide) ?_
          refine lv_icmp_ne (tgt := 94) hx hb dX10_ends_55 (by decide) (fun c_8 => ?_) (fun c_8 => ?_)
          · skip
            have hc9 : ch < 8 := nI_lt8 c_8 hc8
            refine lv_aload_n hx hb dX10_ends_94 rfl (lv_at hl 0 rfl) ?_
            refine lv_dup hx hb dX10_ends_95 rfl ?_
            refine sp_get hx hb hts wi_X10_ends_X10 hown hK hP (κ := 0) (by decide) mE_0 rfl 2 (by decide) (hts _ (List.mem_of_getElem? (i := 2) rfl)) (fun _ h => h) rfl dX10_ends_96 ?_
            refine W.eq (g2 := F0 m 99 ls [.int (μ 0 2), .ref (am (0))]) (by rw [sp_st_j _ _ _ _ _ _ (by decide)]) ?_
            refine W.eq (g2 := F0 m 99 ls [.int (nI ch), .ref (am (0))]) (by rw [hC]) ?_
            refine lv_iconst (v := 1) hx hb dX10_ends_99 (by decide) ?_
            refine lv_iadd hx hb dX10_ends_100 ?_
            refine sp_put hx hb hts wi_X10_ends_X10 tyX10 tyX10_ok nmX10 hown hK hP hi hAk hS (κ := 0) (by decide) mE_0 rfl 2 (by decide) (hts _ (List.mem_of_getElem? (i := 2) rfl)) (fun _ h => h) rfl (ty := tyX10 2) (by decide +kernel) ⟨rfl, rfl⟩ (Nat.le_of_ble_eq_true rfl) (r1 := upd ((sp_st μ 0 0 p3) 0) 2 ((nI ch) + 1)) (cE_of mE_0 (by simp [upd])) dX10_ends_101 (fun H locs hP hS => ?_)
            have hP : va_P D vwCl (mW am cy (sp_st (sp_st μ 0 0 p3) 0 2 ((nI ch) + 1))) H := hP
            refine lv_aload_n hx hb dX10_ends_104 rfl (lv_at hl 0 rfl) ?_
            refine lv_bipush (v := 10) hx hb dX10_ends_105 (by decide) ?_
            refine lv_aload_n hx hb dX10_ends_107 rfl (lv_at hl 0 rfl) ?_
            refine sp_get hx hb hts wi_X10_ends_X10 hown hK hP (κ := 0) (by decide) mE_0 rfl 2 (by decide) (hts _ (List.mem_of_getElem? (i := 2) rfl)) (fun _ h => h) rfl dX10_ends_108 ?_
            refine W.eq (g2 := F0 m 111 ls [.int ((nI ch) + 1), .int (10), .ref (am (0))]) (by rw [sp_st_s]) ?_
            refine W.eq (g2 := F0 m 111 ls [.int (nI (ch + 1)), .int (10), .ref (am (0))]) (by rw [show ((nI ch) + 1 : Int32) = nI (ch + 1) from (nI_addE rfl rfl)]) ?_
            refine sp_callm (va_runV (As := [.int (10), .int (nI (ch + 1))]) (rest := []) ⟨hx, hb, hml, hown, hts⟩ (c_X10_copies l D am cy (sp_st (sp_st μ 0 0 p3) 0 2 ((nI ch) + 1)) _ hi 10 (by omega) (ch + 1) (by omega) (by omega)) (cwV 2 hts gX10_ends_X10_copies rfl rfl rfl (by decide +kernel) ⟨Nat.le_of_ble_eq_true rfl, Nat.le_of_ble_eq_true rfl⟩) (sp_preVm hK hP (κ := 0) (by decide) mE_0 rfl) rfl rfl hl.1 rfl (lv_room (Nat.le_of_ble_eq_true rfl)) dX10_ends_111 ⟨Nat.le_of_ble_eq_true rfl, Nat.le_of_ble_eq_true rfl⟩) hS (fun q h1 h2 => sp_Alt h1 h2) (sp_Ale hS.1) (fun H locs hP hle hfr hS => ?_)
            refine W.eq (g2 := F0 m 114 ls []) rfl ?_
            refine lv_aload_n hx hb dX10_ends_114 rfl (lv_at hl 0 rfl) ?_
            refine sp_get hx hb hts wi_X10_ends_X10 hown hK hP (κ := 0) (by decide) mE_0 rfl 4 (by decide) (hts _ (List.mem_of_getElem? (i := 3) rfl)) (fun _ h => h) rfl dX10_ends_115 ?_
            refine W.eq (g2 := F0 m 118 ls [.int (μ 0 4)]) (by rw [(show m_copy (sp_st (sp_st μ 0 0 p3) 0 2 ((nI ch) + 1)) 10 (ch + 1) 0 4 = μ 0 4 from (by simp [m_copy0, m_sh0, sp_st_at]))]) ?_
            have hE9 : mW am cy (m_copy (sp_st (sp_st μ 0 0 p3) 0 2 ((nI ch) + 1)) 10 (ch + 1)) = mW am cy (m_ends μ ch z p1 p2 p3) := by exact mW_eq (by simp [m_ends, m_endv, m_done, b2i, c_1, c_2, c_3, c_7, c_8])
            have hP : va_P D vwCl (mW am cy (m_ends μ ch z p1 p2 p3)) H := by rw [← hE9]; exact hP
            exact W.iret (v := μ 0 4) hx hb hr (fun T9 hT9 _ => ⟨congrArg (fun z9 => Outcome.returned (some (Value.int z9))) (show (μ 0 4 : Int32) = m_endr μ z p1 p2 p3 from (by simp [m_endr, m_endv, b2i, c_1, c_2, c_3, c_7, c_8])), by rw [hT9]; exact hP, hS.F hT9⟩) hS.2.2 dX10_ends_118
          · skip
            have hc9 : ch = 8 := nI_eq8 c_8 hc8
            refine lv_iconst (v := 1) hx hb dX10_ends_58 (by decide) ?_
            refine lv_istore (lv' := [(5, .int (1)), (0, .ref (am (0))), (1, .int (z)), (2, .int (p1)), (3, .int (p2)), (4, .int (p3))]) hx hb dX10_ends_59 hl (by decide) rfl (fun ls hl => ?_)
            have loop_61 : ∀ (fu i : Nat) (H : Heap) (locs : List Loc), (i ≤ 8) → (8 - i < fu) → (1 ≤ i) → (va_P D vwCl (mW am cy (m_sh (sp_st μ 0 0 p3) i)) H) → (va_S (sp_A am 5 s.heap.size) s.heap H locs) → ∀ ls : Array Slot, lv_has ls 6 [(5, .int (nI i)), (0, .ref (am (0))), (1, .int (z)), (2, .int (p1)), (3, .int (p2)), (4, .int (p3))] → W p l e (headSpec wsX10_ends ({ frames := 1, cells := 0, slots := 0, locals := 23 } : Room)).room s m ([.ref (am (0)), .int (z), .int (p1), .int (p2), .int (p3)] : List Value).toArray below meth c H locs 0 0 (MQ below (sp_Q D (some (.int (m_endr μ z p1 p2 p3))) (mW am cy (m_ends μ ch z p1 p2 p3)) (sp_A am 5 s.heap.size)) ([.ref (am (0)), .int (z), .int (p1), .int (p2), .int (p3)] : List Value).toArray s 0 0 (sp_A am 5 s.heap.size)) (F0 m 61 ls []) := by
              intro fu
              induction fu with
              | zero => intro i H locs hle hlt hi_0 hP hS ls hl; exact absurd hlt (Nat.not_lt_zero _)
              | succ fu ih =>
                intro i H locs hle hlt hi_0 hP hS ls hl
                refine lv_iload hx hb dX10_ends_61 (lv_at hl 0 rfl) ?_
                refine lv_bipush (v := 8) hx hb dX10_ends_63 (by decide) ?_
                refine lv_icmp_ge (tgt := 84) hx hb dX10_ends_65 (by decide) (fun c_9 => ?_) (fun c_9 => ?_)
                · skip
                  have c_9d := Int32.not_lt.mpr c_9
                  have hx_i : i = 8 := by have := (nI_leI (a := 8) (b := i) (by omega) (by omega)).mp c_9; omega
                  try rw [hx_i] at hi_0
                  rw [hx_i] at hP
                  refine lv_aload_n hx hb dX10_ends_84 rfl (lv_at hl 1 rfl) ?_
                  refine lv_dup hx hb dX10_ends_85 rfl ?_
                  refine sp_get hx hb hts wi_X10_ends_X10 hown hK hP (κ := 0) (by decide) mE_0 rfl 2 (by decide) (hts _ (List.mem_of_getElem? (i := 2) rfl)) (fun _ h => h) rfl dX10_ends_86 ?_
                  refine W.eq (g2 := F0 m 89 ls [.int (nI ch), .ref (am (0))]) (by rw [(m_sh_ch hC)]) ?_
                  refine lv_iconst (v := 1) hx hb dX10_ends_89 (by decide) ?_
                  refine lv_isub hx hb dX10_ends_90 ?_
                  refine sp_put hx hb hts wi_X10_ends_X10 tyX10 tyX10_ok nmX10 hown hK hP hi hAk hS (κ := 0) (by decide) mE_0 rfl 2 (by decide) (hts _ (List.mem_of_getElem? (i := 2) rfl)) (fun _ h => h) rfl (ty := tyX10 2) (by decide +kernel) ⟨rfl, rfl⟩ (Nat.le_of_ble_eq_true rfl) (r1 := upd ((m_sh (sp_st μ 0 0 p3) 8) 0) 2 ((nI ch) - 1)) (cE_of mE_0 (by simp [upd])) dX10_ends_91 (fun H locs hP hS => ?_)
                  have hP : va_P D vwCl (mW am cy (sp_st (m_sh (sp_st μ 0 0 p3) 8) 0 2 ((nI ch) - 1))) H := hP
                  refine lv_aload_n hx hb dX10_ends_94 rfl (lv_at hl 1 rfl) ?_
                  refine lv_dup hx hb dX10_ends_95 rfl ?_
                  refine sp_get hx hb hts wi_X10_ends_X10 hown hK hP (κ := 0) (by decide) mE_0 rfl 2 (by decide) (hts _ (List.mem_of_getElem? (i := 2) rfl)) (fun _ h => h) rfl dX10_ends_96 ?_
                  refine W.eq (g2 := F0 m 99 ls [.int ((nI ch) - 1), .ref (am (0))]) (by rw [sp_st_s]) ?_
                  refine lv_iconst (v := 1) hx hb dX10_ends_99 (by decide) ?_
                  refine lv_iadd hx hb dX10_ends_100 ?_
                  refine sp_put hx hb hts wi_X10_ends_X10 tyX10 tyX10_ok nmX10 hown hK hP hi hAk hS (κ := 0) (by decide) mE_0 rfl 2 (by decide) (hts _ (List.mem_of_getElem? (i := 2) rfl)) (fun _ h => h) rfl (ty := tyX10 2) (by decide +kernel) ⟨rfl, rfl⟩ (Nat.le_of_ble_eq_true rfl) (r1 := upd ((sp_st (m_sh (sp_st μ 0 0 p3) 8) 0 2 ((nI ch) - 1)) 0) 2 (((nI ch) - 1) + 1)) (cE_of mE_0 (by simp [upd])) dX10_ends_101 (fun H locs hP hS => ?_)
                  have hP : va_P D vwCl (mW am cy (sp_st (sp_st (m_sh (sp_st μ 0 0 p3) 8) 0 2 ((nI ch) - 1)) 0 2 (((nI ch) - 1) + 1))) H := hP
                  refine lv_aload_n hx hb dX10_ends_104 rfl (lv_at hl 1 rfl) ?_
                  refine lv_bipush (v := 10) hx hb dX10_ends_105 (by decide) ?_
                  refine lv_aload_n hx hb dX10_ends_107 rfl (lv_at hl 1 rfl) ?_
                  refine sp_get hx hb hts wi_X10_ends_X10 hown hK hP (κ := 0) (by decide) mE_0 rfl 2 (by decide) (hts _ (List.mem_of_getElem? (i := 2) rfl)) (fun _ h => h) rfl dX10_ends_108 ?_
                  refine W.eq (g2 := F0 m 111 ls [.int (((nI ch) - 1) + 1), .int (10), .ref (am (0))]) (by rw [sp_st_s]) ?_
                  refine W.eq (g2 := F0 m 111 ls [.int (nI ((ch - 1) + 1)), .int (10), .ref (am (0))]) (by rw [show (((nI ch) - 1) + 1 : Int32) = nI ((ch - 1) + 1) from (nI_addE (nI_subE rfl rfl (by omega)) rfl)]) ?_
                  refine sp_callm (va_runV (As := [.int (10), .int (nI ((ch - 1) + 1))]) (rest := []) ⟨hx, hb, hml, hown, hts⟩ (c_X10_copies l D am cy (sp_st (sp_st (m_sh (sp_st μ 0 0 p3) 8) 0 2 ((nI ch) - 1)) 0 2 (((nI ch) - 1) + 1)) _ hi 10 (by omega) ((ch - 1) + 1) (by omega) (by omega)) (cwV 2 hts gX10_ends_X10_copies rfl rfl rfl (by decide +kernel) ⟨Nat.le_of_ble_eq_true rfl, Nat.le_of_ble_eq_true rfl⟩) (sp_preVm hK hP (κ := 0) (by decide) mE_0 rfl) rfl rfl hl.1 rfl (lv_room (Nat.le_of_ble_eq_true rfl)) dX10_ends_111 ⟨Nat.le_of_ble_eq_true rfl, Nat.le_of_ble_eq_true rfl⟩) hS (fun q h1 h2 => sp_Alt h1 h2) (sp_Ale hS.1) (fun H locs hP hle hfr hS => ?_)
                  refine W.eq (g2 := F0 m 114 ls []) rfl ?_
                  refine lv_aload_n hx hb dX10_ends_114 rfl (lv_at hl 1 rfl) ?_
                  refine sp_get hx hb hts wi_X10_ends_X10 hown hK hP (κ := 0) (by decide) mE_0 rfl 4 (by decide) (hts _ (List.mem_of_getElem? (i := 3) rfl)) (fun _ h => h) rfl dX10_ends_115 ?_
                  refine W.eq (g2 := F0 m 118 ls [.int (μ 0 4)]) (by rw [(show m_copy (sp_st (sp_st (m_sh (sp_st μ 0 0 p3) 8) 0 2 ((nI ch) - 1)) 0 2 (((nI ch) - 1) + 1)) 10 ((ch - 1) + 1) 0 4 = μ 0 4 from (by simp [m_copy0, m_sh0, sp_st_at]))]) ?_
                  have hE9 : mW am cy (m_copy (sp_st (sp_st (m_sh (sp_st μ 0 0 p3) 8) 0 2 ((nI ch) - 1)) 0 2 (((nI ch) - 1) + 1)) 10 ((ch - 1) + 1)) = mW am cy (m_ends μ ch z p1 p2 p3) := by exact mW_eq (by simp [m_ends, m_endv, m_done, b2i, c_1, c_2, c_3, c_7, c_8])
                  have hP : va_P D vwCl (mW am cy (m_ends μ ch z p1 p2 p3)) H := by rw [← hE9]; exact hP
                  exact W.iret (v := μ 0 4) hx hb hr (fun T9 hT9 _ => ⟨congrArg (fun z9 => Outcome.returned (some (Value.int z9))) (show (μ 0 4 : Int32) = m_endr μ z p1 p2 p3 from (by simp [m_endr, m_endv, b2i, c_1, c_2, c_3, c_7, c_8])), by rw [hT9]; exact hP, hS.F hT9⟩) hS.2.2 dX10_ends_118
                · skip
                  have c_9d := Int32.not_le.mp c_9
                  have hb_i : i < 8 := Nat.lt_of_not_le (fun z => c_9 (nI_le z (by omega)))
                  refine lv_aload_n hx hb dX10_ends_68 rfl (lv_at hl 1 rfl) ?_
                  refine lv_iload hx hb dX10_ends_69 (lv_at hl 0 rfl) ?_
                  refine lv_iconst (v := 1) hx hb dX10_ends_71 (by decide) ?_
                  refine lv_iadd hx hb dX10_ends_72 ?_
                  refine lv_iload hx hb dX10_ends_73 (lv_at hl 0 rfl) ?_
                  refine W.eq (g2 := F0 m 75 ls [.int (nI i), .int (nI (i + 1)), .ref (am (0))]) (by rw [show ((nI i) + 1 : Int32) = nI (i + 1) from (nI_addE rfl rfl)]) ?_
                  refine sp_callm (va_runV (As := [.int (nI (i + 1)), .int (nI i)]) (rest := []) ⟨hx, hb, hml, hown, hts⟩ (c_X10_copies l D am cy (m_sh (sp_st μ 0 0 p3) i) _ hi (i + 1) (by omega) i (by omega) (by omega)) (cwV 2 hts gX10_ends_X10_copies rfl rfl rfl (by decide +kernel) ⟨Nat.le_of_ble_eq_true rfl, Nat.le_of_ble_eq_true rfl⟩) (sp_preVm hK hP (κ := 0) (by decide) mE_0 rfl) rfl rfl hl.1 rfl (lv_room (Nat.le_of_ble_eq_true rfl)) dX10_ends_75 ⟨Nat.le_of_ble_eq_true rfl, Nat.le_of_ble_eq_true rfl⟩) hS (fun q h1 h2 => sp_Alt h1 h2) (sp_Ale hS.1) (fun H locs hP hle hfr hS => ?_)
                  refine W.eq (g2 := F0 m 78 ls []) rfl ?_
                  refine lv_iinc (v := nI (i + 1)) (lv' := [(5, .int (nI (i + 1))), (0, .ref (am (0))), (1, .int (z)), (2, .int (p1)), (3, .int (p2)), (4, .int (p3))]) hx hb dX10_ends_78 hl (k := 0) rfl (nI_1 _) (by decide) rfl (fun ls hl => ?_)
                  refine lv_goto (tgt := 61) hx hb dX10_ends_81 (by decide) ?_
                  exact ih (i + 1)  _ _ (by omega) (by omega) (by omega) ((show mW am cy (m_copy (m_sh (sp_st μ 0 0 p3) i) (i + 1) i) = mW am cy (m_sh (sp_st μ 0 0 p3) (i + 1)) from (by exact mW_eq (m_sh_s (by omega)))) ▸ hP) hS ls (lv_sub hl [0, 1, 2, 3, 4, 5] rfl)
            exact loop_61 (8 + 1) (1)  _ _ (by omega) (by omega) (Nat.le_refl 1) ((show mW am cy (sp_st μ 0 0 p3) = mW am cy (m_sh (sp_st μ 0 0 p3) 1) from (by rfl)) ▸ hP) hS ls (lv_sub hl [0, 1, 2, 3, 4, 5] rfl)
        · skip
          refine lv_aload_n hx hb dX10_ends_40 rfl (lv_at hl 0 rfl) ?_
          refine lv_bipush (v := 10) hx hb dX10_ends_41 (by decide) ?_
          refine lv_iconst (v := 0) hx hb dX10_ends_43 (by decide) ?_
          refine sp_callm (va_runV (As := [.int (10), .int (0)]) (rest := []) ⟨hx, hb, hml, hown, hts⟩ (c_X10_copies l D am cy (sp_st μ 0 0 p3) _ hi 10 (by omega) 0 (by omega) (by omega)) (cwV 2 hts gX10_ends_X10_copies rfl rfl rfl (by decide +kernel) ⟨Nat.le_of_ble_eq_true rfl, Nat.le_of_ble_eq_true rfl⟩) (sp_preVm hK hP (κ := 0) (by decide) mE_0 rfl) rfl rfl hl.1 rfl (lv_room (Nat.le_of_ble_eq_true rfl)) dX10_ends_44 ⟨Nat.le_of_ble_eq_true rfl, Nat.le_of_ble_eq_true rfl⟩) hS (fun q h1 h2 => sp_Alt h1 h2) (sp_Ale hS.1) (fun H locs hP hle hfr hS => ?_)
          refine W.eq (g2 := F0 m 47 ls []) rfl ?_
          refine lv_iconst (v := 0) hx hb dX10_ends_47 (by decide) ?_
          have hE9 : mW am cy (m_copy (sp_st μ 0 0 p3) 10 0) = mW am cy (m_ends μ ch z p1 p2 p3) := by exact mW_eq (by simp [m_ends, m_endv, m_done, b2i, c_1, c_2, c_3, c_7])
          have hP : va_P D vwCl (mW am cy (m_ends μ ch z p1 p2 p3)) H := by rw [← hE9]; exact hP
          exact W.iret (v := 0) hx hb hr (fun T9 hT9 _ => ⟨congrArg (fun z9 => Outcome.returned (some (Value.int z9))) (show (0 : Int32) = m_endr μ z p1 p2 p3 from (by simp [m_endr, m_endv, b2i, c_1, c_2, c_3, c_7])), by rw [hT9]; exact hP, hS.F hT9⟩) hS.2.2 dX10_ends_48
    · skip
      refine lv_iload_n hx hb dX10_ends_15 rfl (lv_at hl 3 rfl) ?_
      refine lv_goto (tgt := 30) hx hb dX10_ends_16 (by decide) ?_
      refine sp_put hx hb hts wi_X10_ends_X10 tyX10 tyX10_ok nmX10 hown hK hP hi hAk hS (κ := 0) (by decide) mE_0 rfl 0 (by decide) (hts _ (List.mem_of_getElem? (i := 1) rfl)) (fun _ h => h) rfl (ty := tyX10 0) (by decide +kernel) ⟨rfl, rfl⟩ (Nat.le_of_ble_eq_true rfl) (r1 := upd (μ 0) 0 p2) (cE_of mE_0 (by simp [upd])) dX10_ends_30 (fun H locs hP hS => ?_)
      have hP : va_P D vwCl (mW am cy (sp_st μ 0 0 p2)) H := hP
      refine lv_aload_n hx hb dX10_ends_33 rfl (lv_at hl 0 rfl) ?_
      refine sp_get hx hb hts wi_X10_ends_X10 hown hK hP (κ := 0) (by decide) mE_0 rfl 0 (by decide) (hts _ (List.mem_of_getElem? (i := 1) rfl)) (fun _ h => h) rfl dX10_ends_34 ?_
      refine W.eq (g2 := F0 m 37 ls [.int (p2)]) (by rw [sp_st_s]) ?_
      refine lv_if_eq (tgt := 49) hx hb dX10_ends_37 (by decide) (fun c_10 => ?_) (fun c_10 => ?_)
      · skip
        refine lv_aload_n hx hb dX10_ends_49 rfl (lv_at hl 0 rfl) ?_
        refine sp_get hx hb hts wi_X10_ends_X10 hown hK hP (κ := 0) (by decide) mE_0 rfl 2 (by decide) (hts _ (List.mem_of_getElem? (i := 2) rfl)) (fun _ h => h) rfl dX10_ends_50 ?_
        refine W.eq (g2 := F0 m 53 ls [.int (μ 0 2)]) (by rw [sp_st_j _ _ _ _ _ _ (by decide)]) ?_
        refine W.eq (g2 := F0 m 53 ls [.int (nI ch)]) (by rw [hC]) ?_
        refine lv_bipush (v := 8) hx hb dX10_ends_53 (by decide) ?_
        refine lv_icmp_ne (tgt := 94) hx hb dX10_ends_55 (by decide) (fun c_11 => ?_) (fun c_11 => ?_)
        · skip
          have hc9 : ch < 8 := nI_lt8 c_11 hc8
          refine lv_aload_n hx hb dX10_ends_94 rfl (lv_at hl 0 rfl) ?_
          refine lv_dup hx hb dX10_ends_95 rfl ?_
          refine sp_get hx hb hts wi_X10_ends_X10 hown hK hP (κ := 0) (by decide) mE_0 rfl 2 (by decide) (hts _ (List.mem_of_getElem? (i := 2) rfl)) (fun _ h => h) rfl dX10_ends_96 ?_
          refine W.eq (g2 := F0 m 99 ls [.int (μ 0 2), .ref (am (0))]) (by rw [sp_st_j _ _ _ _ _ _ (by decide)]) ?_
          refine W.eq (g2 := F0 m 99 ls [.int (nI ch), .ref (am (0))]) (by rw [hC]) ?_
          refine lv_iconst (v := 1) hx hb dX10_ends_99 (by decide) ?_
          refine lv_iadd hx hb dX10_ends_100 ?_
          refine sp_put hx hb hts wi_X10_ends_X10 tyX10 tyX10_ok nmX10 hown hK hP hi hAk hS (κ := 0) (by decide) mE_0 rfl 2 (by decide) (hts _ (List.mem_of_getElem? (i := 2) rfl)) (fun _ h => h) rfl (ty := tyX10 2) (by decide +kernel) ⟨rfl, rfl⟩ (Nat.le_of_ble_eq_true rfl) (r1 := upd ((sp_st μ 0 0 p2) 0) 2 ((nI ch) + 1)) (cE_of mE_0 (by simp [upd])) dX10_ends_101 (fun H locs hP hS => ?_)
          have hP : va_P D vwCl (mW am cy (sp_st (sp_st μ 0 0 p2) 0 2 ((nI ch) + 1))) H := hP
          refine lv_aload_n hx hb dX10_ends_104 rfl (lv_at hl 0 rfl) ?_
          refine lv_bipush (v := 10) hx hb dX10_ends_105 (by decide) ?_
          refine lv_aload_n hx hb dX10_ends_107 rfl (lv_at hl 0 rfl) ?_
          refine sp_get hx hb hts wi_X10_ends_X10 hown hK hP (κ := 0) (by decide) mE_0 rfl 2 (by decide) (hts _ (List.mem_of_getElem? (i := 2) rfl)) (fun _ h => h) rfl dX10_ends_108 ?_
          refine W.eq (g2 := F0 m 111 ls [.int ((nI ch) + 1), .int (10), .ref (am (0))]) (by rw [sp_st_s]) ?_
          refine W.eq (g2 := F0 m 111 ls [.int (nI (ch + 1)), .int (10), .ref (am (0))]) (by rw [show ((nI ch) + 1 : Int32) = nI (ch + 1) from (nI_addE rfl rfl)]) ?_
          refine sp_callm (va_runV (As := [.int (10), .int (nI (ch + 1))]) (rest := []) ⟨hx, hb, hml, hown, hts⟩ (c_X10_copies l D am cy (sp_st (sp_st μ 0 0 p2) 0 2 ((nI ch) + 1)) _ hi 10 (by omega) (ch + 1) (by omega) (by omega)) (cwV 2 hts gX10_ends_X10_copies rfl rfl rfl (by decide +kernel) ⟨Nat.le_of_ble_eq_true rfl, Nat.le_of_ble_eq_true rfl⟩) (sp_preVm hK hP (κ := 0) (by decide) mE_0 rfl) rfl rfl hl.1 rfl (lv_room (Nat.le_of_ble_eq_true rfl)) dX10_ends_111 ⟨Nat.le_of_ble_eq_true rfl, Nat.le_of_ble_eq_true rfl⟩) hS (fun q h1 h2 => sp_Alt h1 h2) (sp_Ale hS.1) (fun H locs hP hle hfr hS => ?_)
          refine W.eq (g2 := F0 m 114 ls []) rfl ?_
          refine lv_aload_n hx hb dX10_ends_114 rfl (lv_at hl 0 rfl) ?_
          refine sp_get hx hb hts wi_X10_ends_X10 hown hK hP (κ := 0) (by decide) mE_0 rfl 4 (by decide) (hts _ (List.mem_of_getElem? (i := 3) rfl)) (fun _ h => h) rfl dX10_ends_115 ?_
          refine W.eq (g2 := F0 m 118 ls [.int (μ 0 4)]) (by rw [(show m_copy (sp_st (sp_st μ 0 0 p2) 0 2 ((nI ch) + 1)) 10 (ch + 1) 0 4 = μ 0 4 from (by simp [m_copy0, m_sh0, sp_st_at]))]) ?_
          have hE9 : mW am cy (m_copy (sp_st (sp_st μ 0 0 p2) 0 2 ((nI ch) + 1)) 10 (ch + 1)) = mW am cy (m_ends μ ch z p1 p2 p3) := by exact mW_eq (by simp [m_ends, m_endv, m_done, b2i, c_1, c_2, c_10, c_11])
          have hP : va_P D vwCl (mW am cy (m_ends μ ch z p1 p2 p3)) H := by rw [← hE9]; exact hP
          exact W.iret (v := μ 0 4) hx hb hr (fun T9 hT9 _ => ⟨congrArg (fun z9 => Outcome.returned (some (Value.int z9))) (show (μ 0 4 : Int32) = m_endr μ z p1 p2 p3 from (by simp [m_endr, m_endv, b2i, c_1, c_2, c_10, c_11])), by rw [hT9]; exact hP, hS.F hT9⟩) hS.2.2 dX10_ends_118
        · skip
          have hc9 : ch = 8 := nI_eq8 c_11 hc8
          refine lv_iconst (v := 1) hx hb dX10_ends_58 (by decide) ?_
          refine lv_istore (lv' := [(5, .int (1)), (0, .ref (am (0))), (1, .int (z)), (2, .int (p1)), (3, .int (p2)), (4, .int (p3))]) hx hb dX10_ends_59 hl (by decide) rfl (fun ls hl => ?_)
          have loop_61 : ∀ (fu i : Nat) (H : Heap) (locs : List Loc), (i ≤ 8) → (8 - i < fu) → (1 ≤ i) → (va_P D vwCl (mW am cy (m_sh (sp_st μ 0 0 p2) i)) H) → (va_S (sp_A am 5 s.heap.size) s.heap H locs) → ∀ ls : Array Slot, lv_has ls 6 [(5, .int (nI i)), (0, .ref (am (0))), (1, .int (z)), (2, .int (p1)), (3, .int (p2)), (4, .int (p3))] → W p l e (headSpec wsX10_ends ({ frames := 1, cells := 0, slots := 0, locals := 23 } : Room)).room s m ([.ref (am (0)), .int (z), .int (p1), .int (p2), .int (p3)] : List Value).toArray below meth c H locs 0 0 (MQ below (sp_Q D (some (.int (m_endr μ z p1 p2 p3))) (mW am cy (m_ends μ ch z p1 p2 p3)) (sp_A am 5 s.heap.size)) ([.ref (am (0)), .int (z), .int (p1), .int (p2), .int (p3)] : List Value).toArray s 0 0 (sp_A am 5 s.heap.size)) (F0 m 61 ls []) := by
            intro fu
            induction fu with
            | zero => intro i H locs hle hlt hi_0 hP hS ls hl; exact absurd hlt (Nat.not_lt_zero _)
            | succ fu ih =>
              intro i H locs hle hlt hi_0 hP hS ls hl
              refine lv_iload hx hb dX10_ends_61 (lv_at hl 0 rfl) ?_
              refine lv_bipush (v := 8) hx hb dX10_ends_63 (by decide) ?_
              refine lv_icmp_ge (tgt := 84) hx hb dX10_ends_65 (by decide) (fun c_12 => ?_) (fun c_12 => ?_)
              · skip
                have c_12d := Int32.not_lt.mpr c_12
                have hx_i : i = 8 := by have := (nI_leI (a := 8) (b := i) (by omega) (by omega)).mp c_12; omega
                try rw [hx_i] at hi_0
                rw [hx_i] at hP
                refine lv_aload_n hx hb dX10_ends_84 rfl (lv_at hl 1 rfl) ?_
                refine lv_dup hx hb dX10_ends_85 rfl ?_
                refine sp_get hx hb hts wi_X10_ends_X10 hown hK hP (κ := 0) (by decide) mE_0 rfl 2 (by decide) (hts _ (List.mem_of_getElem? (i := 2) rfl)) (fun _ h => h) rfl dX10_ends_86 ?_
                refine W.eq (g2 := F0 m 89 ls [.int (nI ch), .ref (am (0))]) (by rw [(m_sh_ch hC)]) ?_
                refine lv_iconst (v := 1) hx hb dX10_ends_89 (by decide) ?_
                refine lv_isub hx hb dX10_ends_90 ?_
                refine sp_put hx hb hts wi_X10_ends_X10 tyX10 tyX10_ok nmX10 hown hK hP hi hAk hS (κ := 0) (by decide) mE_0 rfl 2 (by decide) (hts _ (List.mem_of_getElem? (i := 2) rfl)) (fun _ h => h) rfl (ty := tyX10 2) (by decide +kernel) ⟨rfl, rfl⟩ (Nat.le_of_ble_eq_true rfl) (r1 := upd ((m_sh (sp_st μ 0 0 p2) 8) 0) 2 ((nI ch) - 1)) (cE_of mE_0 (by simp [upd])) dX10_ends_91 (fun H locs hP hS => ?_)
                have hP : va_P D vwCl (mW am cy (sp_st (m_sh (sp_st μ 0 0 p2) 8) 0 2 ((nI ch) - 1))) H := hP
                refine lv_aload_n hx hb dX10_ends_94 rfl (lv_at hl 1 rfl) ?_
                refine lv_dup hx hb dX10_ends_95 rfl ?_
                refine sp_get hx hb hts wi_X10_ends_X10 hown hK hP (κ := 0) (by decide) mE_0 rfl 2 (by decide) (hts _ (List.mem_of_getElem? (i := 2) rfl)) (fun _ h => h) rfl dX10_ends_96 ?_
                refine W.eq (g2 := F0 m 99 ls [.int ((nI ch) - 1), .ref (am (0))]) (by rw [sp_st_s]) ?_
                refine lv_iconst (v := 1) hx hb dX10_ends_99 (by decide) ?_
                refine lv_iadd hx hb dX10_ends_100 ?_
                refine sp_put hx hb hts wi_X10_ends_X10 tyX10 tyX10_ok nmX10 hown hK hP hi hAk hS (κ := 0) (by decide) mE_0 rfl 2 (by decide) (hts _ (List.mem_of_getElem? (i := 2) rfl)) (fun _ h => h) rfl (ty := tyX10 2) (by decide +kernel) ⟨rfl, rfl⟩ (Nat.le_of_ble_eq_true rfl) (r1 := upd ((sp_st (m_sh (sp_st μ 0 0 p2) 8) 0 2 ((nI ch) - 1)) 0) 2 (((nI ch) - 1) + 1)) (cE_of mE_0 (by simp [upd])) dX10_ends_101 (fun H locs hP hS => ?_)
                have hP : va_P D vwCl (mW am cy (sp_st (sp_st (m_sh (sp_st μ 0 0 p2) 8) 0 2 ((nI ch) - 1)) 0 2 (((nI ch) - 1) + 1))) H := hP
                refine lv_aload_n hx hb dX10_ends_104 rfl (lv_at hl 1 rfl) ?_
                refine lv_bipush (v := 10) hx hb dX10_ends_105 (by decide) ?_
                refine lv_aload_n hx hb dX10_ends_107 rfl (lv_at hl 1 rfl) ?_
                refine sp_get hx hb hts wi_X10_ends_X10 hown hK hP (κ := 0) (by decide) mE_0 rfl 2 (by decide) (hts _ (List.mem_of_getElem? (i := 2) rfl)) (fun _ h => h) rfl dX10_ends_108 ?_
                refine W.eq (g2 := F0 m 111 ls [.int (((nI ch) - 1) + 1), .int (10), .ref (am (0))]) (by rw [sp_st_s]) ?_
                refine W.eq (g2 := F0 m 111 ls [.int (nI ((ch - 1) + 1)), .int (10), .ref (am (0))]) (by rw [show (((nI ch) - 1) + 1 : Int32) = nI ((ch - 1) + 1) from (nI_addE (nI_subE rfl rfl (by omega)) rfl)]) ?_
                refine sp_callm (va_runV (As := [.int (10), .int (nI ((ch - 1) + 1))]) (rest := []) ⟨hx, hb, hml, hown, hts⟩ (c_X10_copies l D am cy (sp_st (sp_st (m_sh (sp_st μ 0 0 p2) 8) 0 2 ((nI ch) - 1)) 0 2 (((nI ch) - 1) + 1)) _ hi 10 (by omega) ((ch - 1) + 1) (by omega) (by omega)) (cwV 2 hts gX10_ends_X10_copies rfl rfl rfl (by decide +kernel) ⟨Nat.le_of_ble_eq_true rfl, Nat.le_of_ble_eq_true rfl⟩) (sp_preVm hK hP (κ := 0) (by decide) mE_0 rfl) rfl rfl hl.1 rfl (lv_room (Nat.le_of_ble_eq_true rfl)) dX10_ends_111 ⟨Nat.le_of_ble_eq_true rfl, Nat.le_of_ble_eq_true rfl⟩) hS (fun q h1 h2 => sp_Alt h1 h2) (sp_Ale hS.1) (fun H locs hP hle hfr hS => ?_)
                refine W.eq (g2 := F0 m 114 ls []) rfl ?_
                refine lv_aload_n hx hb dX10_ends_114 rfl (lv_at hl 1 rfl) ?_
                refine sp_get hx hb hts wi_X10_ends_X10 hown hK hP (κ := 0) (by decide) mE_0 rfl 4 (by decide) (hts _ (List.mem_of_getElem? (i := 3) rfl)) (fun _ h => h) rfl dX10_ends_115 ?_
                refine W.eq (g2 := F0 m 118 ls [.int (μ 0 4)]) (by rw [(show m_copy (sp_st (sp_st (m_sh (sp_st μ 0 0 p2) 8) 0 2 ((nI ch) - 1)) 0 2 (((nI ch) - 1) + 1)) 10 ((ch - 1) + 1) 0 4 = μ 0 4 from (by simp [m_copy0, m_sh0, sp_st_at]))]) ?_
                have hE9 : mW am cy (m_copy (sp_st (sp_st (m_sh (sp_st μ 0 0 p2) 8) 0 2 ((nI ch) - 1)) 0 2 (((nI ch) - 1) + 1)) 10 ((ch - 1) + 1)) = mW am cy (m_ends μ ch z p1 p2 p3) := by exact mW_eq (by simp [m_ends, m_endv, m_done, b2i, c_1, c_2, c_10, c_11])
                have hP : va_P D vwCl (mW am cy (m_ends μ ch z p1 p2 p3)) H := by rw [← hE9]; exact hP
                exact W.iret (v := μ 0 4) hx hb hr (fun T9 hT9 _ => ⟨congrArg (fun z9 => Outcome.returned (some (Value.int z9))) (show (μ 0 4 : Int32) = m_endr μ z p1 p2 p3 from (by simp [m_endr, m_endv, b2i, c_1, c_2, c_10, c_11])), by rw [hT9]; exact hP, hS.F hT9⟩) hS.2.2 dX10_ends_118
              · skip
                have c_12d := Int32.not_le.mp c_12
                have hb_i : i < 8 := Nat.lt_of_not_le (fun z => c_12 (nI_le z (by omega)))
                refine lv_aload_n hx hb dX10_ends_68 rfl (lv_at hl 1 rfl) ?_
                refine lv_iload hx hb dX10_ends_69 (lv_at hl 0 rfl) ?_
                refine lv_iconst (v := 1) hx hb dX10_ends_71 (by decide) ?_
                refine lv_iadd hx hb dX10_ends_72 ?_
                refine lv_iload hx hb dX10_ends_73 (lv_at hl 0 rfl) ?_
                refine W.eq (g2 := F0 m 75 ls [.int (nI i), .int (nI (i + 1)), .ref (am (0))]) (by rw [show ((nI i) + 1 : Int32) = nI (i + 1) from (nI_addE rfl rfl)]) ?_
                refine sp_callm (va_runV (As := [.int (nI (i + 1)), .int (nI i)]) (rest := []) ⟨hx, hb, hml, hown, hts⟩ (c_X10_copies l D am cy (m_sh (sp_st μ 0 0 p2) i) _ hi (i + 1) (by omega) i (by omega) (by omega)) (cwV 2 hts gX10_ends_X10_copies rfl rfl rfl (by decide +kernel) ⟨Nat.le_of_ble_eq_true rfl, Nat.le_of_ble_eq_true rfl⟩) (sp_preVm hK hP (κ := 0) (by decide) mE_0 rfl) rfl rfl hl.1 rfl (lv_room (Nat.le_of_ble_eq_true rfl)) dX10_ends_75 ⟨Nat.le_of_ble_eq_true rfl, Nat.le_of_ble_eq_true rfl⟩) hS (fun q h1 h2 => sp_Alt h1 h2) (sp_Ale hS.1) (fun H locs hP hle hfr hS => ?_)
                refine W.eq (g2 := F0 m 78 ls []) rfl ?_
                refine lv_iinc (v := nI (i + 1)) (lv' := [(5, .int (nI (i + 1))), (0, .ref (am (0))), (1, .int (z)), (2, .int (p1)), (3, .int (p2)), (4, .int (p3))]) hx hb dX10_ends_78 hl (k := 0) rfl (nI_1 _) (by decide) rfl (fun ls hl => ?_)
                refine lv_goto (tgt := 61) hx hb dX10_ends_81 (by decide) ?_
                exact ih (i + 1)  _ _ (by omega) (by omega) (by omega) ((show mW am cy (m_copy (m_sh (sp_st μ 0 0 p2) i) (i + 1) i) = mW am cy (m_sh (sp_st μ 0 0 p2) (i + 1)) from (by exact mW_eq (m_sh_s (by omega)))) ▸ hP) hS ls (lv_sub hl [0, 1, 2, 3, 4, 5] rfl)
          exact loop_61 (8 + 1) (1)  _ _ (by omega) (by omega) (Nat.le_refl 1) ((show mW am cy (sp_st μ 0 0 p2) = mW am cy (m_sh (sp_st μ 0 0 p2) 1) from (by rfl)) ▸ hP) hS ls (lv_sub hl [0, 1, 2, 3, 4, 5] rfl)
      · skip
        refine lv_aload_n hx hb dX10_ends_40 rfl (lv_at hl 0 rfl) ?_
        refine lv_bipush (v := 10) hx hb dX10_ends_41 (by decide) ?_
        refine lv_iconst (v := 0) hx hb dX10_ends_43 (by decide) ?_
        refine sp_callm (va_runV (As := [.int (10), .int (0)]) (rest := []) ⟨hx, hb, hml, hown, hts⟩ (c_X10_copies l D am cy (sp_st μ 0 0 p2) _ hi 10 (by omega) 0 (by omega) (by omega)) (cwV 2 hts gX10_ends_X10_copies rfl rfl rfl (by decide +kernel) ⟨Nat.le_of_ble_eq_true rfl, Nat.le_of_ble_eq_true rfl⟩) (sp_preVm hK hP (κ := 0) (by decide) mE_0 rfl) rfl rfl hl.1 rfl (lv_room (Nat.le_of_ble_eq_true rfl)) dX10_ends_44 ⟨Nat.le_of_ble_eq_true rfl, Nat.le_of_ble_eq_true rfl⟩) hS (fun q h1 h2 => sp_Alt h1 h2) (sp_Ale hS.1) (fun H locs hP hle hfr hS => ?_)
        refine W.eq (g2 := F0 m 47 ls []) rfl ?_
        refine lv_iconst (v := 0) hx hb dX10_ends_47 (by decide) ?_
        have hE9 : mW am cy (m_copy (sp_st μ 0 0 p2) 10 0) = mW am cy (m_ends μ ch z p1 p2 p3) := by exact mW_eq (by simp [m_ends, m_endv, m_done, b2i, c_1, c_2, c_10])
        have hP : va_P D vwCl (mW am cy (m_ends μ ch z p1 p2 p3)) H := by rw [← hE9]; exact hP
        exact W.iret (v := 0) hx hb hr (fun T9 hT9 _ => ⟨congrArg (fun z9 => Outcome.returned (some (Value.int z9))) (show (0 : Int32) = m_endr μ z p1 p2 p3 from (by simp [m_endr, m_endv, b2i, c_1, c_2, c_10])), by rw [hT9]; exact hP, hS.F hT9⟩) hS.2.2 dX10_ends_48
  · skip
    refine lv_iload_n hx hb dX10_ends_6 rfl (lv_at hl 2 rfl) ?_
    refine lv_goto (tgt := 30) hx hb dX10_ends_7 (by decide) ?_
    refine sp_put hx hb hts wi_X10_ends_X10 tyX10 tyX10_ok nmX10 hown hK hP hi hAk hS (κ := 0) (by decide) mE_0 rfl 0 (by decide) (hts _ (List.mem_of_getElem? (i := 1) rfl)) (fun _ h => h) rfl (ty := tyX10 0) (by decide +kernel) ⟨rfl, rfl⟩ (Nat.le_of_ble_eq_true rfl) (r1 := upd (μ 0) 0 p1) (cE_of mE_0 (by simp [upd])) dX10_ends_30 (fun H locs hP hS => ?_)
    have hP : va_P D vwCl (mW am cy (sp_st μ 0 0 p1)) H := hP
    refine lv_aload_n hx hb dX10_ends_33 rfl (lv_at hl 0 rfl) ?_
    refine sp_get hx hb hts wi_X10_ends_X10 hown hK hP (κ := 0) (by decide) mE_0 rfl 0 (by decide) (hts _ (List.mem_of_getElem? (i := 1) rfl)) (fun _ h => h) rfl dX10_ends_34 ?_
    refine W.eq (g2 := F0 m 37 ls [.int (p1)]) (by rw [sp_st_s]) ?_
    refine lv_if_eq (tgt := 49) hx hb dX10_ends_37 (by decide) (fun c_13 => ?_) (fun c_13 => ?_)
    · skip
      refine lv_aload_n hx hb dX10_ends_49 rfl (lv_at hl 0 rfl) ?_
      refine sp_get hx hb hts wi_X10_ends_X10 hown hK hP (κ := 0) (by decide) mE_0 rfl 2 (by decide) (hts _ (List.mem_of_getElem? (i := 2) rfl)) (fun _ h => h) rfl dX10_ends_50 ?_
      refine W.eq (g2 := F0 m 53 ls [.int (μ 0 2)]) (by rw [sp_st_j _ _ _ _ _ _ (by decide)]) ?_
      refine W.eq (g2 := F0 m 53 ls [.int (nI ch)]) (by rw [hC]) ?_
      refine lv_bipush (v := 8) hx hb dX10_ends_53 (by decide) ?_
      refine lv_icmp_ne (tgt := 94) hx hb dX10_ends_55 (by decide) (fun c_14 => ?_) (fun c_14 => ?_)
      · skip
        have hc9 : ch < 8 := nI_lt8 c_14 hc8
        refine lv_aload_n hx hb dX10_ends_94 rfl (lv_at hl 0 rfl) ?_
        refine lv_dup hx hb dX10_ends_95 rfl ?_
        refine sp_get hx hb hts wi_X10_ends_X10 hown hK hP (κ := 0) (by decide) mE_0 rfl 2 (by decide) (hts _ (List.mem_of_getElem? (i := 2) rfl)) (fun _ h => h) rfl dX10_ends_96 ?_
        refine W.eq (g2 := F0 m 99 ls [.int (μ 0 2), .ref (am (0))]) (by rw [sp_st_j _ _ _ _ _ _ (by decide)]) ?_
        refine W.eq (g2 := F0 m 99 ls [.int (nI ch), .ref (am (0))]) (by rw [hC]) ?_
        refine lv_iconst (v := 1) hx hb dX10_ends_99 (by decide) ?_
        refine lv_iadd hx hb dX10_ends_100 ?_
        refine sp_put hx hb hts wi_X10_ends_X10 tyX10 tyX10_ok nmX10 hown hK hP hi hAk hS (κ := 0) (by decide) mE_0 rfl 2 (by decide) (hts _ (List.mem_of_getElem? (i := 2) rfl)) (fun _ h => h) rfl (ty := tyX10 2) (by decide +kernel) ⟨rfl, rfl⟩ (Nat.le_of_ble_eq_true rfl) (r1 := upd ((sp_st μ 0 0 p1) 0) 2 ((nI ch) + 1)) (cE_of mE_0 (by simp [upd])) dX10_ends_101 (fun H locs hP hS => ?_)
        have hP : va_P D vwCl (mW am cy (sp_st (sp_st μ 0 0 p1) 0 2 ((nI ch) + 1))) H := hP
        refine lv_aload_n hx hb dX10_ends_104 rfl (lv_at hl 0 rfl) ?_
        refine lv_bipush (v := 10) hx hb dX10_ends_105 (by decide) ?_
        refine lv_aload_n hx hb dX10_ends_107 rfl (lv_at hl 0 rfl) ?_
        refine sp_get hx hb hts wi_X10_ends_X10 hown hK hP (κ := 0) (by decide) mE_0 rfl 2 (by decide) (hts _ (List.mem_of_getElem? (i := 2) rfl)) (fun _ h => h) rfl dX10_ends_108 ?_
        refine W.eq (g2 := F0 m 111 ls [.int ((nI ch) + 1), .int (10), .ref (am (0))]) (by rw [sp_st_s]) ?_
        refine W.eq (g2 := F0 m 111 ls [.int (nI (ch + 1)), .int (10), .ref (am (0))]) (by rw [show ((nI ch) + 1 : Int32) = nI (ch + 1) from (nI_addE rfl rfl)]) ?_
        refine sp_callm (va_runV (As := [.int (10), .int (nI (ch + 1))]) (rest := []) ⟨hx, hb, hml, hown, hts⟩ (c_X10_copies l D am cy (sp_st (sp_st μ 0 0 p1) 0 2 ((nI ch) + 1)) _ hi 10 (by omega) (ch + 1) (by omega) (by omega)) (cwV 2 hts gX10_ends_X10_copies rfl rfl rfl (by decide +kernel) ⟨Nat.le_of_ble_eq_true rfl, Nat.le_of_ble_eq_true rfl⟩) (sp_preVm hK hP (κ := 0) (by decide) mE_0 rfl) rfl rfl hl.1 rfl (lv_room (Nat.le_of_ble_eq_true rfl)) dX10_ends_111 ⟨Nat.le_of_ble_eq_true rfl, Nat.le_of_ble_eq_true rfl⟩) hS (fun q h1 h2 => sp_Alt h1 h2) (sp_Ale hS.1) (fun H locs hP hle hfr hS => ?_)
        refine W.eq (g2 := F0 m 114 ls []) rfl ?_
        refine lv_aload_n hx hb dX10_ends_114 rfl (lv_at hl 0 rfl) ?_
        refine sp_get hx hb hts wi_X10_ends_X10 hown hK hP (κ := 0) (by decide) mE_0 rfl 4 (by decide) (hts _ (List.mem_of_getElem? (i := 3) rfl)) (fun _ h => h) rfl dX10_ends_115 ?_
        refine W.eq (g2 := F0 m 118 ls [.int (μ 0 4)]) (by rw [(show m_copy (sp_st (sp_st μ 0 0 p1) 0 2 ((nI ch) + 1)) 10 (ch + 1) 0 4 = μ 0 4 from (by simp [m_copy0, m_sh0, sp_st_at]))]) ?_
        have hE9 : mW am cy (m_copy (sp_st (sp_st μ 0 0 p1) 0 2 ((nI ch) + 1)) 10 (ch + 1)) = mW am cy (m_ends μ ch z p1 p2 p3) := by exact mW_eq (by simp [m_ends, m_endv, m_done, b2i, c_1, c_13, c_14])
        have hP : va_P D vwCl (mW am cy (m_ends μ ch z p1 p2 p3)) H := by rw [← hE9]; exact hP
        exact W.iret (v := μ 0 4) hx hb hr (fun T9 hT9 _ => ⟨congrArg (fun z9 => Outcome.returned (some (Value.int z9))) (show (μ 0 4 : Int32) = m_endr μ z p1 p2 p3 from (by simp [m_endr, m_endv, b2i, c_1, c_13, c_14])), by rw [hT9]; exact hP, hS.F hT9⟩) hS.2.2 dX10_ends_118
      · skip
        have hc9 : ch = 8 := nI_eq8 c_14 hc8
        refine lv_iconst (v := 1) hx hb dX10_ends_58 (by decide) ?_
        refine lv_istore (lv' := [(5, .int (1)), (0, .ref (am (0))), (1, .int (z)), (2, .int (p1)), (3, .int (p2)), (4, .int (p3))]) hx hb dX10_ends_59 hl (by decide) rfl (fun ls hl => ?_)
        have loop_61 : ∀ (fu i : Nat) (H : Heap) (locs : List Loc), (i ≤ 8) → (8 - i < fu) → (1 ≤ i) → (va_P D vwCl (mW am cy (m_sh (sp_st μ 0 0 p1) i)) H) → (va_S (sp_A am 5 s.heap.size) s.heap H locs) → ∀ ls : Array Slot, lv_has ls 6 [(5, .int (nI i)), (0, .ref (am (0))), (1, .int (z)), (2, .int (p1)), (3, .int (p2)), (4, .int (p3))] → W p l e (headSpec wsX10_ends ({ frames := 1, cells := 0, slots := 0, locals := 23 } : Room)).room s m ([.ref (am (0)), .int (z), .int (p1), .int (p2), .int (p3)] : List Value).toArray below meth c H locs 0 0 (MQ below (sp_Q D (some (.int (m_endr μ z p1 p2 p3))) (mW am cy (m_ends μ ch z p1 p2 p3)) (sp_A am 5 s.heap.size)) ([.ref (am (0)), .int (z), .int (p1), .int (p2), .int (p3)] : List Value).toArray s 0 0 (sp_A am 5 s.heap.size)) (F0 m 61 ls []) := by
          intro fu
          induction fu with
          | zero => intro i H locs hle hlt hi_0 hP hS ls hl; exact absurd hlt (Nat.not_lt_zero _)
          | succ fu ih =>
            intro i H locs hle hlt hi_0 hP hS ls hl
            refine lv_iload hx hb dX10_ends_61 (lv_at hl 0 rfl) ?_
            refine lv_bipush (v := 8) hx hb dX10_ends_63 (by decide) ?_
            refine lv_icmp_ge (tgt := 84) hx hb dX10_ends_65 (by decide) (fun c_15 => ?_) (fun c_15 => ?_)
            · skip
              have c_15d := Int32.not_lt.mpr c_15
              have hx_i : i = 8 := by have := (nI_leI (a := 8) (b := i) (by omega) (by omega)).mp c_15; omega
              try rw [hx_i] at hi_0
              rw [hx_i] at hP
              refine lv_aload_n hx hb dX10_ends_84 rfl (lv_at hl 1 rfl) ?_
              refine lv_dup hx hb dX10_ends_85 rfl ?_
              refine sp_get hx hb hts wi_X10_ends_X10 hown hK hP (κ := 0) (by decide) mE_0 rfl 2 (by decide) (hts _ (List.mem_of_getElem? (i := 2) rfl)) (fun _ h => h) rfl dX10_ends_86 ?_
              refine W.eq (g2 := F0 m 89 ls [.int (nI ch), .ref (am (0))]) (by rw [(m_sh_ch hC)]) ?_
              refine lv_iconst (v := 1) hx hb dX10_ends_89 (by decide) ?_
              refine lv_isub hx hb dX10_ends_90 ?_
              refine sp_put hx hb hts wi_X10_ends_X10 tyX10 tyX10_ok nmX10 hown hK hP hi hAk hS (κ := 0) (by decide) mE_0 rfl 2 (by decide) (hts _ (List.mem_of_getElem? (i := 2) rfl)) (fun _ h => h) rfl (ty := tyX10 2) (by decide +kernel) ⟨rfl, rfl⟩ (Nat.le_of_ble_eq_true rfl) (r1 := upd ((m_sh (sp_st μ 0 0 p1) 8) 0) 2 ((nI ch) - 1)) (cE_of mE_0 (by simp [upd])) dX10_ends_91 (fun H locs hP hS => ?_)
              have hP : va_P D vwCl (mW am cy (sp_st (m_sh (sp_st μ 0 0 p1) 8) 0 2 ((nI ch) - 1))) H := hP
              refine lv_aload_n hx hb dX10_ends_94 rfl (lv_at hl 1 rfl) ?_
              refine lv_dup hx hb dX10_ends_95 rfl ?_
              refine sp_get hx hb hts wi_X10_ends_X10 hown hK hP (κ := 0) (by decide) mE_0 rfl 2 (by decide) (hts _ (List.mem_of_getElem? (i := 2) rfl)) (fun _ h => h) rfl dX10_ends_96 ?_
              refine W.eq (g2 := F0 m 99 ls [.int ((nI ch) - 1), .ref (am (0))]) (by rw [sp_st_s]) ?_
              refine lv_iconst (v := 1) hx hb dX10_ends_99 (by decide) ?_
              refine lv_iadd hx hb dX10_ends_100 ?_
              refine sp_put hx hb hts wi_X10_ends_X10 tyX10 tyX10_ok nmX10 hown hK hP hi hAk hS (κ := 0) (by decide) mE_0 rfl 2 (by decide) (hts _ (List.mem_of_getElem? (i := 2) rfl)) (fun _ h => h) rfl (ty := tyX10 2) (by decide +kernel) ⟨rfl, rfl⟩ (Nat.le_of_ble_eq_true rfl) (r1 := upd ((sp_st (m_sh (sp_st μ 0 0 p1) 8) 0 2 ((nI ch) - 1)) 0) 2 (((nI ch) - 1) + 1)) (cE_of mE_0 (by simp [upd])) dX10_ends_101 (fun H locs hP hS => ?_)
              have hP : va_P D vwCl (mW am cy (sp_st (sp_st (m_sh (sp_st μ 0 0 p1) 8) 0 2 ((nI ch) - 1)) 0 2 (((nI ch) - 1) + 1))) H := hP
              refine lv_aload_n hx hb dX10_ends_104 rfl (lv_at hl 1 rfl) ?_
              refine lv_bipush (v := 10) hx hb dX10_ends_105 (by decide) ?_
              refine lv_aload_n hx hb dX10_ends_107 rfl (lv_at hl 1 rfl) ?_
              refine sp_get hx hb hts wi_X10_ends_X10 hown hK hP (κ := 0) (by decide) mE_0 rfl 2 (by decide) (hts _ (List.mem_of_getElem? (i := 2) rfl)) (fun _ h => h) rfl dX10_ends_108 ?_
              refine W.eq (g2 := F0 m 111 ls [.int (((nI ch) - 1) + 1), .int (10), .ref (am (0))]) (by rw [sp_st_s]) ?_
              refine W.eq (g2 := F0 m 111 ls [.int (nI ((ch - 1) + 1)), .int (10), .ref (am (0))]) (by rw [show (((nI ch) - 1) + 1 : Int32) = nI ((ch - 1) + 1) from (nI_addE (nI_subE rfl rfl (by omega)) rfl)]) ?_
              refine sp_callm (va_runV (As := [.int (10), .int (nI ((ch - 1) + 1))]) (rest := []) ⟨hx, hb, hml, hown, hts⟩ (c_X10_copies l D am cy (sp_st (sp_st (m_sh (sp_st μ 0 0 p1) 8) 0 2 ((nI ch) - 1)) 0 2 (((nI ch) - 1) + 1)) _ hi 10 (by omega) ((ch - 1) + 1) (by omega) (by omega)) (cwV 2 hts gX10_ends_X10_copies rfl rfl rfl (by decide +kernel) ⟨Nat.le_of_ble_eq_true rfl, Nat.le_of_ble_eq_true rfl⟩) (sp_preVm hK hP (κ := 0) (by decide) mE_0 rfl) rfl rfl hl.1 rfl (lv_room (Nat.le_of_ble_eq_true rfl)) dX10_ends_111 ⟨Nat.le_of_ble_eq_true rfl, Nat.le_of_ble_eq_true rfl⟩) hS (fun q h1 h2 => sp_Alt h1 h2) (sp_Ale hS.1) (fun H locs hP hle hfr hS => ?_)
              refine W.eq (g2 := F0 m 114 ls []) rfl ?_
              refine lv_aload_n hx hb dX10_ends_114 rfl (lv_at hl 1 rfl) ?_
              refine sp_get hx hb hts wi_X10_ends_X10 hown hK hP (κ := 0) (by decide) mE_0 rfl 4 (by decide) (hts _ (List.mem_of_getElem? (i := 3) rfl)) (fun _ h => h) rfl dX10_ends_115 ?_
              refine W.eq (g2 := F0 m 118 ls [.int (μ 0 4)]) (by rw [(show m_copy (sp_st (sp_st (m_sh (sp_st μ 0 0 p1) 8) 0 2 ((nI ch) - 1)) 0 2 (((nI ch) - 1) + 1)) 10 ((ch - 1) + 1) 0 4 = μ 0 4 from (by simp [m_copy0, m_sh0, sp_st_at]))]) ?_
              have hE9 : mW am cy (m_copy (sp_st (sp_st (m_sh (sp_st μ 0 0 p1) 8) 0 2 ((nI ch) - 1)) 0 2 (((nI ch) - 1) + 1)) 10 ((ch - 1) + 1)) = mW am cy (m_ends μ ch z p1 p2 p3) := by exact mW_eq (by simp [m_ends, m_endv, m_done, b2i, c_1, c_13, c_14])
              have hP : va_P D vwCl (mW am cy (m_ends μ ch z p1 p2 p3)) H := by rw [← hE9]; exact hP
              exact W.iret (v := μ 0 4) hx hb hr (fun T9 hT9 _ => ⟨congrArg (fun z9 => Outcome.returned (some (Value.int z9))) (show (μ 0 4 : Int32) = m_endr μ z p1 p2 p3 from (by simp [m_endr, m_endv, b2i, c_1, c_13, c_14])), by rw [hT9]; exact hP, hS.F hT9⟩) hS.2.2 dX10_ends_118
            · skip
              have c_15d := Int32.not_le.mp c_15
              have hb_i : i < 8 := Nat.lt_of_not_le (fun z => c_15 (nI_le z (by omega)))
              refine lv_aload_n hx hb dX10_ends_68 rfl (lv_at hl 1 rfl) ?_
              refine lv_iload hx hb dX10_ends_69 (lv_at hl 0 rfl) ?_
              refine lv_iconst (v := 1) hx hb dX10_ends_71 (by decide) ?_
              refine lv_iadd hx hb dX10_ends_72 ?_
              refine lv_iload hx hb dX10_ends_73 (lv_at hl 0 rfl) ?_
              refine W.eq (g2 := F0 m 75 ls [.int (nI i), .int (nI (i + 1)), .ref (am (0))]) (by rw [show ((nI i) + 1 : Int32) = nI (i + 1) from (nI_addE rfl rfl)]) ?_
              refine sp_callm (va_runV (As := [.int (nI (i + 1)), .int (nI i)]) (rest := []) ⟨hx, hb, hml, hown, hts⟩ (c_X10_copies l D am cy (m_sh (sp_st μ 0 0 p1) i) _ hi (i + 1) (by omega) i (by omega) (by omega)) (cwV 2 hts gX10_ends_X10_copies rfl rfl rfl (by decide +kernel) ⟨Nat.le_of_ble_eq_true rfl, Nat.le_of_ble_eq_true rfl⟩) (sp_preVm hK hP (κ := 0) (by decide) mE_0 rfl) rfl rfl hl.1 rfl (lv_room (Nat.le_of_ble_eq_true rfl)) dX10_ends_75 ⟨Nat.le_of_ble_eq_true rfl, Nat.le_of_ble_eq_true rfl⟩) hS (fun q h1 h2 => sp_Alt h1 h2) (sp_Ale hS.1) (fun H locs hP hle hfr hS => ?_)
              refine W.eq (g2 := F0 m 78 ls []) rfl ?_
              refine lv_iinc (v := nI (i + 1)) (lv' := [(5, .int (nI (i + 1))), (0, .ref (am (0))), (1, .int (z)), (2, .int (p1)), (3, .int (p2)), (4, .int (p3))]) hx hb dX10_ends_78 hl (k := 0) rfl (nI_1 _) (by decide) rfl (fun ls hl => ?_)
              refine lv_goto (tgt := 61) hx hb dX10_ends_81 (by decide) ?_
              exact ih (i + 1)  _ _ (by omega) (by omega) (by omega) ((show mW am cy (m_copy (m_sh (sp_st μ 0 0 p1) i) (i + 1) i) = mW am cy (m_sh (sp_st μ 0 0 p1) (i + 1)) from (by exact mW_eq (m_sh_s (by omega)))) ▸ hP) hS ls (lv_sub hl [0, 1, 2, 3, 4, 5] rfl)
        exact loop_61 (8 + 1) (1)  _ _ (by omega) (by omega) (Nat.le_refl 1) ((show mW am cy (sp_st μ 0 0 p1) = mW am cy (m_sh (sp_st μ 0 0 p1) 1) from (by rfl)) ▸ hP) hS ls (lv_sub hl [0, 1, 2, 3, 4, 5] rfl)
    · skip
      refine lv_aload_n hx hb dX10_ends_40 rfl (lv_at hl 0 rfl) ?_
      refine lv_bipush (v := 10) hx hb dX10_ends_41 (by decide) ?_
      refine lv_iconst (v := 0) hx hb dX10_ends_43 (by decide) ?_
      refine sp_callm (va_runV (As := [.int (10), .int (0)]) (rest := []) ⟨hx, hb, hml, hown, hts⟩ (c_X10_copies l D am cy (sp_st μ 0 0 p1) _ hi 10 (by omega) 0 (by omega) (by omega)) (cwV 2 hts gX10_ends_X10_copies rfl rfl rfl (by decide +kernel) ⟨Nat.le_of_ble_eq_true rfl, Nat.le_of_ble_eq_true rfl⟩) (sp_preVm hK hP (κ := 0) (by decide) mE_0 rfl) rfl rfl hl.1 rfl (lv_room (Nat.le_of_ble_eq_true rfl)) dX10_ends_44 ⟨Nat.le_of_ble_eq_true rfl, Nat.le_of_ble_eq_true rfl⟩) hS (fun q h1 h2 => sp_Alt h1 h2) (sp_Ale hS.1) (fun H locs hP hle hfr hS => ?_)
      refine W.eq (g2 := F0 m 47 ls []) rfl ?_
      refine lv_iconst (v := 0) hx hb dX10_ends_47 (by decide) ?_
      have hE9 : mW am cy (m_copy (sp_st μ 0 0 p1) 10 0) = mW am cy (m_ends μ ch z p1 p2 p3) := by exact mW_eq (by simp [m_ends, m_endv, m_done, b2i, c_1, c_13])
      have hP : va_P D vwCl (mW am cy (m_ends μ ch z p1 p2 p3)) H := by rw [← hE9]; exact hP
      exact W.iret (v := 0) hx hb hr (fun T9 hT9 _ => ⟨congrArg (fun z9 => Outcome.returned (some (Value.int z9))) (show (0 : Int32) = m_endr μ z p1 p2 p3 from (by simp [m_endr, m_endv, b2i, c_1, c_13])), by rw [hT9]; exact hP, hS.F hT9⟩) hS.2.2 dX10_ends_48

