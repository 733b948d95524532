/-! the model's changes -/
theorem nI_lt30 {n : Nat} (h : ¬ nI n = 30) (hn : n ≤ 30) : n < 30 := by
  rcases Nat.lt_or_ge n 30 with h9 | h9
  · exact h9
  · exact absurd (show nI n = 30 by rw [show n = 30 by omega]; rfl) h
def m_cp (μ : Nat → Nat → Int32) (a b i : Nat) : Nat → Nat → Int32 := fun k j => if k = 1 ∧ 289 * b ≤ j ∧ j < 289 * b + i then μ 1 (289 * a + (j - 289 * b)) else μ k j
def m_copy (μ : Nat → Nat → Int32) (a b : Nat) : Nat → Nat → Int32 := m_cp μ a b 289
def m_rej (μ : Nat → Nat → Int32) (x y : Int32) : Nat → Nat → Int32 := sp_st (sp_st (sp_st μ 0 5 x) 0 6 y) 0 7 0
def m_by (x : Option Nat) : Int32 := match x with
  | none => 1
  | some _ => 0
/-- the print at place a goes: those behind it move up -/
def m_g1 (μ : Nat → Nat → Int32) (a i : Nat) : Nat → Nat → Int32 := fun k j => if k = 1 ∧ 19 + 9 * a ≤ j ∧ j < 19 + i then μ 1 (j + 9) else μ k j
def m_g2 (μ : Nat → Nat → Int32) (n a i : Nat) : Nat → Nat → Int32 := fun k j => if k = 1 ∧ 19 + 9 * (n - 1) ≤ j ∧ j < 19 + 9 * (n - 1) + i then 0 else m_g1 μ a (9 * (n - 1)) k j
def m_goes (μ : Nat → Nat → Int32) (n a : Nat) : Nat → Nat → Int32 := sp_st (m_g2 μ n a 9) 1 1 (nI (n - 1))
def m_addTv (t : Nat) (z : Int32) : Int32 := if m_in z 1 9 = true then (if nI t = 6 then 3 else 0) else 2
def m_addT (μ : Nat → Nat → Int32) (t : Nat) (z : Int32) : Nat → Nat → Int32 := if m_in z 1 9 = true then (if nI t = 6 then m_rej μ 1 6 else sp_st (sp_st (sp_st (sp_st (sp_st μ 0 4 (μ 1 2)) 1 2 (μ 1 2 + 1)) 1 0 (nI t + 1)) 1 (7 + 2 * t) (μ 1 2)) 1 (7 + 2 * t + 1) z) else μ
def m_mv (μ : Nat → Nat → Int32) (w a b : Nat) : Nat → Nat → Int32 := fun k j => if k = 1 ∧ a ≤ j ∧ j < b then μ 1 (j + w) else μ k j
theorem m_goes_MS {μ : Nat → Nat → Int32} {n t a : Nat} (h : MS (μ 1) n t) (ha : a < n) : MS (m_goes μ n a 1) (n - 1) t := by
  refine ⟨sp_st_s _ _ _ _, by have := h.2.1; omega, ?_, h.2.2.2⟩
  unfold m_goes
  rw [sp_st_j _ _ _ _ _ _ (by decide)]
  unfold m_g2 m_g1
  rw [if_neg (by omega), if_neg (by omega)]
  exact h.2.2.1
def S_rm (P : (Nat → Nat → Int32) → Nat → Bool) (n : Nat) (s : Nat × (Nat → Nat → Int32)) (i : Nat) : Nat × (Nat → Nat → Int32) := if P s.2 (n - 1 - i) = true then (s.1 - 1, m_goes s.2 s.1 (n - 1 - i)) else s
def m_rm (P : (Nat → Nat → Int32) → Nat → Bool) (n : Nat) (μ : Nat → Nat → Int32) (i : Nat) : Nat × (Nat → Nat → Int32) := foldI (S_rm P n) (n, μ) i
theorem m_rm_s (P : (Nat → Nat → Int32) → Nat → Bool) (n : Nat) (μ : Nat → Nat → Int32) (i : Nat) : m_rm P n μ (i + 1) = S_rm P n (m_rm P n μ i) i := rfl
theorem m_rm_MS {P : (Nat → Nat → Int32) → Nat → Bool} {n t i : Nat} {μ : Nat → Nat → Int32} (h : MS ((m_rm P n μ i).2 1) (m_rm P n μ i).1 t) (h1 : n - i ≤ (m_rm P n μ i).1) (hi : i < n) : MS ((m_rm P n μ (i + 1)).2 1) (m_rm P n μ (i + 1)).1 t := by
  rw [m_rm_s]
  unfold S_rm
  by_cases hc : P (m_rm P n μ i).2 (n - 1 - i) = true
  · rw [if_pos hc]; exact m_goes_MS h (by omega)
  · rw [if_neg hc]; exact h
theorem m_rm_le {P : (Nat → Nat → Int32) → Nat → Bool} {n i : Nat} {μ : Nat → Nat → Int32} (h1 : n - i ≤ (m_rm P n μ i).1) (hi : i < n) : n - (i + 1) ≤ (m_rm P n μ (i + 1)).1 := by
  rw [m_rm_s]
  unfold S_rm
  by_cases hc : P (m_rm P n μ i).2 (n - 1 - i) = true
  · rw [if_pos hc]; show n - (i + 1) ≤ (m_rm P n μ i).1 - 1; omega
  · rw [if_neg hc]; omega
theorem m_goes_out {μ : Nat → Nat → Int32} {n a k j : Nat} (h : k ≠ 1 ∨ (j < 19 ∧ j ≠ 1)) : m_goes μ n a k j = μ k j := by
  unfold m_goes
  rw [sp_st_at, if_neg (by omega)]
  unfold m_g2 m_g1
  rw [if_neg (by omega), if_neg (by omega)]
theorem m_rm_out {P : (Nat → Nat → Int32) → Nat → Bool} {n k j : Nat} {μ : Nat → Nat → Int32} (h : k ≠ 1 ∨ (j < 19 ∧ j ≠ 1)) : ∀ i : Nat, (m_rm P n μ i).2 k j = μ k j
  | 0 => rfl
  | i + 1 => by
    have ih := m_rm_out (P := P) (n := n) (μ := μ) h i
    rw [m_rm_s]
    unfold S_rm
    by_cases hc : P (m_rm P n μ i).2 (n - 1 - i) = true
    · rw [if_pos hc]; show m_goes _ _ _ k j = _; rw [m_goes_out h, ih]
    · rw [if_neg hc]; exact ih
def mQ_tr (x : Int32) (μ : Nat → Nat → Int32) (k : Nat) : Bool := gP (μ 1) k 1 == x
def mQ_row (v : Int32) (μ : Nat → Nat → Int32) (k : Nat) : Bool := decide (gP (μ 1) k 3 < v)
def m_rmT (τ : Nat → Nat → Int32) (t k : Nat) : Nat → Nat → Int32 := sp_st (sp_st (sp_st (m_mv τ 2 (7 + 2 * k) (7 + 2 * (t - 1))) 1 (7 + 2 * (t - 1)) 0) 1 (7 + 2 * (t - 1) + 1) 0) 1 0 (nI (t - 1))
def m_tidev (μ : Nat → Int32) (v : Int32) : Int32 := if m_in v 0 8 = true then (if μ 4 = v then 3 else 0) else 2
def m_tide (μ : Nat → Nat → Int32) (n : Nat) (v : Int32) : Nat → Nat → Int32 := if m_in v 0 8 = true then (if μ 1 4 = v then m_rej μ 9 v else sp_st (sp_st (m_rm (mQ_row v) n (sp_st μ 0 4 (m_below (μ 1) n v)) n).2 1 4 v) 1 5 (μ 1 5 + m_below (μ 1) n v)) else μ
theorem nI_eq8 {ch : Nat} (h : nI ch = 8) (hc : ch ≤ 8) : ch = 8 := by
  rcases Nat.lt_or_ge ch 8 with h9 | h9
  · have := nI_lt (a := ch) (b := 8) h9 (by decide)
    rw [h] at this
    exact absurd this (by decide)
  · omega
def m_sh (τ : Nat → Nat → Int32) : Nat → Nat → Nat → Int32
  | 0 => τ
  | 1 => τ
  | i + 2 => m_copy (m_sh τ (i + 1)) (i + 2) (i + 1)
def m_endv (z p1 p2 p3 : Int32) : Int32 := if z = 1 then p1 else if z = 2 then p2 else if z = 3 then p3 else 0
def m_endr (μ : Nat → Nat → Int32) (z p1 p2 p3 : Int32) : Int32 := if m_endv z p1 p2 p3 = 0 then μ 0 4 else 0
def m_done (τ : Nat → Nat → Int32) (ch : Nat) : Nat → Nat → Int32 := if nI ch = 8 then m_copy (sp_st (sp_st (m_sh τ 8) 0 2 (nI ch - 1)) 0 2 (nI ch - 1 + 1)) 10 (ch - 1 + 1) else m_copy (sp_st τ 0 2 (nI ch + 1)) 10 (ch + 1)
def m_ends (μ : Nat → Nat → Int32) (ch : Nat) (z p1 p2 p3 : Int32) : Nat → Nat → Int32 := if m_endv z p1 p2 p3 = 0 then m_done (sp_st μ 0 0 (m_endv z p1 p2 p3)) ch else m_copy (sp_st μ 0 0 (m_endv z p1 p2 p3)) 10 0
def m_swap (μ : Nat → Nat → Int32) (n : Nat) (x : Int32) : Nat → Nat → Int32 := atO (m_find (μ 1) n x) μ (fun k => sp_st (sp_st μ 0 4 (1 - gP (μ 1) k 5)) 1 (19 + 9 * k + 5) (1 - gP (μ 1) k 5))
def m_doub (μ : Nat → Nat → Int32) (n : Nat) (x : Int32) : Nat → Nat → Int32 := atO (m_find (μ 1) n x) μ (fun k => if gP (μ 1) k 7 = 3 then m_rej μ 7 3 else sp_st (sp_st μ 0 4 (gP (μ 1) k 7 + 1)) 1 (19 + 9 * k + 7) (gP (μ 1) k 7 + 1))
def m_conf (μ : Nat → Nat → Int32) (n : Nat) (x : Int32) : Nat → Nat → Int32 := atO (m_find (μ 1) n x) μ (fun k => if gP (μ 1) k 7 = 0 then m_rej (sp_st μ 0 4 (gP (μ 1) k 7)) 8 0 else sp_st (sp_st μ 0 4 (gP (μ 1) k 7)) 1 (19 + 9 * k + 7) 0)
def m_rmPr (μ : Nat → Nat → Int32) (n : Nat) (x : Int32) : Nat → Nat → Int32 := atO (m_find (μ 1) n x) μ (fun k => m_goes (sp_st μ 0 4 (gP (μ 1) k 1)) n k)
def m_rmTr (μ : Nat → Nat → Int32) (n t : Nat) (x : Int32) : Nat → Nat → Int32 := atO (m_ft (μ 1) t x) μ (fun k => m_rmT (m_rm (mQ_tr x) n (sp_st μ 0 4 (m_count (μ 1) n x)) n).2 t k)
/-- why a print isn't added, a heel not corrected: the reason and its detail -/
def m_objC (μ : Nat → Int32) (n : Nat) (r c1 : Int32) : Option (Int32 × Int32) := if r < μ 4 then some (4, μ 4) else match m_cell μ n r c1 with
  | none => none
  | some j => some (5, gP μ j 0)
def m_objP (μ : Nat → Int32) (n : Nat) (x u r c1 : Int32) : Option (Int32 × Int32) := if nI n = 30 then some (2, 30) else match m_time μ n x u with
  | some j => some (3, gP μ j 0)
  | none => if r < μ 4 then some (4, μ 4) else match m_cell μ n r c1 with
    | none => none
    | some j => some (5, gP μ j 0)
def m_objM (μ : Nat → Int32) (n a : Nat) (r c1 : Int32) : Option (Int32 × Int32) := if m_in (m_dist μ a r c1) 1 2 = true then (if r < μ 4 then some (4, μ 4) else match m_cell μ n r c1 with
    | none => none
    | some j => some (5, gP μ j 0)) else some (6, m_dist μ a r c1)
def m_rejO (μ : Nat → Nat → Int32) (o : Option (Int32 × Int32)) (τ : Nat → Nat → Int32) : Nat → Nat → Int32 := match o with
  | none => τ
  | some y => m_rej μ y.1 y.2
def m_new (μ : Nat → Nat → Int32) (n : Nat) (x u r c1 lf z : Int32) : Nat → Nat → Int32 := sp_st (sp_st (sp_st (sp_st (sp_st (sp_st (sp_st (sp_st (sp_st (sp_st (sp_st (sp_st μ 0 4 (μ 1 3)) 1 3 (μ 1 3 + 1)) 1 1 (nI n + 1)) 1 (19 + 9 * n + 0) (μ 1 3)) 1 (19 + 9 * n + 1) x) 1 (19 + 9 * n + 2) u) 1 (19 + 9 * n + 3) r) 1 (19 + 9 * n + 4) c1) 1 (19 + 9 * n + 5) lf) 1 (19 + 9 * n + 6) z) 1 (19 + 9 * n + 7) 0) 1 (19 + 9 * n + 8) (b2i (m_later (μ 1) n x u))
def m_addPv (μ : Nat → Int32) (n t : Nat) (x u r c1 z : Int32) : Int32 := match m_ft μ t x with
  | none => 1
  | some _ => if m_isCell r c1 = true then (if m_in u 0 999 = true ∧ m_in z 1 9 = true then (match m_objP μ n x u r c1 with | none => 0 | some _ => 3) else 2) else 1
def m_addP (μ : Nat → Nat → Int32) (n t : Nat) (x u r c1 lf z : Int32) : Nat → Nat → Int32 := match m_ft (μ 1) t x with
  | none => μ
  | some _ => if m_isCell r c1 = true then (if m_in u 0 999 = true ∧ m_in z 1 9 = true then m_rejO μ (m_objP (μ 1) n x u r c1) (m_new μ n x u r c1 lf z) else μ) else μ
def m_corv (μ : Nat → Int32) (n : Nat) (x r c1 : Int32) : Int32 := match m_find μ n x with
  | none => 1
  | some k => if m_isCell r c1 = true then (match m_objM μ n k r c1 with | none => 0 | some _ => 3) else 1
def m_cor (μ : Nat → Nat → Int32) (n : Nat) (x r c1 : Int32) : Nat → Nat → Int32 := match m_find (μ 1) n x with
  | none => μ
  | some k => if m_isCell r c1 = true then m_rejO μ (m_objM (μ 1) n k r c1) (sp_st (sp_st (sp_st (sp_st μ 1 (19 + 9 * k + 3) r) 1 (19 + 9 * k + 4) c1) 1 6 (μ 1 6 + 1)) 0 4 (m_dist (μ 1) k r c1)) else μ
