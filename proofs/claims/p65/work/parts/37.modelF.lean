/-! the model's writing -/
def m_wr (μ : Nat → Nat → Int32) (os : Nat) (x : Int32) : Nat → Nat → Int32 := sp_st (sp_st μ 2 os (cz x)) 0 10 (nI os + 1)
def m_w1 (s : Nat × (Nat → Nat → Int32)) (x : Int32) : Nat × (Nat → Nat → Int32) := (s.1 + 1, m_wr s.2 s.1 x)
def S_wt (μ : Nat → Nat → Int32) (n t : Nat) (x : Int32) (s : Nat × (Nat → Nat → Int32)) (k : Nat) : Nat × (Nat → Nat → Int32) := match m_po (μ 1) n x (nI k) with
  | none => s
  | some j =>
    if m_errs1 (μ 1) n t j ≤ 0 then
      (if gP (μ 1) j 7 ≤ 0 then m_w1 s (if gP (μ 1) j 5 = 1 then 76 else 82) else m_w1 (m_w1 s (if gP (μ 1) j 5 = 1 then 76 else 82)) 63)
    else m_w1 (if gP (μ 1) j 7 ≤ 0 then m_w1 s (if gP (μ 1) j 5 = 1 then 76 else 82) else m_w1 (m_w1 s (if gP (μ 1) j 5 = 1 then 76 else 82)) 63) 33
def m_wt (μ : Nat → Nat → Int32) (n t : Nat) (x : Int32) (i : Nat) : Nat × (Nat → Nat → Int32) := foldI (S_wt μ n t x) (0, sp_st (sp_st μ 0 0 0) 0 10 0) i
theorem m_wt_s (μ : Nat → Nat → Int32) (n t : Nat) (x : Int32) (i : Nat) : m_wt μ n t x (i + 1) = S_wt μ n t x (m_wt μ n t x i) i := rfl
theorem S_wt_3 {μ : Nat → Nat → Int32} {n t : Nat} {x : Int32} {s : Nat × (Nat → Nat → Int32)} {k : Nat} : (S_wt μ n t x s k).1 ≤ s.1 + 3 := by
  unfold S_wt
  rcases m_po (μ 1) n x (nI k) with _ | j
  · show s.1 ≤ s.1 + 3; omega
  · show (if _ then _ else _ : Nat × (Nat → Nat → Int32)).1 ≤ s.1 + 3
    split
    · split
      · show s.1 + 1 ≤ s.1 + 3; omega
      · show s.1 + 1 + 1 ≤ s.1 + 3; omega
    · split
      · show s.1 + 1 + 1 ≤ s.1 + 3; omega
      · show s.1 + 1 + 1 + 1 ≤ s.1 + 3; omega
theorem m_wt_le {μ : Nat → Nat → Int32} {n t : Nat} {x : Int32} {i : Nat} (h : (m_wt μ n t x i).1 ≤ 3 * i) : (m_wt μ n t x (i + 1)).1 ≤ 3 * (i + 1) := by
  rw [m_wt_s]
  have := S_wt_3 (μ := μ) (n := n) (t := t) (x := x) (s := m_wt μ n t x i) (k := i)
  omega
def m_sg (μ : Nat → Int32) (n : Nat) (r c1 : Int32) : Int32 := if r < μ 4 then 126 else match m_cell μ n r c1 with
  | none => 46
  | some k => 48 + (gP μ k 0 - gP μ k 0 / 10 * 10)
def m_wo (μ : Nat → Nat → Int32) (n : Nat) (r : Int32) : Nat → Nat → Nat → Int32
  | 0 => sp_st (sp_st μ 0 0 0) 0 10 0
  | i + 1 => m_wr (m_wo μ n r i) i (m_sg (μ 1) n r (nI i))
theorem m_wo_s (μ : Nat → Nat → Int32) (n : Nat) (r : Int32) (i : Nat) : m_wo μ n r (i + 1) = m_wr (m_wo μ n r i) i (m_sg (μ 1) n r (nI i)) := rfl
