/-! the model's orders, suggestions, input -/
def mF_pd (μ : Nat → Int32) (k j : Nat) : Int32 := b2i (decide (0 < gP μ j 7 - gP μ k 7) || (gP μ j 7 - gP μ k 7 == 0 && (decide (0 < gP μ k 2 - gP μ j 2) || (gP μ k 2 - gP μ j 2 == 0 && decide (nI j < nI k)))))
def mP_pd (μ : Nat → Int32) (n : Nat) (q : Int32) (k : Nat) : Bool := sumI (mF_pd μ k) n == q
def mF_te (μ : Nat → Int32) (n t k j : Nat) : Int32 := b2i (decide (0 < m_errs μ n t (gT μ j) - m_errs μ n t (gT μ k)) || (m_errs μ n t (gT μ j) - m_errs μ n t (gT μ k) == 0 && (decide (0 < m_count μ n (gT μ j) - m_count μ n (gT μ k)) || (m_count μ n (gT μ j) - m_count μ n (gT μ k) == 0 && decide (nI j < nI k)))))
def mP_te (μ : Nat → Int32) (n t : Nat) (q : Int32) (k : Nat) : Bool := sumI (mF_te μ n t k) t == q
def S_sug (μ : Nat → Int32) (n t k : Nat) (x : Int32 × Int32) (i : Nat) : Int32 × Int32 :=
  if m_may μ n k (nI i / 20) (nI i - nI i / 20 * 20) = true then
    (if 1000 * m_there μ n t k (nI i / 20) (nI i - nI i / 20 * 20) + m_dist μ k (nI i / 20) (nI i - nI i / 20 * 20) < x.2 then (nI i, 1000 * m_there μ n t k (nI i / 20) (nI i - nI i / 20 * 20) + m_dist μ k (nI i / 20) (nI i - nI i / 20 * 20)) else x)
  else x
def m_sug (μ : Nat → Int32) (n t k : Nat) : Int32 := (foldI (S_sug μ n t k) (20 * gP μ k 3 + gP μ k 4, 1000 * m_errs μ n t (gP μ k 1)) 200).1
/-- the input's numbers: at most 60 typed, here not below 0 -/
def MI (μ : Nat → Nat → Int32) : Prop := 0 ≤ μ 0 13 ∧ μ 0 12 ≤ 60
theorem MI.st {μ : Nat → Nat → Int32} {k j : Nat} {v : Int32} (h : MI μ) (hj : ¬ (k = 0 ∧ (j = 12 ∨ j = 13))) : MI (sp_st μ k j v) := by
  unfold MI; rw [sp_st_at, sp_st_at, if_neg (by omega), if_neg (by omega)]; exact h
