/-! the model's commands done -/
theorem m_rm_ok {P : (Nat → Nat → Int32) → Nat → Bool} {n t : Nat} {μ : Nat → Nat → Int32} (h : MS (μ 1) n t) : ∀ i : Nat, i ≤ n → MS ((m_rm P n μ i).2 1) (m_rm P n μ i).1 t ∧ n - i ≤ (m_rm P n μ i).1
  | 0, _ => ⟨h, Nat.le_refl _⟩
  | i + 1, hi => by
    obtain ⟨h1, h2⟩ := m_rm_ok (P := P) h i (by omega)
    exact ⟨m_rm_MS h1 h2 (by omega), m_rm_le h2 (by omega)⟩
theorem MS.rej {μ : Nat → Nat → Int32} {n t : Nat} {x y : Int32} (h : MS (μ 1) n t) : MS (m_rej μ x y 1) n t := h.st0.st0.st0
theorem MS_new {μ : Nat → Nat → Int32} {n t : Nat} {x u r c1 lf z : Int32} (h : MS (μ 1) n t) (hn : n < 30) : MS (m_new μ n x u r c1 lf z 1) (n + 1) t := by
  unfold m_new
  refine MS.st (MS.st (MS.st (MS.st (MS.st (MS.st (MS.st (MS.st (MS.st ?_ (by omega)) (by omega)) (by omega)) (by omega)) (by omega)) (by omega)) (by omega)) (by omega)) (by omega)
  refine ⟨?_, by omega, ?_, h.2.2.2⟩
  · rw [sp_st_s]; exact nI_1 n
  · rw [sp_st_j _ _ _ _ _ _ (by decide), sp_st_j _ _ _ _ _ _ (by decide), sp_st_k _ _ _ _ _ _ (by decide)]; exact h.2.2.1
/-- what reading the input leaves -/
abbrev pfx (k j : Nat) : Prop := ¬ (k = 4 ∨ (k = 0 ∧ (j = 13 ∨ j = 14 ∨ j = 17)))
def PF (μ τ : Nat → Nat → Int32) : Prop := ∀ k j, pfx k j → τ k j = μ k j
theorem PF.rf {μ : Nat → Nat → Int32} : PF μ μ := fun _ _ _ => rfl
theorem PF.st {μ τ : Nat → Nat → Int32} {k j : Nat} {v : Int32} (h : PF μ τ) (hk : k = 4 ∨ (k = 0 ∧ (j = 13 ∨ j = 14 ∨ j = 17))) : PF μ (sp_st τ k j v) := fun a b hb => by
  rw [sp_st_at, if_neg (fun z => hb (by rw [z.1, z.2]; exact hk))]; exact h a b hb
