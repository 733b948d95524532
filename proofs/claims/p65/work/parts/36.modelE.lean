/-! the model's changes as calls -/
theorem m_copy1 {μ : Nat → Nat → Int32} {a b j : Nat} (h : j < 289 * b) : m_copy μ a b 1 j = μ 1 j := by unfold m_copy m_cp; rw [if_neg (by omega)]
theorem m_copy_hi {μ : Nat → Nat → Int32} {a b j : Nat} (h : 289 * b + 289 ≤ j) : m_copy μ a b 1 j = μ 1 j := by unfold m_copy m_cp; rw [if_neg (by omega)]
theorem m_copy_at {μ : Nat → Nat → Int32} {a b j : Nat} (h : 289 * b ≤ j ∧ j < 289 * b + 289) : m_copy μ a b 1 j = μ 1 (289 * a + (j - 289 * b)) := by unfold m_copy m_cp; rw [if_pos (by omega)]
theorem m_copy_k {μ : Nat → Nat → Int32} {a b k j : Nat} (h : k ≠ 1) : m_copy μ a b k j = μ k j := by unfold m_copy m_cp; rw [if_neg (by omega)]
theorem bz_ne (x : Int32) : bz x = b2i (x != 0) := by
  unfold bz
  by_cases h : x = 0
  · subst h; decide
  · rw [if_neg h, show (x != 0) = true by simpa using h]; rfl
/-- what a change leaves: all but the row and four fields -/
abbrev mfx (k j : Nat) : Prop := ¬ (k = 1 ∨ (k = 0 ∧ 4 ≤ j ∧ j ≤ 7))
def MF (μ τ : Nat → Nat → Int32) : Prop := ∀ k j, mfx k j → τ k j = μ k j
theorem MF.rf {μ : Nat → Nat → Int32} : MF μ μ := fun _ _ _ => rfl
theorem MF.st {μ τ : Nat → Nat → Int32} {k j : Nat} {v : Int32} (h : MF μ τ) (hk : k = 1 ∨ (k = 0 ∧ 4 ≤ j ∧ j ≤ 7)) : MF μ (sp_st τ k j v) := fun a b hb => by
  rw [sp_st_at, if_neg (fun z => hb (by rw [z.1, z.2]; exact hk))]; exact h a b hb
theorem MF.goes {μ τ : Nat → Nat → Int32} {n a : Nat} (h : MF μ τ) : MF μ (m_goes τ n a) := fun k j hj => by
  rw [m_goes_out (Or.inl (fun z => hj (Or.inl z)))]; exact h k j hj
theorem MF.rm {μ τ : Nat → Nat → Int32} {P : (Nat → Nat → Int32) → Nat → Bool} {n i : Nat} (h : MF μ τ) : MF μ (m_rm P n τ i).2 := fun k j hj => by
  rw [m_rm_out (Or.inl (fun z => hj (Or.inl z)))]; exact h k j hj
theorem MF.mv {μ τ : Nat → Nat → Int32} {w a b : Nat} (h : MF μ τ) : MF μ (m_mv τ w a b) := fun k j hj => by
  unfold m_mv; rw [if_neg (fun z => hj (Or.inl z.1))]; exact h k j hj
theorem MF.rej {μ τ : Nat → Nat → Int32} {x y : Int32} (h : MF μ τ) : MF μ (m_rej τ x y) := ((h.st (by decide)).st (by decide)).st (by decide)
theorem MF_new (μ : Nat → Nat → Int32) (n : Nat) (x u r c1 lf z : Int32) : MF μ (m_new μ n x u r c1 lf z) := by
  unfold m_new
  exact (((((((((((MF.rf.st (by decide)).st (Or.inl rfl)).st (Or.inl rfl)).st (Or.inl rfl)).st (Or.inl rfl)).st (Or.inl rfl)).st (Or.inl rfl)).st (Or.inl rfl)).st (Or.inl rfl)).st (Or.inl rfl)).st (Or.inl rfl)).st (Or.inl rfl)
def mF_late (μ : Nat → Int32) (k : Nat) : Int32 := gP μ k 8
