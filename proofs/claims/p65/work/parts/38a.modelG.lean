/-! the model's input -/
/-- from one state to another: the input stays, the place grows -/
def MG (μ τ : Nat → Nat → Int32) : Prop := MI τ ∧ μ 0 13 ≤ τ 0 13 ∧ τ 0 12 = μ 0 12
theorem MG.rf {μ : Nat → Nat → Int32} (h : MI μ) : MG μ μ := ⟨h, Int32.le_refl _, rfl⟩
theorem MG.st {μ τ : Nat → Nat → Int32} {k j : Nat} {v : Int32} (h : MG μ τ) (hj : ¬ (k = 0 ∧ (j = 12 ∨ j = 13))) : MG μ (sp_st τ k j v) := ⟨h.1.st hj, by rw [sp_st_at, if_neg (by omega)]; exact h.2.1, by rw [sp_st_at, if_neg (by omega)]; exact h.2.2⟩
theorem tn_31 (x : Int32) : tn x < 2 ^ 31 := Int32.toNatClampNeg_lt x
theorem inc_le {x y : Int32} (h0 : 0 ≤ x) (h : x < y) : x < x + 1 ∧ x + 1 ≤ y := by
  obtain ⟨a, ha, rfl⟩ := nI_of (x := x) (Int32.not_lt.mpr h0)
  obtain ⟨b, hb, rfl⟩ := nI_of (x := y) (Int32.not_lt.mpr (Int32.le_trans h0 (Int32.le_of_lt h)))
  have hab := (nI_ltI ha hb).mp h
  rw [nI_1]
  exact ⟨nI_lt (by omega) (by omega), nI_le (by omega) hb⟩
