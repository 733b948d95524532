/-! quotients that are numbers -/
set_option maxRecDepth 100000 in
theorem late_fin : ∀ a, a < 31 → ∀ b, b < 31 → 1 ≤ b → (FP.fdiv (FP.i2f (nI a)) (FP.i2f (nI b))) &&& 0x7fffffff ≤ 0x7f800000 := by decide +kernel
set_option maxRecDepth 100000 in
theorem avg_fin0 : ∀ a, a < 40 → ∀ b, b < 30 → 1 ≤ b → (FP.ddiv (FP.i2d (nI a)) (FP.i2d (nI b))) &&& 0x7fffffffffffffff ≤ 0x7ff0000000000000 := by decide +kernel
