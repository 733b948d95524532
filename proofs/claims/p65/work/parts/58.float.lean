/-! quotients that are numbers -/
set_option maxRecDepth 100000 in
theorem late_fin : ∀ a, a < 31 → ∀ b, b < 31 → 1 ≤ b → (FP.fdiv (FP.i2f (nI a)) (FP.i2f (nI b))) &&& 0x7fffffff ≤ 0x7f800000 := by decide +kernel
set_option maxRecDepth 100000 in
theorem avg_fin0 : ∀ b, b < 30 → 1 ≤ b → ∀ a, a < 441 → (FP.ddiv (FP.i2d (nI a)) (FP.i2d (nI b))) &&& 0x7fffffffffffffff ≤ 0x7ff0000000000000 := by decide +kernel
set_option maxRecDepth 100000 in
theorem avg_fin1 : ∀ b, b < 30 → 1 ≤ b → ∀ a, a < 400 → (FP.ddiv (FP.i2d (nI (441 + a))) (FP.i2d (nI b))) &&& 0x7fffffffffffffff ≤ 0x7ff0000000000000 := by decide +kernel
theorem avg_fin {a b : Nat} (ha : a ≤ 840) (hb : b < 30) (h1 : 1 ≤ b) : vf_n64 (FP.ddiv (FP.i2d (nI a)) (FP.i2d (nI b))) := by
  rcases Nat.lt_or_ge a 441 with q | q
  · exact avg_fin0 b hb h1 a q
  · have := avg_fin1 b hb h1 (a - 441) (by omega)
    rw [show 441 + (a - 441) = a by omega] at this
    exact this
