/-! THE LOOP OVER THE TRACKS -/
set_option maxRecDepth 100000 in
theorem avg_eq0 : ∀ b, b < 30 → 1 ≤ b → ∀ a, a < 441 → FP.dcmp (FP.ddiv (FP.i2d (nI a)) (FP.i2d (nI b))) (FP.ddiv (FP.i2d (nI a)) (FP.i2d (nI b))) = some .eq := by decide +kernel
set_option maxRecDepth 100000 in
theorem avg_eq1 : ∀ b, b < 30 → 1 ≤ b → ∀ a, a < 400 → FP.dcmp (FP.ddiv (FP.i2d (nI (441 + a))) (FP.i2d (nI b))) (FP.ddiv (FP.i2d (nI (441 + a))) (FP.i2d (nI b))) = some .eq := by decide +kernel
theorem avg_eq {a b : Nat} (ha : a ≤ 840) (hb : b < 30) (h1 : 1 ≤ b) : FP.dcmp (FP.ddiv (FP.i2d (nI a)) (FP.i2d (nI b))) (FP.ddiv (FP.i2d (nI a)) (FP.i2d (nI b))) = some .eq := by
  rcases Nat.lt_or_ge a 441 with q | q
  · exact avg_eq0 b hb h1 a q
  · have := avg_eq1 b hb h1 (a - 441) (by omega)
    rw [show 441 + (a - 441) = a by omega] at this
    exact this
theorem avg_same {σ : Nat → Nat → Int32} {f : Nat → Int32} {B n t r : Nat} {pi ro : Nat → Nat} (h : BR σ f B n t pi ro) (_hr : r < t) (h2 : 2 ≤ cN f n (gT f r)) : FP.dcmp (FP.ddiv (FP.i2d (m_len f n (gT f r))) (FP.i2d (m_count f n (gT f r) - 1))) (FP.ddiv (FP.i2d (m_len f n (gT f r))) (FP.i2d (m_count f n (gT f r) - 1))) = some .eq := by
  obtain ⟨d, hd, e⟩ := h.vx.len_nat h.n30 (gT f r)
  have hc := cntN_le (tA f (gT f r)) n
  have h30 := h.n30
  have hcE : cN f n (gT f r) = cntN (tA f (gT f r)) n := rfl
  rw [e, m_count_N, show nI (cntN (tA f (gT f r)) n) - 1 = nI (cntN (tA f (gT f r)) n - 1) from nI_subE (b := 1) rfl rfl (by omega)]
  exact avg_eq hd (by omega) (by omega)
/-- only the output has changed -/
def QO (σ τ : Nat → Nat → Int32) : Prop := τ = σ ∨ ∃ T, OL σ τ T
theorem QO.then {σ τ τ2 : Nat → Nat → Int32} {T : List Nat} (h : QO σ τ) (w : OL τ τ2 T) : QO σ τ2 := by
  rcases h with rfl | ⟨T0, w0⟩
  · exact Or.inr ⟨T, w⟩
  · exact Or.inr ⟨T, w.1, w.2.1, w.2.2.1, fun k j h1 h2 => (w.2.2.2 k j h1 h2).trans (w0.2.2.2 k j h1 h2)⟩
theorem QO.br {σ τ : Nat → Nat → Int32} {f : Nat → Int32} {B n t : Nat} {pi ro : Nat → Nat} (q : QO σ τ) (h : BR σ f B n t pi ro) (hB : B < 1000000) : BR τ f B n t pi ro := by
  rcases q with rfl | ⟨T, w⟩
  · exact h
  · exact w.br h hB
theorem GS.out {σ τ : Nat → Nat → Int32} {B : Nat} {pm : Nat → Nat} (h : GS B σ pm) (hB : B < 1000000) (q : QO σ τ) : GS B τ pm := by
  rcases q with rfl | ⟨T, w1, w2, w3, w4⟩
  · exact h
  · obtain ⟨rc, μ, h⟩ := h
    refine ⟨rc, fun k j => if k = 2 then τ 437 j else if k = 0 ∧ j = 10 then nI T.length else if k = 0 ∧ j = 0 then 0 else μ k j, h.out hB (os := T.length) ⟨w1, rfl, fun j _ => rfl, w4, fun k j h1 h2 => ?_, rfl⟩ w2⟩
    show (if k = 2 then τ 437 j else if k = 0 ∧ j = 10 then nI T.length else if k = 0 ∧ j = 0 then 0 else μ k j) = μ k j
    rw [if_neg h1, if_neg (fun z => h2 ⟨z.1, Or.inr z.2⟩), if_neg (fun z => h2 ⟨z.1, Or.inl z.2⟩)]
