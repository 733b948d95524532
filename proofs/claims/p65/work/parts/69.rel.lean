/-! THE NUMBERS ARE NUMBERS: no division gives a NaN -/
section FIN
variable {σ μ : Nat → Nat → Int32} {f : Nat → Int32} {B n t : Nat} {pi ro : Nat → Nat}
theorem VX.stride_nat (h : VX f n t B) {a : Nat} (ha : a < n) : ∃ d, d ≤ 28 ∧ m_stride f n a = nI d := by
  unfold m_stride
  rcases hq : m_bes f n a false with _ | j
  · exact ⟨0, by decide, rfl⟩
  · have hj := m_bes_lt hq
    obtain ⟨R, C, e1, e2, e3, e4⟩ := h.rc hj
    obtain ⟨R2, C2, e5, e6, e7, e8⟩ := h.rc ha
    refine ⟨_, ?_, (show m_dist f j (gP f a 3) (gP f a 4) = _ by rw [e5, e6]; exact dist_nat e1 e2 e3 e4 (by omega) (by omega))⟩
    omega
theorem VX.len_nat (h : VX f n t B) (hn : n ≤ 30) (x : Int32) : ∃ d, d ≤ 840 ∧ m_len f n x = nI d := by
  obtain ⟨d, hd, e⟩ := sumI_nat (F := mF_len f n x) (c := 28) (n := n) (fun j hj => by
    unfold mF_len
    by_cases q : gP f j 1 = x
    · rw [if_pos q]; exact h.stride_nat hj
    · rw [if_neg q]; exact ⟨0, by decide, rfl⟩)
  exact ⟨d, by have := Nat.mul_le_mul_left 28 hn; omega, e⟩
theorem BR.avgN (h : BR σ f B n t pi ro) (x : Int32) (hc : ¬ m_count f n x < 2) : vf_n64 (FP.ddiv (FP.i2d (m_len f n x)) (FP.i2d (m_count f n x - 1))) := by
  obtain ⟨d, hd, e⟩ := h.vx.len_nat h.n30 x
  obtain ⟨c, hc2, ec⟩ := m_count_nat (f := f) h.n30 x
  rw [ec] at hc
  have h2 : 2 ≤ c := by
    rcases Nat.lt_or_ge c 2 with q | q
    · exact absurd (nI_lt (b := 2) q (by decide)) hc
    · exact q
  rw [e, ec, show nI c - 1 = nI (c - 1) from nI_subE rfl rfl (by omega)]
  exact avg_fin hd (by omega) (by omega)
theorem BR.avgC (h : BR σ f B n t pi ro) (x : Int32) : ∀ k, f_findTrack σ x = some k → ¬ f_countPrints σ k - 1 < 1 → vf_n64 (FP.ddiv (FP.i2d (f_len σ k)) (FP.i2d (f_countPrints σ k - 1))) := fun k hk hc => by
  rw [h.findT] at hk
  rcases hq : m_ft f t x with _ | r
  · rw [hq] at hk; cases hk
  · rw [hq] at hk
    have hr := m_ft_lt hq
    cases hk
    rw [h.count hr] at hc ⊢
    rw [h.len hr]
    refine h.avgN _ fun z => hc ?_
    obtain ⟨c, hc2, ec⟩ := m_count_nat (f := f) h.n30 (gT f r)
    rw [ec] at z ⊢
    rcases Nat.eq_zero_or_pos c with w | w
    · rw [w]; decide
    · rw [show nI c - 1 = nI (c - 1) from nI_subE rfl rfl (by omega)]
      exact nI_lt (b := 1) (by have := (nI_ltI (a := c) (b := 2) (by omega) (by decide)).mp z; omega) (by decide)
theorem VX.late_nat (h : VX f n t B) : ∃ d, d ≤ n ∧ sumI (mF_late f) n = nI d := by
  obtain ⟨d, hd, e⟩ := sumI_nat (F := mF_late f) (c := 1) (n := n) (fun j hj => by
    unfold mF_late
    rcases (h.1 j hj).2.2.2.2.2.2.1 with q | q
    · exact ⟨0, by decide, q⟩
    · exact ⟨1, by decide, q⟩)
  exact ⟨d, by omega, e⟩
theorem BR.lateM (h : BR σ f B n t pi ro) (h0 : 0 < nI n) : vf_n32 (FP.fdiv (FP.i2f (sumI (mF_late f) n)) (FP.i2f (nI n))) := by
  obtain ⟨d, hd, e⟩ := h.vx.late_nat
  have hn := h.n30
  have h1 : 1 ≤ n := by
    rcases Nat.eq_zero_or_pos n with q | q
    · rw [q] at h0; exact absurd h0 (by decide)
    · exact q
  rw [e]
  exact late_fin d (by omega) n (by omega) h1
theorem BR.lateC (h : BR σ f B n t pi ro) (h0 : ¬ f_countPrintsInRows σ 0 10 = 0) : vf_n32 (FP.fdiv (FP.i2f (f_countLatePrints σ)) (FP.i2f (f_countPrintsInRows σ 0 10))) := by
  rw [h.all] at h0 ⊢
  rw [h.late]
  refine h.lateM ?_
  have hn := h.n30
  rcases Nat.eq_zero_or_pos n with q | q
  · rw [q] at h0; exact absurd (show nI 0 = 0 by decide) h0
  · exact nI_lt (a := 0) q (by omega)
theorem BR.dbM (h : BR σ f B n t pi ro) {k : Nat} (hk : k < n) : gP f k 7 = 0 ∨ gP f k 7 = 1 ∨ gP f k 7 = 2 ∨ gP f k 7 = 3 := by
  obtain ⟨h1, h2⟩ := (h.vx.1 k hk).2.2.2.2.2.1
  obtain ⟨p, hp, e⟩ := nI_of2 (M := 3) (n := 3) (by decide) (Int32.not_lt.mpr h1) h2
  rw [e]
  rcases (show p = 0 ∨ p = 1 ∨ p = 2 ∨ p = 3 by omega) with q | q | q | q <;> rw [q] <;> decide
theorem BR.dbC (h : BR σ f B n t pi ro) (x : Int32) : ∀ k, f_findPrint σ x = some k → σ (9 + k) 8 = 0 ∨ σ (9 + k) 8 = 1 ∨ σ (9 + k) 8 = 2 ∨ σ (9 + k) 8 = 3 := fun k hk => by
  rw [h.findP] at hk
  rcases hq : m_find f n x with _ | r
  · rw [hq] at hk; cases hk
  · rw [hq] at hk
    have hr := m_find_lt hq
    cases hk
    rw [← (h.pe hr).2.2.2.2.2.2.2.1]
    exact h.dbM hr
end FIN
