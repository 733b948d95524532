/-! a print made, a track removed, the tide set -/
section BRT
variable {g : Nat → Nat → Int32} {μ : Nat → Nat → Int32} {B n t : Nat} {pi ro : Nat → Nat}
theorem BR.putP (h : BR g (μ 1) B n t pi ro) (hB : B + 1 < 1000000) (hn9 : n < 30) {x u r c1 z : Int32} {lf : Bool} (hx : ∃ j, j < t ∧ gT (μ 1) j = x) (hu : 0 ≤ u ∧ u ≤ 999) (hr : 0 ≤ r ∧ r ≤ 9) (hc : 0 ≤ c1 ∧ c1 ≤ 19) (hz : 1 ≤ z ∧ z ≤ 9) (ho : m_objP (μ 1) n x u r c1 = none) : ∃ pi', BR (f_putP g x u r c1 lf z) (m_new μ n x u r c1 (b2i lf) z 1) (B + 1) (n + 1) t pi' ro := by
  obtain ⟨i, hi, hi30, hi0⟩ := h.freeP hn9
  have hlate : b2i (decide (0 < f_countPrintsBetween g x u 1000)) = b2i (m_later (μ 1) n x u) := by rw [h.later]
  have hob : m_time (μ 1) n x u = none ∧ ¬ r < μ 1 4 ∧ m_cell (μ 1) n r c1 = none := by
    unfold m_objP at ho
    by_cases q : nI n = 30
    · rw [if_pos q] at ho; cases ho
    · rw [if_neg q] at ho
      rcases hm : m_time (μ 1) n x u with _ | j
      · rw [hm] at ho
        have ho2 : (if r < μ 1 4 then some ((4 : Int32), μ 1 4) else match m_cell (μ 1) n r c1 with | none => none | some j => some (5, gP (μ 1) j 0)) = none := ho
        by_cases q2 : r < μ 1 4
        · rw [if_pos q2] at ho2; cases ho2
        · rw [if_neg q2] at ho2
          rcases hm2 : m_cell (μ 1) n r c1 with _ | j
          · exact ⟨rfl, q2, rfl⟩
          · rw [hm2] at ho2; cases ho2
      · rw [hm] at ho; cases ho
  have hN : ∀ w v, w < 9 → (w = 0 ∧ v = μ 1 3) ∨ (w = 1 ∧ v = x) ∨ (w = 2 ∧ v = u) ∨ (w = 3 ∧ v = r) ∨ (w = 4 ∧ v = c1) ∨ (w = 5 ∧ v = b2i lf) ∨ (w = 6 ∧ v = z) ∨ (w = 7 ∧ v = 0) ∨ (w = 8 ∧ v = b2i (m_later (μ 1) n x u)) → m_new μ n x u r c1 (b2i lf) z 1 (19 + 9 * n + w) = v := fun w v hw hv => by
    unfold m_new
    simp only [sp_st_at, true_and, show ¬ (1 : Nat) = 0 by decide, false_and, if_false]
    rcases hv with ⟨rfl, rfl⟩ | ⟨rfl, rfl⟩ | ⟨rfl, rfl⟩ | ⟨rfl, rfl⟩ | ⟨rfl, rfl⟩ | ⟨rfl, rfl⟩ | ⟨rfl, rfl⟩ | ⟨rfl, rfl⟩ | ⟨rfl, rfl⟩ <;> simp
  have hO : ∀ j, j ≠ 1 → j ≠ 3 → (j < 19 + 9 * n ∨ 19 + 9 * n + 9 ≤ j) → m_new μ n x u r c1 (b2i lf) z 1 j = μ 1 j := fun j q1 q2 q3 => by
    unfold m_new
    rw [sp_st_j _ _ _ _ _ _ (by omega), sp_st_j _ _ _ _ _ _ (by omega), sp_st_j _ _ _ _ _ _ (by omega), sp_st_j _ _ _ _ _ _ (by omega), sp_st_j _ _ _ _ _ _ (by omega), sp_st_j _ _ _ _ _ _ (by omega), sp_st_j _ _ _ _ _ _ (by omega), sp_st_j _ _ _ _ _ _ (by omega), sp_st_j _ _ _ _ _ _ (by omega), sp_st_j _ _ _ _ _ _ q1, sp_st_j _ _ _ _ _ _ q2, sp_st_k _ _ _ _ _ _ (by decide)]
  have h3 : m_new μ n x u r c1 (b2i lf) z 1 3 = μ 1 3 + 1 := by
    unfold m_new
    rw [sp_st_j _ _ _ _ _ _ (by omega), sp_st_j _ _ _ _ _ _ (by omega), sp_st_j _ _ _ _ _ _ (by omega), sp_st_j _ _ _ _ _ _ (by omega), sp_st_j _ _ _ _ _ _ (by omega), sp_st_j _ _ _ _ _ _ (by omega), sp_st_j _ _ _ _ _ _ (by omega), sp_st_j _ _ _ _ _ _ (by omega), sp_st_j _ _ _ _ _ _ (by omega), sp_st_j _ _ _ _ _ _ (by decide), sp_st_s]
  have hms := MS_new (x := x) (u := u) (r := r) (c1 := c1) (lf := b2i lf) (z := z) h.1 hn9
  generalize m_new μ n x u r c1 (b2i lf) z 1 = f' at hN hO h3 hms
  have hgp : f_putP g x u r c1 lf z = sp_st (sp_st (sp_st (sp_st (sp_st (sp_st (sp_st (sp_st (sp_st (sp_st (sp_st g (9 + i) 0 1) (9 + i) 1 (g 0 4)) (9 + i) 2 x) (9 + i) 3 u) (9 + i) 4 r) (9 + i) 5 c1) (9 + i) 6 (b2i lf)) (9 + i) 7 z) (9 + i) 8 0) (9 + i) 9 (b2i (decide (0 < f_countPrintsBetween g x u 1000)))) 0 4 (g 0 4 + 1) := by unfold f_putP; rw [hi]
  have hg : ∀ k j, k ≠ 9 + i → (k ≠ 0 ∨ j ≠ 4) → f_putP g x u r c1 lf z k j = g k j := fun k j q1 q2 => by
    rw [hgp, sp_st_at, if_neg (by omega), sp_st_k _ _ _ _ _ _ q1, sp_st_k _ _ _ _ _ _ q1, sp_st_k _ _ _ _ _ _ q1, sp_st_k _ _ _ _ _ _ q1, sp_st_k _ _ _ _ _ _ q1, sp_st_k _ _ _ _ _ _ q1, sp_st_k _ _ _ _ _ _ q1, sp_st_k _ _ _ _ _ _ q1, sp_st_k _ _ _ _ _ _ q1, sp_st_k _ _ _ _ _ _ q1]
  have g4 : f_putP g x u r c1 lf z 0 4 = g 0 4 + 1 := by rw [hgp, sp_st_s]
  have gi : ∀ w v, (w = 0 ∧ v = 1) ∨ (w = 1 ∧ v = g 0 4) ∨ (w = 2 ∧ v = x) ∨ (w = 3 ∧ v = u) ∨ (w = 4 ∧ v = r) ∨ (w = 5 ∧ v = c1) ∨ (w = 6 ∧ v = b2i lf) ∨ (w = 7 ∧ v = z) ∨ (w = 8 ∧ v = 0) ∨ (w = 9 ∧ v = b2i (m_later (μ 1) n x u)) → f_putP g x u r c1 lf z (9 + i) w = v := fun w v hv => by
    rw [hgp, sp_st_k _ _ _ _ _ _ (by omega), hlate]
    simp only [sp_st_at, true_and]
    rcases hv with ⟨rfl, rfl⟩ | ⟨rfl, rfl⟩ | ⟨rfl, rfl⟩ | ⟨rfl, rfl⟩ | ⟨rfl, rfl⟩ | ⟨rfl, rfl⟩ | ⟨rfl, rfl⟩ | ⟨rfl, rfl⟩ | ⟨rfl, rfl⟩ | ⟨rfl, rfl⟩ <;> simp
  have hne : ∀ k, k < n → pi k ≠ i := fun k hk q => h.ex hk (by rw [q]; exact hi0)
  have ht := h.t6
  have hP : ∀ k w, k < n → w < 9 → gP f' k w = gP (μ 1) k w := fun k w hk hw => hO _ (by omega) (by omega) (by omega)
  have hT : ∀ k, k < t → gT f' k = gT (μ 1) k ∧ gS f' k = gS (μ 1) k := fun k hk => ⟨hO _ (by omega) (by omega) (by omega), hO _ (by omega) (by omega) (by omega)⟩
  have q0 : gP f' n 0 = μ 1 3 := hN 0 _ (by decide) (Or.inl ⟨rfl, rfl⟩)
  have q1 : gP f' n 1 = x := hN 1 _ (by decide) (by simp)
  have q2 : gP f' n 2 = u := hN 2 _ (by decide) (by simp)
  have q3 : gP f' n 3 = r := hN 3 _ (by decide) (by simp)
  have q4 : gP f' n 4 = c1 := hN 4 _ (by decide) (by simp)
  have q5 : gP f' n 5 = b2i lf := hN 5 _ (by decide) (by simp)
  have q6 : gP f' n 6 = z := hN 6 _ (by decide) (by simp)
  have q7 : gP f' n 7 = 0 := hN 7 _ (by decide) (by simp)
  have q8 : gP f' n 8 = b2i (m_later (μ 1) n x u) := hN 8 _ (by decide) (by simp)
  obtain ⟨v1, v2, v3, v4, v5, v6, v7, v8, v9, v10⟩ := h.vx
  obtain ⟨n1, n2, n3⟩ := next_id v10 hB
  have h04 : f' 4 = μ 1 4 := hO 4 (by decide) (by decide) (by omega)
  refine ⟨fun k => if k = n then i else pi k, hms, ⟨fun k hk => ?_, fun j k hj hk hjk => ?_, fun i2 hi2 he => ?_, fun k hk => ?_, fun k hk => ?_⟩, ⟨h.2.2.1.1, h.2.2.1.2.1, fun i2 hi2 he => h.tsj hi2 (by rwa [hg _ _ (by omega) (by omega)] at he), fun k hk => by have := h.ro6 hk; rw [hg _ _ (by omega) (by omega)]; exact h.tex hk, fun k hk => ?_⟩, ?_, ?_⟩
  · show (if k = n then i else pi k) < 30
    by_cases q : k = n
    · rw [if_pos q]; exact hi30
    · rw [if_neg q]; exact h.pi30 (by omega)
  · have hjk2 : (if j = n then i else pi j) = (if k = n then i else pi k) := hjk
    by_cases e1 : j = n
    · by_cases e2 : k = n
      · omega
      · rw [if_pos e1, if_neg e2] at hjk2; exact absurd hjk2.symm (hne k (by omega))
    · by_cases e2 : k = n
      · rw [if_neg e1, if_pos e2] at hjk2; exact absurd hjk2 (hne j (by omega))
      · rw [if_neg e1, if_neg e2] at hjk2; exact h.inj (by omega) (by omega) hjk2
  · by_cases q : i2 = i
    · exact ⟨n, by omega, by show (if n = n then i else pi n) = i2; rw [if_pos rfl, q]⟩
    · obtain ⟨k, hk, hke⟩ := h.sj hi2 (by rwa [hg _ _ (by omega) (by omega)] at he)
      exact ⟨k, by omega, by show (if k = n then i else pi k) = i2; rw [if_neg (by omega)]; exact hke⟩
  · show f_putP g x u r c1 lf z (9 + (if k = n then i else pi k)) 0 ≠ 0
    by_cases q : k = n
    · rw [if_pos q, gi 0 1 (Or.inl ⟨rfl, rfl⟩)]; decide
    · have := hne k (by omega)
      rw [if_neg q, hg _ _ (by omega) (by omega)]; exact h.ex (by omega)
  · show PE (f_putP g x u r c1 lf z) f' k (if k = n then i else pi k)
    by_cases q : k = n
    · rw [q, if_pos rfl]
      unfold PE
      rw [q0, q1, q2, q3, q4, q5, q6, q7, q8, gi 1 (g 0 4) (by simp), gi 2 x (by simp), gi 3 u (by simp), gi 4 r (by simp), gi 5 c1 (by simp), gi 6 (b2i lf) (by simp), gi 7 z (by simp), gi 8 0 (by simp), gi 9 (b2i (m_later (μ 1) n x u)) (by simp), bz_b2i, bz_b2i, h.sx.2.1]
      exact ⟨rfl, rfl, rfl, rfl, rfl, rfl, rfl, rfl, rfl⟩
    · have hk2 : k < n := by omega
      have := hne k hk2
      rw [if_neg q]
      unfold PE
      rw [hP k 0 hk2 (by decide), hP k 1 hk2 (by decide), hP k 2 hk2 (by decide), hP k 3 hk2 (by decide), hP k 4 hk2 (by decide), hP k 5 hk2 (by decide), hP k 6 hk2 (by decide), hP k 7 hk2 (by decide), hP k 8 hk2 (by decide)]
      rw [hg _ 1 (by omega) (by omega), hg _ 2 (by omega) (by omega), hg _ 3 (by omega) (by omega), hg _ 4 (by omega) (by omega), hg _ 5 (by omega) (by omega), hg _ 6 (by omega) (by omega), hg _ 7 (by omega) (by omega), hg _ 8 (by omega) (by omega), hg _ 9 (by omega) (by omega)]
      exact h.pe hk2
  · have h6 := h.ro6 hk
    rw [(hT k hk).1, (hT k hk).2, hg _ 1 (by omega) (by omega), hg _ 2 (by omega) (by omega)]
    exact ⟨h.tid hk, h.ts hk⟩
  · unfold SX
    rw [h3, g4, hO 2 (by decide) (by decide) (by omega), h04, hO 5 (by decide) (by decide) (by omega), hO 6 (by decide) (by decide) (by omega), hg 0 3 (by omega) (by decide), hg 0 2 (by omega) (by decide), hg 0 5 (by omega) (by decide), hg 0 6 (by omega) (by decide), h.sx.2.1]
    exact ⟨h.sx.1, rfl, h.sx.2.2⟩
  · refine ⟨fun k hk => ?_, fun j k hjk hk => ?_, fun j k hj hk e1 e2 => ?_, fun _ => ⟨fun j k hj hk e1 e2 => ?_, fun k hk => ?_⟩, fun k hk => ?_, fun k hk => ?_, fun j k hjk hk => ?_, ?_, ?_, ?_⟩
    · by_cases q : k = n
      · subst q
        unfold VP
        rw [q0, q2, q3, q4, q5, q6, q7, q8, h3]
        exact ⟨hu, hr, hc, b2i_01 _, hz, by decide, b2i_01 _, trivial, v10.1, n1⟩
      · have hk2 : k < n := by omega
        obtain ⟨w1, w2, w3, w4, w5, w6, w7, w8, w9, w10⟩ := v1 k hk2
        unfold VP
        rw [hP k 0 hk2 (by decide), hP k 2 hk2 (by decide), hP k 3 hk2 (by decide), hP k 4 hk2 (by decide), hP k 5 hk2 (by decide), hP k 6 hk2 (by decide), hP k 7 hk2 (by decide), hP k 8 hk2 (by decide), h3]
        exact ⟨w1, w2, w3, w4, w5, w6, w7, w8, w9, Int32.lt_trans w10 n1⟩
    · by_cases q : k = n
      · subst q
        rw [hP j 0 hjk (by decide), q0]; exact (v1 j hjk).2.2.2.2.2.2.2.2.2
      · rw [hP j 0 (by omega) (by decide), hP k 0 (by omega) (by decide)]; exact v2 j k hjk (by omega)
    · have hno : ∀ a, a < n → gP (μ 1) a 1 = x → gP (μ 1) a 2 = u → False := fun a ha z1 z2 => by
        have := fstI_none.mp hob.1 a ha
        unfold mP_time at this
        rw [z1, z2, beq_self_eq_true, beq_self_eq_true] at this; cases this
      by_cases e3 : j = n
      · by_cases e4 : k = n
        · omega
        · subst e3
          rw [q1, hP k 1 (by omega) (by decide)] at e1
          rw [q2, hP k 2 (by omega) (by decide)] at e2
          exact (hno k (by omega) e1.symm e2.symm).elim
      · by_cases e4 : k = n
        · subst e4
          rw [q1, hP j 1 (by omega) (by decide)] at e1
          rw [q2, hP j 2 (by omega) (by decide)] at e2
          exact (hno j (by omega) e1 e2).elim
        · rw [hP j 1 (by omega) (by decide), hP k 1 (by omega) (by decide)] at e1
          rw [hP j 2 (by omega) (by decide), hP k 2 (by omega) (by decide)] at e2
          exact v3 j k (by omega) (by omega) e1 e2
    · have hno : ∀ a, a < n → gP (μ 1) a 3 = r → gP (μ 1) a 4 = c1 → False := fun a ha z1 z2 => by
        have := fstI_none.mp hob.2.2 a ha
        unfold mP_cell at this
        rw [z1, z2, beq_self_eq_true, beq_self_eq_true] at this; cases this
      by_cases e3 : j = n
      · by_cases e4 : k = n
        · omega
        · subst e3
          rw [q3, hP k 3 (by omega) (by decide)] at e1
          rw [q4, hP k 4 (by omega) (by decide)] at e2
          exact (hno k (by omega) e1.symm e2.symm).elim
      · by_cases e4 : k = n
        · subst e4
          rw [q3, hP j 3 (by omega) (by decide)] at e1
          rw [q4, hP j 4 (by omega) (by decide)] at e2
          exact (hno j (by omega) e1 e2).elim
        · rw [hP j 3 (by omega) (by decide), hP k 3 (by omega) (by decide)] at e1
          rw [hP j 4 (by omega) (by decide), hP k 4 (by omega) (by decide)] at e2
          exact (v4 (by omega)).1 j k (by omega) (by omega) e1 e2
    · rw [h04]
      by_cases q : k = n
      · subst q
        rw [q3]; exact Int32.not_lt.mp hob.2.1
      · rw [hP k 3 (by omega) (by decide)]; exact (v4 (by omega)).2 k (by omega)
    · by_cases q : k = n
      · subst q
        obtain ⟨j, hj, he⟩ := hx
        exact ⟨j, hj, by rw [(hT j hj).1, q1]; exact he⟩
      · obtain ⟨j, hj, he⟩ := v5 k (by omega)
        exact ⟨j, hj, by rw [(hT j hj).1, hP k 1 (by omega) (by decide)]; exact he⟩
    · rw [(hT k hk).1, (hT k hk).2, hO 2 (by decide) (by decide) (by omega)]; exact v6 k hk
    · rw [(hT j (by omega)).1, (hT k hk).1]; exact v7 j k hjk hk
    · rw [h04]; exact v8
    · rw [hO 2 (by decide) (by decide) (by omega)]; exact ⟨v9.1, Int32.le_trans v9.2 (nI_le (by omega) (by omega))⟩
    · rw [h3]; exact ⟨n2, n3⟩
/-- a track without prints removed -/
theorem BR.dropT (h : BR g (μ 1) B n t pi ro) (hB : B < 1000000) {r : Nat} (hr : r < t) (hno : ∀ k, k < n → gP (μ 1) k 1 ≠ gT (μ 1) r) : BR (sp_st g (3 + ro r) 0 0) (m_rmT μ t r 1) B n (t - 1) pi (fun k => if k < r then ro k else ro (k + 1)) := by
  have ht := h.t6
  have hn := h.n30
  have hr6 := h.ro6 hr
  have hE : ∀ k, k < t - 1 → (if k < r then k else k + 1) < t := fun k hk => by split <;> omega
  have hro : ∀ k, (if k < r then ro k else ro (k + 1)) = ro (if k < r then k else k + 1) := fun k => by split <;> rfl
  have hEa : ∀ k, (if k < r then k else k + 1) ≠ r := fun k => by split <;> omega
  have hne : ∀ k, k < t - 1 → 3 + ro (if k < r then k else k + 1) ≠ 3 + ro r := fun k hk z9 => hEa k (h.tinj (hE k hk) hr (by omega))
  have hO : ∀ j, j ≠ 0 → (j < 7 ∨ 19 ≤ j) → m_rmT μ t r 1 j = μ 1 j := fun j q1 q2 => by
    unfold m_rmT
    rw [sp_st_j _ _ _ _ _ _ q1, sp_st_j _ _ _ _ _ _ (by omega), sp_st_j _ _ _ _ _ _ (by omega)]
    unfold m_mv
    rw [if_neg (by omega)]
  have hT : ∀ k, k < t - 1 → gT (m_rmT μ t r 1) k = gT (μ 1) (if k < r then k else k + 1) ∧ gS (m_rmT μ t r 1) k = gS (μ 1) (if k < r then k else k + 1) := fun k hk => by
    unfold gT gS m_rmT
    rw [sp_st_j _ _ _ _ _ _ (by omega), sp_st_j _ _ _ _ _ _ (by omega), sp_st_j _ _ _ _ _ _ (by omega), sp_st_j _ _ _ _ _ _ (by omega), sp_st_j _ _ _ _ _ _ (by omega), sp_st_j _ _ _ _ _ _ (by omega)]
    unfold m_mv
    by_cases q : k < r
    · rw [if_pos q, if_neg (show ¬ (1 = 1 ∧ 7 + 2 * r ≤ 7 + 2 * k ∧ 7 + 2 * k < 7 + 2 * (t - 1)) by omega), if_neg (show ¬ (1 = 1 ∧ 7 + 2 * r ≤ 7 + 2 * k + 1 ∧ 7 + 2 * k + 1 < 7 + 2 * (t - 1)) by omega)]; exact ⟨rfl, rfl⟩
    · rw [if_neg q, if_pos (show 1 = 1 ∧ 7 + 2 * r ≤ 7 + 2 * k ∧ 7 + 2 * k < 7 + 2 * (t - 1) by omega), if_pos (show 1 = 1 ∧ 7 + 2 * r ≤ 7 + 2 * k + 1 ∧ 7 + 2 * k + 1 < 7 + 2 * (t - 1) by omega)]
      exact ⟨congrArg _ (by omega), congrArg _ (by omega)⟩
  have hP : ∀ k w, gP (m_rmT μ t r 1) k w = gP (μ 1) k w := fun k w => hO _ (by omega) (by omega)
  obtain ⟨v1, v2, v3, v4, v5, v6, v7, v8, v9, v10⟩ := h.vx
  refine ⟨?_, ⟨h.2.1.1, h.2.1.2.1, fun i hi he => h.sj hi (by rwa [sp_st_k _ _ _ _ _ _ (by omega)] at he), fun k hk => by rw [sp_st_k _ _ _ _ _ _ (by omega)]; exact h.ex hk, fun k hk => ?_⟩, ⟨fun k hk => ?_, fun j k hj hk hjk => ?_, fun i hi he => ?_, fun k hk => ?_, fun k hk => ?_⟩, ?_, ?_⟩
  · refine ⟨by rw [hO 1 (by decide) (by omega)]; exact h.1.1, hn, ?_, by omega⟩
    unfold m_rmT; exact sp_st_s _ _ _ _
  · unfold PE
    rw [hP, hP, hP, hP, hP, hP, hP, hP, hP]
    rw [sp_st_k _ _ _ _ _ _ (by omega), sp_st_k _ _ _ _ _ _ (by omega), sp_st_k _ _ _ _ _ _ (by omega), sp_st_k _ _ _ _ _ _ (by omega), sp_st_k _ _ _ _ _ _ (by omega), sp_st_k _ _ _ _ _ _ (by omega), sp_st_k _ _ _ _ _ _ (by omega), sp_st_k _ _ _ _ _ _ (by omega), sp_st_k _ _ _ _ _ _ (by omega)]
    exact h.pe hk
  · show (if k < r then ro k else ro (k + 1)) < 6
    rw [hro]; exact h.ro6 (hE k hk)
  · have hjk2 : (if j < r then ro j else ro (j + 1)) = (if k < r then ro k else ro (k + 1)) := hjk
    rw [hro, hro] at hjk2
    have := h.tinj (hE j hj) (hE k hk) hjk2
    split at this <;> split at this <;> omega
  · by_cases q : i = ro r
    · rw [q, sp_st_s] at he; exact absurd rfl he
    · obtain ⟨k, hk, hke⟩ := h.tsj hi (by rwa [sp_st_k _ _ _ _ _ _ (by omega)] at he)
      have hka : k ≠ r := fun z9 => q (by rw [← hke, z9])
      by_cases q2 : k < r
      · exact ⟨k, by omega, by show (if k < r then ro k else ro (k + 1)) = i; rw [if_pos q2]; exact hke⟩
      · exact ⟨k - 1, by omega, by show (if k - 1 < r then ro (k - 1) else ro (k - 1 + 1)) = i; rw [if_neg (by omega), show k - 1 + 1 = k by omega]; exact hke⟩
  · show sp_st g (3 + ro r) 0 0 (3 + (if k < r then ro k else ro (k + 1))) 0 ≠ 0
    rw [hro, sp_st_k _ _ _ _ _ _ (hne k hk)]; exact h.tex (hE k hk)
  · show gT _ k = sp_st g (3 + ro r) 0 0 (3 + (if k < r then ro k else ro (k + 1))) 1 ∧ gS _ k = sp_st g (3 + ro r) 0 0 (3 + (if k < r then ro k else ro (k + 1))) 2
    rw [hro, sp_st_k _ _ _ _ _ _ (hne k hk), sp_st_k _ _ _ _ _ _ (hne k hk), (hT k hk).1, (hT k hk).2]
    exact ⟨h.tid (hE k hk), h.ts (hE k hk)⟩
  · unfold SX
    rw [hO 2 (by decide) (by omega), hO 3 (by decide) (by omega), hO 4 (by decide) (by omega), hO 5 (by decide) (by omega), hO 6 (by decide) (by omega), sp_st_k _ _ _ _ _ _ (by omega), sp_st_k _ _ _ _ _ _ (by omega), sp_st_k _ _ _ _ _ _ (by omega), sp_st_k _ _ _ _ _ _ (by omega), sp_st_k _ _ _ _ _ _ (by omega)]
    exact h.sx
  · refine ⟨fun k hk => ?_, fun j k hjk hk => ?_, fun j k hj hk e1 e2 => ?_, fun _ => ⟨fun j k hj hk e1 e2 => ?_, fun k hk => ?_⟩, fun k hk => ?_, fun k hk => ?_, fun j k hjk hk => ?_, ?_, ?_, ?_⟩
    · unfold VP
      rw [hP, hP, hP, hP, hP, hP, hP, hP, hO 3 (by decide) (by omega)]; exact v1 k hk
    · rw [hP, hP]; exact v2 j k hjk hk
    · rw [hP, hP] at e1 e2; exact v3 j k hj hk e1 e2
    · rw [hP, hP] at e1 e2; exact (v4 hB).1 j k hj hk e1 e2
    · rw [hP, hO 4 (by decide) (by omega)]; exact (v4 hB).2 k hk
    · obtain ⟨j, hj, he⟩ := v5 k hk
      have hjr : j ≠ r := fun z9 => hno k hk (by rw [← he, z9])
      rw [hP]
      by_cases q : j < r
      · exact ⟨j, by omega, by rw [(hT j (by omega)).1, if_pos q]; exact he⟩
      · exact ⟨j - 1, by omega, by rw [(hT (j - 1) (by omega)).1, if_neg (by omega), show j - 1 + 1 = j by omega]; exact he⟩
    · rw [(hT k hk).1, (hT k hk).2, hO 2 (by decide) (by omega)]; exact v6 _ (hE k hk)
    · rw [(hT j (by omega)).1, (hT k hk).1]
      exact v7 _ _ (by split <;> split <;> omega) (hE k hk)
    · rw [hO 4 (by decide) (by omega)]; exact v8
    · rw [hO 2 (by decide) (by omega)]; exact v9
    · rw [hO 3 (by decide) (by omega)]; exact v10
theorem tr_ok (x : Int32) (τ ρ : Nat → Nat → Int32) (j k : Nat) (h : ∀ w, w < 9 → gP (τ 1) j w = gP (ρ 1) k w) : mQ_tr x τ j = mQ_tr x ρ k := by unfold mQ_tr; rw [h 1 (by decide)]
theorem row_eq (v : Int32) (τ ρ : Nat → Nat → Int32) (j k : Nat) (h : ∀ w, w < 9 → gP (τ 1) j w = gP (ρ 1) k w) : mQ_row v τ j = mQ_row v ρ k := by unfold mQ_row; rw [h 3 (by decide)]
/-- a track and its prints removed -/
theorem BR.rmTrack (h : BR g (μ 1) B n t pi ro) (hB : B < 1000000) {r : Nat} (hr : r < t) (z : Int32) : ∃ n' pi' ro', BR (sp_st (f_dropP g (g (3 + ro r) 1) 30) (3 + ro r) 0 0) (m_rmT (m_rm (mQ_tr (gT (μ 1) r)) n (sp_st μ 0 4 z) n).2 t r 1) B n' (t - 1) pi' ro' := by
  have hlo : ∀ j, j < 19 → j ≠ 1 → (m_rm (mQ_tr (gT (μ 1) r)) n (sp_st μ 0 4 z) n).2 1 j = μ 1 j := fun j q1 q2 => by rw [m_rm_out (Or.inr ⟨q1, q2⟩), sp_st_k _ _ _ _ _ _ (by decide)]
  have hd : ∀ k j, (k < 9 ∨ j ≠ 0) → f_dropP g (g (3 + ro r) 1) 30 k j = g k j := fun k j q => by unfold f_dropP; rw [if_neg (by omega)]
  have hQ := h.dropQ hB (P := mQ_tr (gT (μ 1) r)) (tr_ok _) z (g' := f_dropP g (g (3 + ro r) 1) 30) (f' := (m_rm (mQ_tr (gT (μ 1) r)) n (sp_st μ 0 4 z) n).2 1) (fun j _ _ _ => rfl) ?_ (fun i j hi => hd _ _ (Or.inl (by omega))) (fun i j _ hj => hd _ _ (Or.inr (by omega))) (fun k hk => ?_) (fun i hi hz => ?_) (by rw [hlo 4 (by decide) (by decide)]; exact h.vx.2.2.2.2.2.2.2.1) (fun k hk _ => by rw [hlo 4 (by decide) (by decide)]; exact (h.vx.2.2.2.1 hB).2 k hk)
  · obtain ⟨n', e, hb, he, hgp⟩ := hQ
    have hr6 := h.ro6 hr
    have h9 := BR.dropT (μ := (m_rm (mQ_tr (gT (μ 1) r)) n (sp_st μ 0 4 z) n).2) hb hB hr (fun k hk => ?_)
    · exact ⟨n', _, _, h9⟩
    · rw [hgp k 1 hk (by decide)]
      have h7 := (he k hk).2
      unfold mQ_tr at h7
      have h8 : gT ((m_rm (mQ_tr (gT (μ 1) r)) n (sp_st μ 0 4 z) n).2 1) r = gT (μ 1) r := by
        have ht := h.t6
        exact hlo _ (by omega) (by omega)
      rw [h8]
      simpa using h7
  · unfold SX
    rw [hlo 2 (by decide) (by decide), hlo 3 (by decide) (by decide), hlo 4 (by decide) (by decide), hlo 5 (by decide) (by decide), hlo 6 (by decide) (by decide), hd _ _ (Or.inl (by decide)), hd _ _ (Or.inl (by decide)), hd _ _ (Or.inl (by decide)), hd _ _ (Or.inl (by decide)), hd _ _ (Or.inl (by decide))]
    exact h.sx
  · have h30 := h.pi30 hk
    unfold f_dropP mQ_tr
    rw [h.on hk, ← h.tid hr]
    exact if_cg ⟨fun q => q.2.2.2, fun q => ⟨by omega, by omega, rfl, q⟩⟩
  · unfold f_dropP
    rw [hz]; split <;> rfl
/-- the tide set -/
theorem BR.tideS (h : BR g (μ 1) B n t pi ro) (hB : B < 1000000) {v : Int32} (hv : 0 ≤ v ∧ v ≤ 8) : ∃ n' pi', BR (f_tide g v) (sp_st (sp_st (m_rm (mQ_row v) n (sp_st μ 0 4 (m_below (μ 1) n v)) n).2 1 4 v) 1 5 (μ 1 5 + m_below (μ 1) n v) 1) B n' t pi' ro := by
  have hlo : ∀ j, j < 19 → j ≠ 1 → (m_rm (mQ_row v) n (sp_st μ 0 4 (m_below (μ 1) n v)) n).2 1 j = μ 1 j := fun j q1 q2 => by rw [m_rm_out (Or.inr ⟨q1, q2⟩), sp_st_k _ _ _ _ _ _ (by decide)]
  have hf : ∀ j, j ≠ 4 → j ≠ 5 → sp_st (sp_st (m_rm (mQ_row v) n (sp_st μ 0 4 (m_below (μ 1) n v)) n).2 1 4 v) 1 5 (μ 1 5 + m_below (μ 1) n v) 1 j = (m_rm (mQ_row v) n (sp_st μ 0 4 (m_below (μ 1) n v)) n).2 1 j := fun j q1 q2 => by rw [sp_st_j _ _ _ _ _ _ q2, sp_st_j _ _ _ _ _ _ q1]
  have h4 : sp_st (sp_st (m_rm (mQ_row v) n (sp_st μ 0 4 (m_below (μ 1) n v)) n).2 1 4 v) 1 5 (μ 1 5 + m_below (μ 1) n v) 1 4 = v := by rw [sp_st_j _ _ _ _ _ _ (by decide), sp_st_s]
  have h5 : sp_st (sp_st (m_rm (mQ_row v) n (sp_st μ 0 4 (m_below (μ 1) n v)) n).2 1 4 v) 1 5 (μ 1 5 + m_below (μ 1) n v) 1 5 = μ 1 5 + m_below (μ 1) n v := sp_st_s _ _ _ _
  have hd : ∀ k j, (k ≠ 0 ∨ (j ≠ 2 ∧ j ≠ 5)) → (k < 9 ∨ j ≠ 0) → f_tide g v k j = g k j := fun k j q1 q2 => by
    unfold f_tide
    rw [sp_st_at, if_neg (by omega)]
    unfold f_tideP
    rw [if_neg (by omega), sp_st_at, if_neg (by omega)]
  have hx0 : ∀ k, 9 ≤ k → k < 39 → f_tide g v k 0 = if g k 4 < v then 0 else g k 0 := fun k q1 q2 => by
    unfold f_tide
    rw [sp_st_at, if_neg (by omega)]
    unfold f_tideP
    rw [sp_st_at, if_neg (show ¬ (k = 0 ∧ (0 : Nat) = 2) by omega)]
    exact if_cg ⟨fun q => q.2.2.2, fun q => ⟨q1, by omega, rfl, q⟩⟩
  have hQ := h.dropQ hB (P := mQ_row v) (row_eq _) (m_below (μ 1) n v) (g' := f_tide g v) (f' := sp_st (sp_st (m_rm (mQ_row v) n (sp_st μ 0 4 (m_below (μ 1) n v)) n).2 1 4 v) 1 5 (μ 1 5 + m_below (μ 1) n v) 1) (fun j _ q1 q2 => hf j q1 q2) ?_ (fun i j hi => hd _ _ (Or.inl (by omega)) (Or.inl (by omega))) (fun i j _ hj => hd _ _ (Or.inl (by omega)) (Or.inr (by omega))) (fun k hk => ?_) (fun i hi hz => ?_) (by rw [h4]; exact hv) (fun k hk hq => ?_)
  · obtain ⟨n', e, hb, -, -⟩ := hQ
    exact ⟨n', _, hb⟩
  · unfold SX
    rw [h4, h5, hf 2 (by decide) (by decide), hf 3 (by decide) (by decide), hf 6 (by decide) (by decide), hlo 2 (by decide) (by decide), hlo 3 (by decide) (by decide), hlo 6 (by decide) (by decide), hd _ _ (Or.inr (by decide)) (Or.inl (by decide)), hd _ _ (Or.inr (by decide)) (Or.inl (by decide)), hd _ 6 (Or.inr (by decide)) (Or.inl (by decide))]
    refine ⟨h.sx.1, h.sx.2.1, ?_, ?_, h.sx.2.2.2.2⟩
    · unfold f_tide
      rw [sp_st_j _ _ _ _ _ _ (by decide)]
      unfold f_tideP
      rw [if_neg (by omega), sp_st_s]
    · unfold f_tide
      rw [sp_st_s, h.belowT, h.sx.2.2.2.1]
  · have h30 := h.pi30 hk
    rw [hx0 _ (by omega) (by omega)]
    unfold mQ_row
    rw [← (h.pe hk).2.2.2.1]
    exact if_cg decide_eq_true_iff.symm
  · rw [hx0 _ (by omega) (by omega), hz]; split <;> rfl
  · rw [h4]
    unfold mQ_row at hq
    rw [decide_eq_false_iff_not] at hq
    exact Int32.not_lt.mp hq
end BRT
