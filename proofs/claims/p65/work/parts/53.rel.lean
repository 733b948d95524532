/-! the nine changes of one beach -/
section BRN
variable {g : Nat → Nat → Int32} {μ : Nat → Nat → Int32} {B n t : Nat} {pi ro : Nat → Nat}
theorem gP_st {k j w : Nat} {v : Int32} (hw : w < 9) {a : Nat} : gP (sp_st μ 1 (19 + 9 * a + j) v 1) k w = if 19 + 9 * k + w = 19 + 9 * a + j then v else gP (μ 1) k w := by
  unfold gP
  rw [sp_st_at]
  exact if_cg ⟨fun z => z.2, fun z => ⟨rfl, z⟩⟩
/-- one field of a print written -/
theorem BR.setP (h : BR g (μ 1) B n t pi ro) (hB : B < 1000000) {a : Nat} (ha : a < n) {w j9 : Nat} {v v9 : Int32} (hw : (w = 5 ∧ j9 = 6 ∧ v = bz v9 ∧ (v = 0 ∨ v = 1)) ∨ (w = 7 ∧ j9 = 8 ∧ v = v9 ∧ 0 ≤ v ∧ v ≤ 3)) (z : Int32) : BR (sp_st g (9 + pi a) j9 v9) (sp_st (sp_st μ 0 4 z) 1 (19 + 9 * a + w) v 1) B n t pi ro := by
  have hz : sp_st μ 0 4 z 1 = μ 1 := st0_1 _ _ _
  have hw9 : w < 9 := by omega
  have hw5 : 5 ≤ w := by omega
  have hj9 : 6 ≤ j9 := by omega
  have hg : ∀ k j, (k ≠ 9 + pi a ∨ j ≠ j9) → sp_st g (9 + pi a) j9 v9 k j = g k j := fun k j hk => by rw [sp_st_at, if_neg (by omega)]
  have hP : ∀ k q, q < 9 → gP (sp_st (sp_st μ 0 4 z) 1 (19 + 9 * a + w) v 1) k q = if k = a ∧ q = w then v else gP (μ 1) k q := fun k q hq => by
    rw [gP_st hq, hz]
    exact if_cg (by omega)
  have hf : ∀ j, j < 19 → sp_st (sp_st μ 0 4 z) 1 (19 + 9 * a + w) v 1 j = μ 1 j := fun j hj => by
    rw [sp_st_j _ _ _ _ _ _ (by omega), hz]
  obtain ⟨p0, p1, p2, p3, p4, p5, p6, p7, p8⟩ := h.pe ha
  obtain ⟨w1, w2, w3, w4, w5, w6, w7, w8, w9, w10⟩ := h.vp ha
  refine h.chg hB ha (fun j hj _ => hf j hj) ?_ (fun j _ => hg _ _ (Or.inl (by omega))) (fun k j _ hk => hg _ _ (Or.inl hk)) (fun k q hq hk => by rw [hP k q hq, if_neg (by omega)]) (by rw [hg _ _ (Or.inr (by omega))]; exact h.ex ha) ?_ ?_ (by rw [hP a 0 (by decide), if_neg (by omega)]) (by rw [hP a 1 (by decide), if_neg (by omega)]) (by rw [hP a 2 (by decide), if_neg (by omega)]) ?_
  · rw [hf 6 (by decide), hg _ _ (Or.inl (by omega))]; exact h.sx.2.2.2.2
  · unfold PE
    rw [hP a 0 (by decide), hP a 1 (by decide), hP a 2 (by decide), hP a 3 (by decide), hP a 4 (by decide), hP a 5 (by decide), hP a 6 (by decide), hP a 7 (by decide), hP a 8 (by decide)]
    rw [if_neg (show ¬ (a = a ∧ 0 = w) by omega), if_neg (show ¬ (a = a ∧ 1 = w) by omega), if_neg (show ¬ (a = a ∧ 2 = w) by omega), if_neg (show ¬ (a = a ∧ 3 = w) by omega), if_neg (show ¬ (a = a ∧ 4 = w) by omega), if_neg (show ¬ (a = a ∧ 6 = w) by omega), if_neg (show ¬ (a = a ∧ 8 = w) by omega)]
    rw [hg _ 1 (Or.inr (by omega)), hg _ 2 (Or.inr (by omega)), hg _ 3 (Or.inr (by omega)), hg _ 4 (Or.inr (by omega)), hg _ 5 (Or.inr (by omega)), hg _ 7 (Or.inr (by omega)), hg _ 9 (Or.inr (by omega))]
    rcases hw with ⟨rfl, rfl, hv, _⟩ | ⟨rfl, rfl, hv, _⟩
    · rw [if_pos ⟨rfl, rfl⟩, if_neg (show ¬ (a = a ∧ 7 = 5) by omega), sp_st_s, hg _ 8 (Or.inr (by decide))]
      exact ⟨p0, p1, p2, p3, p4, hv, p6, p7, p8⟩
    · rw [if_neg (show ¬ (a = a ∧ 5 = 7) by omega), if_pos ⟨rfl, rfl⟩, sp_st_s, hg _ 6 (Or.inr (by decide))]
      exact ⟨p0, p1, p2, p3, p4, p5, p6, hv, p8⟩
  · unfold VP
    rw [hP a 0 (by decide), hP a 2 (by decide), hP a 3 (by decide), hP a 4 (by decide), hP a 5 (by decide), hP a 6 (by decide), hP a 7 (by decide), hP a 8 (by decide), hf 3 (by decide)]
    rw [if_neg (show ¬ (a = a ∧ 0 = w) by omega), if_neg (show ¬ (a = a ∧ 2 = w) by omega), if_neg (show ¬ (a = a ∧ 3 = w) by omega), if_neg (show ¬ (a = a ∧ 4 = w) by omega), if_neg (show ¬ (a = a ∧ 6 = w) by omega), if_neg (show ¬ (a = a ∧ 8 = w) by omega)]
    rcases hw with ⟨rfl, rfl, _, hv⟩ | ⟨rfl, rfl, _, hv⟩
    · rw [if_pos ⟨rfl, rfl⟩, if_neg (show ¬ (a = a ∧ 7 = 5) by omega)]
      exact ⟨w1, w2, w3, hv, w5, w6, w7, w8, w9, w10⟩
    · rw [if_neg (show ¬ (a = a ∧ 5 = 7) by omega), if_pos ⟨rfl, rfl⟩]
      exact ⟨w1, w2, w3, w4, w5, hv, w7, w8, w9, w10⟩
  · rw [hP a 3 (by decide), hP a 4 (by decide), if_neg (by omega), if_neg (by omega)]
    exact ⟨fun k hk hne q1 q2 => hne ((h.vx.2.2.2.1 hB).1 k a hk ha q1 q2), (h.vx.2.2.2.1 hB).2 a ha⟩
theorem BR.swap (h : BR g (μ 1) B n t pi ro) (hB : B < 1000000) {a : Nat} (ha : a < n) : BR (sp_st g (9 + pi a) 6 (b2i (g (9 + pi a) 6 == 0))) (sp_st (sp_st μ 0 4 (1 - gP (μ 1) a 5)) 1 (19 + 9 * a + 5) (1 - gP (μ 1) a 5) 1) B n t pi ro ∧ 1 - gP (μ 1) a 5 = b2i (g (9 + pi a) 6 == 0) := by
  have h5 := (h.pe ha).2.2.2.2.2.1
  have e : 1 - gP (μ 1) a 5 = b2i (g (9 + pi a) 6 == 0) := by
    rw [h5]
    by_cases q : g (9 + pi a) 6 = 0
    · rw [q]; decide
    · rw [show (g (9 + pi a) 6 == 0) = false by simpa using q]
      unfold bz
      rw [if_neg q]; decide
  refine ⟨h.setP hB ha (Or.inl ⟨rfl, rfl, ?_, ?_⟩) _, e⟩
  · rw [e, bz_b2i]
  · rw [e]; exact b2i_01 _
theorem BR.doubt (h : BR g (μ 1) B n t pi ro) (hB : B < 1000000) {a : Nat} (ha : a < n) (h3 : ¬ gP (μ 1) a 7 = 3) : BR (sp_st g (9 + pi a) 8 (g (9 + pi a) 8 + 1)) (sp_st (sp_st μ 0 4 (gP (μ 1) a 7 + 1)) 1 (19 + 9 * a + 7) (gP (μ 1) a 7 + 1) 1) B n t pi ro := by
  refine h.setP hB ha (Or.inr ⟨rfl, rfl, by rw [(h.pe ha).2.2.2.2.2.2.2.1], ?_⟩) _
  obtain ⟨d, hd, e⟩ := nI_of2 (M := 3) (n := 3) (by decide) (Int32.not_lt.mpr (h.vp ha).2.2.2.2.2.1.1) (h.vp ha).2.2.2.2.2.1.2
  rw [e] at h3 ⊢
  have : d ≠ 3 := fun q => h3 (by rw [q]; rfl)
  rw [nI_1]
  exact ⟨nI_pos' (by omega), nI_le (b := 3) (by omega) (by decide)⟩
theorem BR.conf (h : BR g (μ 1) B n t pi ro) (hB : B < 1000000) {a : Nat} (ha : a < n) (z : Int32) : BR (sp_st g (9 + pi a) 8 0) (sp_st (sp_st μ 0 4 z) 1 (19 + 9 * a + 7) 0 1) B n t pi ro :=
  h.setP hB ha (Or.inr ⟨rfl, rfl, rfl, by decide, by decide⟩) z
/-- a heel corrected -/
theorem BR.heel (h : BR g (μ 1) B n t pi ro) (hB : B < 1000000) {a : Nat} (ha : a < n) {r c1 : Int32} (hr : 0 ≤ r ∧ r ≤ 9) (hc : 0 ≤ c1 ∧ c1 ≤ 19) (ho : m_objM (μ 1) n a r c1 = none) (z : Int32) : BR (sp_st (sp_st (sp_st g (9 + pi a) 4 r) (9 + pi a) 5 c1) 0 6 (g 0 6 + 1)) (sp_st (sp_st (sp_st (sp_st μ 1 (19 + 9 * a + 3) r) 1 (19 + 9 * a + 4) c1) 1 6 (μ 1 6 + 1)) 0 4 z 1) B n t pi ro := by
  have e9 : sp_st (sp_st (sp_st (sp_st μ 1 (19 + 9 * a + 3) r) 1 (19 + 9 * a + 4) c1) 1 6 (μ 1 6 + 1)) 0 4 z 1 = sp_st (sp_st (sp_st μ 1 (19 + 9 * a + 3) r) 1 (19 + 9 * a + 4) c1) 1 6 (μ 1 6 + 1) 1 := st0_1 _ _ _
  rw [e9]
  have hg : ∀ k j, (k ≠ 9 + pi a ∨ (j ≠ 4 ∧ j ≠ 5)) → (k ≠ 0 ∨ j ≠ 6) → sp_st (sp_st (sp_st g (9 + pi a) 4 r) (9 + pi a) 5 c1) 0 6 (g 0 6 + 1) k j = g k j := fun k j q1 q2 => by
    rw [sp_st_at, if_neg (by omega), g_mv, if_neg (by omega), if_neg (by omega)]
  have hP : ∀ k q, q < 9 → gP (sp_st (sp_st (sp_st μ 1 (19 + 9 * a + 3) r) 1 (19 + 9 * a + 4) c1) 1 6 (μ 1 6 + 1) 1) k q = if k = a ∧ q = 4 then c1 else if k = a ∧ q = 3 then r else gP (μ 1) k q := fun k q hq => by
    unfold gP
    rw [sp_st_at, if_neg (by omega), sp_st_at, sp_st_at]
    refine (if_cg ?_).trans (congrArg _ (if_cg ?_))
    · omega
    · omega
  have hf : ∀ j, j < 19 → j ≠ 6 → sp_st (sp_st (sp_st μ 1 (19 + 9 * a + 3) r) 1 (19 + 9 * a + 4) c1) 1 6 (μ 1 6 + 1) 1 j = μ 1 j := fun j hj h6 => by
    rw [sp_st_j _ _ _ _ _ _ h6, sp_st_j _ _ _ _ _ _ (by omega), sp_st_j _ _ _ _ _ _ (by omega)]
  obtain ⟨p0, p1, p2, p3, p4, p5, p6, p7, p8⟩ := h.pe ha
  obtain ⟨w1, w2, w3, w4, w5, w6, w7, w8, w9, w10⟩ := h.vp ha
  have hmi : m_in (m_dist (μ 1) a r c1) 1 2 = true ∧ ¬ r < μ 1 4 ∧ m_cell (μ 1) n r c1 = none := by
    unfold m_objM at ho
    by_cases q : m_in (m_dist (μ 1) a r c1) 1 2 = true
    · rw [if_pos q] at ho
      by_cases q2 : r < μ 1 4
      · rw [if_pos q2] at ho; cases ho
      · rw [if_neg q2] at ho
        rcases hm : m_cell (μ 1) n r c1 with _ | j
        · exact ⟨q, q2, rfl⟩
        · rw [hm] at ho; cases ho
    · rw [if_neg q] at ho; cases ho
  refine h.chg hB ha (fun j hj h6 => hf j hj h6) ?_ (fun j hj => hg _ _ (Or.inl (by omega)) (Or.inr hj)) (fun k j h1 hk => hg _ _ (Or.inl hk) (Or.inl (by omega))) (fun k q hq hk => by rw [hP k q hq, if_neg (by omega), if_neg (by omega)]) (by rw [hg _ _ (Or.inr (by decide)) (Or.inl (by omega))]; exact h.ex ha) ?_ ?_ (by rw [hP a 0 (by decide), if_neg (by omega), if_neg (by omega)]) (by rw [hP a 1 (by decide), if_neg (by omega), if_neg (by omega)]) (by rw [hP a 2 (by decide), if_neg (by omega), if_neg (by omega)]) ?_
  · rw [sp_st_s, sp_st_s, h.sx.2.2.2.2]
  · unfold PE
    rw [hP a 0 (by decide), hP a 1 (by decide), hP a 2 (by decide), hP a 3 (by decide), hP a 4 (by decide), hP a 5 (by decide), hP a 6 (by decide), hP a 7 (by decide), hP a 8 (by decide)]
    rw [hg _ 1 (Or.inr (by decide)) (Or.inl (by omega)), hg _ 2 (Or.inr (by decide)) (Or.inl (by omega)), hg _ 3 (Or.inr (by decide)) (Or.inl (by omega)), hg _ 6 (Or.inr (by decide)) (Or.inl (by omega)), hg _ 7 (Or.inr (by decide)) (Or.inl (by omega)), hg _ 8 (Or.inr (by decide)) (Or.inl (by omega)), hg _ 9 (Or.inr (by decide)) (Or.inl (by omega))]
    have q4 : sp_st (sp_st (sp_st g (9 + pi a) 4 r) (9 + pi a) 5 c1) 0 6 (g 0 6 + 1) (9 + pi a) 4 = r := by rw [sp_st_at, if_neg (by omega), g_mv, if_neg (by omega), if_pos ⟨rfl, rfl⟩]
    have q5 : sp_st (sp_st (sp_st g (9 + pi a) 4 r) (9 + pi a) 5 c1) 0 6 (g 0 6 + 1) (9 + pi a) 5 = c1 := by rw [sp_st_at, if_neg (by omega), g_mv, if_pos ⟨rfl, rfl⟩]
    rw [q4, q5]
    simp only [show ¬ (0 : Nat) = 4 by decide, show ¬ (0 : Nat) = 3 by decide, show ¬ (1 : Nat) = 4 by decide, show ¬ (1 : Nat) = 3 by decide, show ¬ (2 : Nat) = 4 by decide, show ¬ (2 : Nat) = 3 by decide, show ¬ (3 : Nat) = 4 by decide, show ¬ (5 : Nat) = 4 by decide, show ¬ (5 : Nat) = 3 by decide, show ¬ (6 : Nat) = 4 by decide, show ¬ (6 : Nat) = 3 by decide, show ¬ (7 : Nat) = 4 by decide, show ¬ (7 : Nat) = 3 by decide, show ¬ (8 : Nat) = 4 by decide, show ¬ (8 : Nat) = 3 by decide, and_false, and_true, if_false, if_true]
    exact ⟨p0, p1, p2, trivial, trivial, p5, p6, p7, p8⟩
  · unfold VP
    rw [hP a 0 (by decide), hP a 2 (by decide), hP a 3 (by decide), hP a 4 (by decide), hP a 5 (by decide), hP a 6 (by decide), hP a 7 (by decide), hP a 8 (by decide), hf 3 (by decide) (by decide)]
    simp only [show ¬ (0 : Nat) = 4 by decide, show ¬ (0 : Nat) = 3 by decide, show ¬ (2 : Nat) = 4 by decide, show ¬ (2 : Nat) = 3 by decide, show ¬ (3 : Nat) = 4 by decide, show ¬ (5 : Nat) = 4 by decide, show ¬ (5 : Nat) = 3 by decide, show ¬ (6 : Nat) = 4 by decide, show ¬ (6 : Nat) = 3 by decide, show ¬ (7 : Nat) = 4 by decide, show ¬ (7 : Nat) = 3 by decide, show ¬ (8 : Nat) = 4 by decide, show ¬ (8 : Nat) = 3 by decide, and_false, and_true, if_false, if_true]
    exact ⟨w1, hr, hc, w4, w5, w6, w7, w8, w9, w10⟩
  · rw [hP a 3 (by decide), hP a 4 (by decide), if_neg (by omega), if_pos ⟨rfl, rfl⟩, if_pos ⟨rfl, rfl⟩]
    refine ⟨fun k hk hne q1 q2 => ?_, Int32.not_lt.mp hmi.2.1⟩
    have := fstI_none.mp hmi.2.2 k hk
    unfold mP_cell at this
    rw [q1, q2, beq_self_eq_true, beq_self_eq_true] at this
    cases this
end BRN
