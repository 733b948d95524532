/-! the best cell -/
/-- the first of the least keys below a bound -/
def S_fb (V : Nat → Bool) (K : Nat → Nat) (k0 : Nat) (x : Option Nat) (i : Nat) : Option Nat := if V i = true ∧ K i < atO x k0 K then some i else x
def fbOf (V : Nat → Bool) (K : Nat → Nat) (k0 : Nat) (x : Option Nat) (n : Nat) : Prop := (x = none ∧ ∀ i, i < n → V i = true → k0 ≤ K i) ∨ ∃ j, x = some j ∧ j < n ∧ V j = true ∧ K j < k0 ∧ (∀ i, i < n → V i = true → K j ≤ K i) ∧ ∀ i, i < j → V i = true → K j < K i
theorem fb_ok {V : Nat → Bool} {K : Nat → Nat} {k0 : Nat} : ∀ n : Nat, fbOf V K k0 (foldI (S_fb V K k0) none n) n
  | 0 => Or.inl ⟨rfl, fun i hi => absurd hi (Nat.not_lt_zero _)⟩
  | n + 1 => by
    rw [foldI_succ]
    rcases fb_ok (V := V) (K := K) (k0 := k0) n with ⟨h1, h2⟩ | ⟨j, h1, hj, hV, hk, h3, h4⟩
    · rw [h1]
      unfold S_fb
      by_cases hc : V n = true ∧ K n < atO none k0 K
      · rw [if_pos hc]
        have hc2 : K n < k0 := hc.2
        refine Or.inr ⟨n, rfl, by omega, hc.1, hc2, fun i hi hVi => ?_, fun i hi hVi => ?_⟩
        · by_cases hin : i = n
          · rw [hin]; exact Nat.le_refl _
          · have := h2 i (by omega) hVi; omega
        · have := h2 i hi hVi; omega
      · rw [if_neg hc]
        refine Or.inl ⟨rfl, fun i hi hVi => ?_⟩
        by_cases hin : i = n
        · subst hin
          exact Nat.le_of_not_lt (fun z => hc ⟨hVi, z⟩)
        · exact h2 i (by omega) hVi
    · rw [h1]
      unfold S_fb
      by_cases hc : V n = true ∧ K n < atO (some j) k0 K
      · rw [if_pos hc]
        have hc2 : K n < K j := hc.2
        refine Or.inr ⟨n, rfl, by omega, hc.1, by omega, fun i hi hVi => ?_, fun i hi hVi => ?_⟩
        · by_cases hin : i = n
          · rw [hin]; exact Nat.le_refl _
          · have := h3 i (by omega) hVi; omega
        · have := h3 i hi hVi; omega
      · rw [if_neg hc]
        refine Or.inr ⟨j, rfl, by omega, hV, hk, fun i hi hVi => ?_, h4⟩
        by_cases hin : i = n
        · subst hin
          exact Nat.le_of_not_lt (fun z => hc ⟨hVi, z⟩)
        · exact h3 i (by omega) hVi
/-- two such searches over numberings in the same order -/
theorem fb_map {V V2 : Nat → Bool} {K K2 : Nat → Nat} {k0 n n2 : Nat} {x x2 : Option Nat} {φ : Nat → Nat} (h : fbOf V K k0 x n) (h2 : fbOf V2 K2 k0 x2 n2) (hφ : ∀ i, i < n → V i = true → φ i < n2 ∧ V2 (φ i) = true ∧ K2 (φ i) = K i) (hm : ∀ i j, i < n → j < n → V i = true → V j = true → i < j → φ i < φ j) (hs : ∀ c, c < n2 → V2 c = true → ∃ i, i < n ∧ V i = true ∧ φ i = c) : x2 = x.map φ := by
  rcases h with ⟨rfl, h3⟩ | ⟨j, rfl, hj, hV, hk, h3, h4⟩
  · rcases h2 with ⟨rfl, _⟩ | ⟨c, rfl, hc, hVc, hkc, _, _⟩
    · rfl
    · obtain ⟨i, hi, hVi, rfl⟩ := hs c hc hVc
      have := h3 i hi hVi
      rw [(hφ i hi hVi).2.2] at hkc
      omega
  · obtain ⟨q1, q2, q3⟩ := hφ j hj hV
    rcases h2 with ⟨rfl, h5⟩ | ⟨c, rfl, hc, hVc, hkc, h5, h6⟩
    · have := h5 _ q1 q2; omega
    · obtain ⟨i, hi, hVi, rfl⟩ := hs c hc hVc
      have q4 := (hφ i hi hVi).2.2
      rcases Nat.lt_trichotomy i j with r | r | r
      · have := h4 i r hVi
        have := h5 _ q1 q2
        omega
      · rw [r]; rfl
      · have := h6 (φ j) (hm j i hj hi hV hVi r) q2
        have := h3 i hi hVi
        omega
section BRS
variable {g : Nat → Nat → Int32} {f : Nat → Int32} {B n t : Nat} {pi ro : Nat → Nat}
/-! a print moved for a look -/
theorem gP_upd2 {a r9 k w : Nat} {r c1 : Int32} (hw : w < 9) : gP (upd2 f (19 + 9 * a + 3) r (19 + 9 * a + 4) c1) k w = if k = a ∧ w = 3 then r else if k = a ∧ w = 4 then c1 else gP f k w := by
  unfold gP upd2 upd
  by_cases h4 : k = a ∧ w = 4
  · rw [if_pos (show 19 + 9 * k + w = 19 + 9 * a + 4 by omega), if_neg (show ¬ (k = a ∧ w = 3) by omega), if_pos h4]
  · by_cases h3 : k = a ∧ w = 3
    · rw [if_neg (show ¬ 19 + 9 * k + w = 19 + 9 * a + 4 by omega), if_pos (show 19 + 9 * k + w = 19 + 9 * a + 3 by omega), if_pos h3]
    · rw [if_neg (show ¬ 19 + 9 * k + w = 19 + 9 * a + 4 by omega), if_neg (show ¬ 19 + 9 * k + w = 19 + 9 * a + 3 by omega), if_neg h3, if_neg h4]
theorem upd2_lo {a j : Nat} {r c1 : Int32} (hj : j < 19) : upd2 f (19 + 9 * a + 3) r (19 + 9 * a + 4) c1 j = f j := by
  unfold upd2 upd
  rw [if_neg (by omega), if_neg (by omega)]
theorem g_mv {s k j : Nat} {r c1 : Int32} : sp_st (sp_st g (9 + s) 4 r) (9 + s) 5 c1 k j = if k = 9 + s ∧ j = 5 then c1 else if k = 9 + s ∧ j = 4 then r else g k j := by rw [sp_st_at, sp_st_at]
theorem BR.moved (h : BR g f B n t pi ro) {a : Nat} (ha : a < n) {r c1 : Int32} (hr : 0 ≤ r ∧ r ≤ 9) (hc : 0 ≤ c1 ∧ c1 ≤ 19) (hB : B ≤ 1000000) : BR (sp_st (sp_st g (9 + pi a) 4 r) (9 + pi a) 5 c1) (upd2 f (19 + 9 * a + 3) r (19 + 9 * a + 4) c1) 1000000 n t pi ro := by
  have hlo : ∀ j, j < 19 → upd2 f (19 + 9 * a + 3) r (19 + 9 * a + 4) c1 j = f j := fun j hj => upd2_lo hj
  have hg : ∀ k j, (j ≠ 4 ∧ j ≠ 5) ∨ k < 9 → sp_st (sp_st g (9 + pi a) 4 r) (9 + pi a) 5 c1 k j = g k j := fun k j hj => by rw [g_mv, if_neg (by omega), if_neg (by omega)]
  have hP : ∀ k w, w < 9 → w ≠ 3 → w ≠ 4 → gP (upd2 f (19 + 9 * a + 3) r (19 + 9 * a + 4) c1) k w = gP f k w := fun k w h1 h2 h3 => by rw [gP_upd2 (r9 := 0) h1, if_neg (by omega), if_neg (by omega)]
  have hP3 : ∀ k, gP (upd2 f (19 + 9 * a + 3) r (19 + 9 * a + 4) c1) k 3 = if k = a then r else gP f k 3 := fun k => by
    rw [gP_upd2 (r9 := 0) (by decide)]
    by_cases q : k = a
    · rw [if_pos ⟨q, rfl⟩, if_pos q]
    · rw [if_neg (by omega), if_neg (by omega), if_neg q]
  have hP4 : ∀ k, gP (upd2 f (19 + 9 * a + 3) r (19 + 9 * a + 4) c1) k 4 = if k = a then c1 else gP f k 4 := fun k => by
    rw [gP_upd2 (r9 := 0) (by decide)]
    by_cases q : k = a
    · rw [if_neg (by omega), if_pos ⟨q, rfl⟩, if_pos q]
    · rw [if_neg (by omega), if_neg (by omega), if_neg q]
  refine ⟨?_, ⟨h.2.1.1, h.2.1.2.1, fun i hi he => h.sj hi (by rwa [hg _ _ (Or.inl ⟨by decide, by decide⟩)] at he), fun k hk => by rw [hg _ _ (Or.inl ⟨by decide, by decide⟩)]; exact h.ex hk, fun k hk => ?_⟩, ⟨h.2.2.1.1, h.2.2.1.2.1, fun i hi he => h.tsj hi (by rwa [hg _ _ (Or.inr (by omega))] at he), fun k hk => by have := h.ro6 hk; rw [hg _ _ (Or.inr (by omega))]; exact h.tex hk, fun k hk => ?_⟩, ?_, ?_⟩
  · unfold MS
    rw [hlo 1 (by decide), hlo 0 (by decide)]
    exact h.1
  · obtain ⟨p0, p1, p2, p3, p4, p5, p6, p7, p8⟩ := h.pe hk
    refine ⟨?_, ?_, ?_, ?_, ?_, ?_, ?_, ?_, ?_⟩
    · rw [hP k 0 (by decide) (by decide) (by decide), hg _ _ (Or.inl ⟨by decide, by decide⟩)]; exact p0
    · rw [hP k 1 (by decide) (by decide) (by decide), hg _ _ (Or.inl ⟨by decide, by decide⟩)]; exact p1
    · rw [hP k 2 (by decide) (by decide) (by decide), hg _ _ (Or.inl ⟨by decide, by decide⟩)]; exact p2
    · rw [hP3, g_mv]
      by_cases q : k = a
      · rw [if_pos q, if_neg (show ¬ (9 + pi k = 9 + pi a ∧ 4 = 5) by omega), if_pos ⟨by rw [q], rfl⟩]
      · rw [if_neg q, if_neg (show ¬ (9 + pi k = 9 + pi a ∧ 4 = 5) by omega), if_neg (fun z => q (h.inj hk ha (by omega)))]; exact p3
    · rw [hP4, g_mv]
      by_cases q : k = a
      · rw [if_pos q, if_pos ⟨by rw [q], rfl⟩]
      · rw [if_neg q, if_neg (fun z => q (h.inj hk ha (by omega))), if_neg (by omega)]; exact p4
    · rw [hP k 5 (by decide) (by decide) (by decide), hg _ _ (Or.inl ⟨by decide, by decide⟩)]; exact p5
    · rw [hP k 6 (by decide) (by decide) (by decide), hg _ _ (Or.inl ⟨by decide, by decide⟩)]; exact p6
    · rw [hP k 7 (by decide) (by decide) (by decide), hg _ _ (Or.inl ⟨by decide, by decide⟩)]; exact p7
    · rw [hP k 8 (by decide) (by decide) (by decide), hg _ _ (Or.inl ⟨by decide, by decide⟩)]; exact p8
  · have h6 := h.ro6 hk
    have ht := h.t6
    rw [hg _ _ (Or.inr (by omega)), hg _ _ (Or.inr (by omega))]
    unfold gT gS
    rw [hlo _ (by omega), hlo _ (by omega)]
    exact ⟨h.tid hk, h.ts hk⟩
  · unfold SX
    rw [hlo _ (by decide), hlo _ (by decide), hlo _ (by decide), hlo _ (by decide), hlo _ (by decide), hg _ _ (Or.inr (by decide)), hg _ _ (Or.inr (by decide)), hg _ _ (Or.inr (by decide)), hg _ _ (Or.inr (by decide)), hg _ _ (Or.inr (by decide))]
    exact h.sx
  · have ht := h.t6
    have hT : ∀ k, k < t → gT (upd2 f (19 + 9 * a + 3) r (19 + 9 * a + 4) c1) k = gT f k ∧ gS (upd2 f (19 + 9 * a + 3) r (19 + 9 * a + 4) c1) k = gS f k := fun k hk => by
      unfold gT gS; exact ⟨hlo _ (by omega), hlo _ (by omega)⟩
    obtain ⟨v1, v2, v3, v4, v5, v6, v7, v8, v9, v10⟩ := h.vx
    refine ⟨fun k hk => ?_, fun j k hjk hk => ?_, fun j k hj hk q1 q2 => ?_, fun z => absurd z (by decide), fun k hk => ?_, fun k hk => ?_, fun j k hjk hk => ?_, ?_, ?_, ?_⟩
    · obtain ⟨w1, w2, w3, w4, w5, w6, w7, w8, w9, w10⟩ := v1 k hk
      unfold VP
      rw [hP k 2 (by decide) (by decide) (by decide), hP3, hP4, hP k 5 (by decide) (by decide) (by decide), hP k 6 (by decide) (by decide) (by decide), hP k 7 (by decide) (by decide) (by decide), hP k 8 (by decide) (by decide) (by decide), hP k 0 (by decide) (by decide) (by decide), hlo 3 (by decide)]
      refine ⟨w1, ?_, ?_, w4, w5, w6, w7, w8, w9, w10⟩
      · by_cases q : k = a
        · rw [if_pos q]; exact hr
        · rw [if_neg q]; exact w2
      · by_cases q : k = a
        · rw [if_pos q]; exact hc
        · rw [if_neg q]; exact w3
    · rw [hP j 0 (by decide) (by decide) (by decide), hP k 0 (by decide) (by decide) (by decide)]; exact v2 j k hjk hk
    · rw [hP j 1 (by decide) (by decide) (by decide), hP k 1 (by decide) (by decide) (by decide)] at q1
      rw [hP j 2 (by decide) (by decide) (by decide), hP k 2 (by decide) (by decide) (by decide)] at q2
      exact v3 j k hj hk q1 q2
    · obtain ⟨j, hj, he⟩ := v5 k hk
      exact ⟨j, hj, by rw [(hT j hj).1, hP k 1 (by decide) (by decide) (by decide)]; exact he⟩
    · rw [(hT k hk).1, (hT k hk).2, hlo 2 (by decide)]; exact v6 k hk
    · rw [(hT j (by omega)).1, (hT k hk).1]; exact v7 j k hjk hk
    · rw [hlo 4 (by decide)]; exact v8
    · rw [hlo 2 (by decide)]; exact ⟨v9.1, Int32.le_trans v9.2 (nI_le hB (by decide))⟩
    · rw [hlo 3 (by decide)]; exact ⟨v10.1, Int32.le_trans v10.2 (nI_le hB (by decide))⟩
theorem BR.errsW (h : BR g f B n t pi ro) {a : Nat} (ha : a < n) {r c1 : Int32} (hr : 0 ≤ r ∧ r ≤ 9) (hc : 0 ≤ c1 ∧ c1 ≤ 19) (hB : B ≤ 1000000) : f_errsW g (pi a) r c1 = m_there f n t a r c1 := by
  unfold f_errsW m_there
  rw [(h.moved ha hr hc hB).errs, gP_upd2 (r9 := 0) (by decide), if_neg (by omega), if_neg (by omega), (h.pe ha).2.1]
/-! why a change is rejected -/
theorem in12 {d : Int32} : (d < 1 ∨ 2 < d) ↔ ¬ m_in d 1 2 = true := by
  unfold m_in
  rw [Bool.and_eq_true, decide_eq_true_eq, decide_eq_true_eq]
  refine ⟨fun z w => z.elim (fun q => Int32.not_lt.mpr w.1 q) (fun q => Int32.not_lt.mpr w.2 q), fun z => ?_⟩
  by_cases q : d < 1
  · exact Or.inl q
  · exact Or.inr (Int32.not_le.mp (fun w => z ⟨Int32.not_lt.mp q, w⟩))
theorem BR.objCe (h : BR g f B n t pi ro) (hB : B < 1000000) (r c1 : Int32) : f_objCell g r c1 = m_objC f n r c1 := by
  unfold f_objCell m_objC f_under
  rw [← h.sx.2.2.1, h.cell hB]
  by_cases q : r < f 4
  · rw [if_pos (decide_eq_true q), if_pos q]
  · rw [if_neg (by rw [decide_eq_false q]; decide), if_neg q]
    rcases hm : m_cell f n r c1 with _ | j
    · rfl
    · show some ((5 : Int32), g (9 + pi j) 1) = some (5, gP f j 0)
      rw [(h.pe (m_cell_lt hm)).1]
theorem BR.objM (h : BR g f B n t pi ro) (hB : B < 1000000) {a : Nat} (ha : a < n) (r c1 : Int32) : f_objMove g (pi a) r c1 = m_objM f n a r c1 := by
  unfold f_objMove m_objM
  rw [h.dist ha, h.objCe hB]
  by_cases q : m_in (m_dist f a r c1) 1 2 = true
  · rw [if_neg (fun z => in12.mp z q), if_pos q]; rfl
  · rw [if_pos (in12.mpr q), if_neg q]
theorem m_may_obj {a : Nat} {r c1 : Int32} : m_may f n a r c1 = (m_objM f n a r c1).isNone := by
  unfold m_may m_objM
  rcases m_in (m_dist f a r c1) 1 2 with _ | _
  · rfl
  · rw [if_pos rfl]
    by_cases q : r < f 4
    · rw [if_pos q, decide_eq_false (Int32.not_le.mpr q)]; rfl
    · rw [if_neg q, decide_eq_true (Int32.not_lt.mp q)]
      rcases m_cell f n r c1 with _ | j <;> rfl
theorem BR.objP (h : BR g f B n t pi ro) (hB : B < 1000000) (x u r c1 : Int32) : f_objPrint g x u r c1 = m_objP f n x u r c1 := by
  unfold f_objPrint m_objP
  rw [h.all, h.time, h.objCe hB]
  by_cases q : nI n = 30
  · rw [if_pos q, if_pos q]
  · rw [if_neg q, if_neg q]
    rcases hm : m_time f n x u with _ | j
    · rfl
    · show some ((3 : Int32), g (9 + pi j) 1) = some (3, gP f j 0)
      rw [(h.pe (m_time_lt hm)).1]
theorem BR.objT (h : BR g f B n t pi ro) : f_objTrack g = if nI t = 6 then some (1, 6) else none := by
  unfold f_objTrack; rw [h.tracks]
theorem BR.objD (h : BR g f B n t pi ro) {k : Nat} (hk : k < n) : f_objDoubt g (pi k) = if gP f k 7 = 3 then some (7, 3) else none := by
  unfold f_objDoubt
  rw [← (h.pe hk).2.2.2.2.2.2.2.1]
  exact if_cg ⟨fun z => Int32.le_antisymm (h.vp hk).2.2.2.2.2.1.2 z, fun z => by rw [z]; decide⟩
theorem BR.objC (h : BR g f B n t pi ro) {k : Nat} (hk : k < n) : f_objConf g (pi k) = if gP f k 7 = 0 then some (8, 0) else none := by
  unfold f_objConf
  rw [← (h.pe hk).2.2.2.2.2.2.2.1]
  by_cases q : gP f k 7 = 0
  · rw [if_pos q, if_neg (by rw [q]; decide)]
  · rw [if_neg q, if_pos (Int32.lt_of_le_of_ne (h.vp hk).2.2.2.2.2.1.1 (fun z => q z.symm))]
theorem BR.objW (h : BR g f B n t pi ro) (v : Int32) : f_objTide g v = if f 4 = v then some (9, v) else none := by
  unfold f_objTide
  rw [← h.sx.2.2.1]
  by_cases q : f 4 = v
  · rw [if_pos q.symm, if_pos q, q]
  · rw [if_neg (fun z => q z.symm), if_neg q]
end BRS
