/-! changes keep the relation -/
section BRC
variable {g g' : Nat → Nat → Int32} {f f' : Nat → Int32} {B B' n t : Nat} {pi ro : Nat → Nat}
theorem MS.congr (h : MS f n t) (hf : ∀ j, j < 289 → f' j = f j) : MS f' n t := by
  unfold MS; rw [hf 1 (by decide), hf 0 (by decide)]; exact h
theorem gP_congr (hf : ∀ j, j < 289 → f' j = f j) {k w : Nat} (hk : k < 30) (hw : w < 9) : gP f' k w = gP f k w := hf _ (by omega)
theorem BR.congr (h : BR g f B n t pi ro) (hg : ∀ k j, k < 39 → g' k j = g k j) (hf : ∀ j, j < 289 → f' j = f j) (hB : B ≤ B') (hB2 : B' < 1000000) : BR g' f' B' n t pi ro := by
  have hn := h.n30
  have ht := h.t6
  have hP : ∀ k w, k < n → w < 9 → gP f' k w = gP f k w := fun k w hk hw => gP_congr hf (by omega) hw
  have hT : ∀ k, k < t → gT f' k = gT f k := fun k hk => hf _ (by omega)
  have hSS : ∀ k, k < t → gS f' k = gS f k := fun k hk => hf _ (by omega)
  refine ⟨h.1.congr hf, ⟨h.2.1.1, h.2.1.2.1, fun i hi he => h.sj hi (by rwa [hg _ _ (by omega)] at he), fun k hk => by have := h.pi30 hk; rw [hg _ _ (by omega)]; exact h.ex hk, fun k hk => ?_⟩, ⟨h.2.2.1.1, h.2.2.1.2.1, fun i hi he => h.tsj hi (by rwa [hg _ _ (by omega)] at he), fun k hk => by have := h.ro6 hk; rw [hg _ _ (by omega)]; exact h.tex hk, fun k hk => ?_⟩, ?_, ?_⟩
  · have h30 := h.pi30 hk
    unfold PE
    rw [hP k 0 hk (by decide), hP k 1 hk (by decide), hP k 2 hk (by decide), hP k 3 hk (by decide), hP k 4 hk (by decide), hP k 5 hk (by decide), hP k 6 hk (by decide), hP k 7 hk (by decide), hP k 8 hk (by decide)]
    rw [hg _ 1 (by omega), hg _ 2 (by omega), hg _ 3 (by omega), hg _ 4 (by omega), hg _ 5 (by omega), hg _ 6 (by omega), hg _ 7 (by omega), hg _ 8 (by omega), hg _ 9 (by omega)]
    exact h.pe hk
  · have h6 := h.ro6 hk
    rw [hT k hk, hSS k hk, hg _ 1 (by omega), hg _ 2 (by omega)]
    exact ⟨h.tid hk, h.ts hk⟩
  · unfold SX
    rw [hf 2 (by decide), hf 3 (by decide), hf 4 (by decide), hf 5 (by decide), hf 6 (by decide), hg 0 3 (by decide), hg 0 4 (by decide), hg 0 2 (by decide), hg 0 5 (by decide), hg 0 6 (by decide)]
    exact h.sx
  · obtain ⟨v1, v2, v3, v4, v5, v6, v7, v8, v9, v10⟩ := h.vx
    refine ⟨fun k hk => ?_, fun j k hjk hk => ?_, fun j k hj hk q1 q2 => ?_, fun _ => ⟨fun j k hj hk q1 q2 => ?_, fun k hk => ?_⟩, fun k hk => ?_, fun k hk => ?_, fun j k hjk hk => ?_, ?_, ?_, ?_⟩
    · unfold VP
      rw [hP k 0 hk (by decide), hP k 2 hk (by decide), hP k 3 hk (by decide), hP k 4 hk (by decide), hP k 5 hk (by decide), hP k 6 hk (by decide), hP k 7 hk (by decide), hP k 8 hk (by decide), hf 3 (by decide)]
      exact v1 k hk
    · rw [hP j 0 (by omega) (by decide), hP k 0 hk (by decide)]; exact v2 j k hjk hk
    · rw [hP j 1 hj (by decide), hP k 1 hk (by decide)] at q1
      rw [hP j 2 hj (by decide), hP k 2 hk (by decide)] at q2
      exact v3 j k hj hk q1 q2
    · rw [hP j 3 hj (by decide), hP k 3 hk (by decide)] at q1
      rw [hP j 4 hj (by decide), hP k 4 hk (by decide)] at q2
      exact (v4 (by omega)).1 j k hj hk q1 q2
    · rw [hf 4 (by decide), hP k 3 hk (by decide)]; exact (v4 (by omega)).2 k hk
    · obtain ⟨j, hj, he⟩ := v5 k hk
      exact ⟨j, hj, by rw [hT j hj, hP k 1 hk (by decide)]; exact he⟩
    · rw [hT k hk, hSS k hk, hf 2 (by decide)]; exact v6 k hk
    · rw [hT j (by omega), hT k hk]; exact v7 j k hjk hk
    · rw [hf 4 (by decide)]; exact v8
    · rw [hf 2 (by decide)]; exact ⟨v9.1, Int32.le_trans v9.2 (nI_le hB (by omega))⟩
    · rw [hf 3 (by decide)]; exact ⟨v10.1, Int32.le_trans v10.2 (nI_le hB (by omega))⟩
/-- one print changed in place; the number of corrections may change with it -/
theorem BR.chg (h : BR g f B n t pi ro) (hB : B < 1000000) {a : Nat} (ha : a < n) (hlo : ∀ j, j < 19 → j ≠ 6 → f' j = f j) (h6 : f' 6 = g' 0 6) (hg0 : ∀ j, j ≠ 6 → g' 0 j = g 0 j) (hgk : ∀ k j, 1 ≤ k → k ≠ 9 + pi a → g' k j = g k j) (hf : ∀ k w, w < 9 → k ≠ a → gP f' k w = gP f k w)
    (hex : g' (9 + pi a) 0 ≠ 0) (hpe : PE g' f' a (pi a)) (hvp : VP f' a) (hid : gP f' a 0 = gP f a 0) (htr : gP f' a 1 = gP f a 1) (htm : gP f' a 2 = gP f a 2) (hcell : (∀ k, k < n → k ≠ a → gP f k 3 = gP f' a 3 → gP f k 4 = gP f' a 4 → False) ∧ f 4 ≤ gP f' a 3) : BR g' f' B n t pi ro := by
  have ht := h.t6
  have hT : ∀ k, k < t → gT f' k = gT f k := fun k hk => hlo _ (by omega) (by omega)
  have hSS : ∀ k, k < t → gS f' k = gS f k := fun k hk => hlo _ (by omega) (by omega)
  have hi0 : ∀ k w, (w = 0 ∨ w = 1 ∨ w = 2) → gP f' k w = gP f k w := fun k w hw => by
    by_cases q : k = a
    · subst q
      rcases hw with rfl | rfl | rfl
      · exact hid
      · exact htr
      · exact htm
    · exact hf k w (by omega) q
  refine ⟨?_, ⟨h.2.1.1, h.2.1.2.1, fun i hi he => ?_, fun k hk => ?_, fun k hk => ?_⟩, ⟨h.2.2.1.1, h.2.2.1.2.1, fun i hi he => h.tsj hi (by rwa [hgk _ _ (by omega) (by omega)] at he), fun k hk => by have := h.ro6 hk; rw [hgk _ _ (by omega) (by omega)]; exact h.tex hk, fun k hk => ?_⟩, ?_, ?_⟩
  · unfold MS; rw [hlo 1 (by decide) (by decide), hlo 0 (by decide) (by decide)]; exact h.1
  · by_cases q : i = pi a
    · exact ⟨a, ha, q.symm⟩
    · exact h.sj hi (by rwa [hgk _ _ (by omega) (by omega)] at he)
  · by_cases q : k = a
    · subst q; exact hex
    · rw [hgk _ _ (by omega) (fun z => q (h.inj hk ha (by omega)))]; exact h.ex hk
  · by_cases q : k = a
    · subst q; exact hpe
    · have hne : 9 + pi k ≠ 9 + pi a := fun z => q (h.inj hk ha (by omega))
      unfold PE
      rw [hf k 0 (by decide) q, hf k 1 (by decide) q, hf k 2 (by decide) q, hf k 3 (by decide) q, hf k 4 (by decide) q, hf k 5 (by decide) q, hf k 6 (by decide) q, hf k 7 (by decide) q, hf k 8 (by decide) q]
      rw [hgk _ 1 (by omega) hne, hgk _ 2 (by omega) hne, hgk _ 3 (by omega) hne, hgk _ 4 (by omega) hne, hgk _ 5 (by omega) hne, hgk _ 6 (by omega) hne, hgk _ 7 (by omega) hne, hgk _ 8 (by omega) hne, hgk _ 9 (by omega) hne]
      exact h.pe hk
  · have h6 := h.ro6 hk
    rw [hT k hk, hSS k hk, hgk _ 1 (by omega) (by omega), hgk _ 2 (by omega) (by omega)]
    exact ⟨h.tid hk, h.ts hk⟩
  · unfold SX
    rw [hlo 2 (by decide) (by decide), hlo 3 (by decide) (by decide), hlo 4 (by decide) (by decide), hlo 5 (by decide) (by decide), hg0 3 (by decide), hg0 4 (by decide), hg0 2 (by decide), hg0 5 (by decide)]
    exact ⟨h.sx.1, h.sx.2.1, h.sx.2.2.1, h.sx.2.2.2.1, h6⟩
  · obtain ⟨v1, v2, v3, v4, v5, v6, v7, v8, v9, v10⟩ := h.vx
    refine ⟨fun k hk => ?_, fun j k hjk hk => ?_, fun j k hj hk q1 q2 => ?_, fun _ => ⟨fun j k hj hk q1 q2 => ?_, fun k hk => ?_⟩, fun k hk => ?_, fun k hk => ?_, fun j k hjk hk => ?_, ?_, ?_, ?_⟩
    · by_cases q : k = a
      · subst q; exact hvp
      · unfold VP
        rw [hf k 0 (by decide) q, hf k 2 (by decide) q, hf k 3 (by decide) q, hf k 4 (by decide) q, hf k 5 (by decide) q, hf k 6 (by decide) q, hf k 7 (by decide) q, hf k 8 (by decide) q, hlo 3 (by decide) (by decide)]
        exact v1 k hk
    · rw [hi0 j 0 (Or.inl rfl), hi0 k 0 (Or.inl rfl)]; exact v2 j k hjk hk
    · rw [hi0 j 1 (Or.inr (Or.inl rfl)), hi0 k 1 (Or.inr (Or.inl rfl))] at q1
      rw [hi0 j 2 (Or.inr (Or.inr rfl)), hi0 k 2 (Or.inr (Or.inr rfl))] at q2
      exact v3 j k hj hk q1 q2
    · by_cases qj : j = a
      · by_cases qk : k = a
        · omega
        · subst qj
          rw [hf k 3 (by decide) qk] at q1
          rw [hf k 4 (by decide) qk] at q2
          exact (hcell.1 k hk qk q1.symm q2.symm).elim
      · rw [hf j 3 (by decide) qj] at q1
        rw [hf j 4 (by decide) qj] at q2
        by_cases qk : k = a
        · subst qk
          exact (hcell.1 j hj qj q1 q2).elim
        · rw [hf k 3 (by decide) qk] at q1
          rw [hf k 4 (by decide) qk] at q2
          exact (v4 hB).1 j k hj hk q1 q2
    · rw [hlo 4 (by decide) (by decide)]
      by_cases q : k = a
      · subst q; exact hcell.2
      · rw [hf k 3 (by decide) q]; exact (v4 hB).2 k hk
    · obtain ⟨j, hj, he⟩ := v5 k hk
      exact ⟨j, hj, by rw [hT j hj, hi0 k 1 (Or.inr (Or.inl rfl))]; exact he⟩
    · rw [hT k hk, hSS k hk, hlo 2 (by decide) (by decide)]; exact v6 k hk
    · rw [hT j (by omega), hT k hk]; exact v7 j k hjk hk
    · rw [hlo 4 (by decide) (by decide)]; exact v8
    · rw [hlo 2 (by decide) (by decide)]; exact v9
    · rw [hlo 3 (by decide) (by decide)]; exact v10
/-- some prints gone: place k is now that of e k; the tide and what it erased may change with it -/
theorem BR.keep (h : BR g f B n t pi ro) (hB : B < 1000000) {n' : Nat} {e : Nat → Nat} (hMS : MS f' n' t) (he : ∀ k, k < n' → e k < n) (hm : ∀ j k, j < k → k < n' → e j < e k) (hT : ∀ k, k < t → gT f' k = gT f k ∧ gS f' k = gS f k) (hP : ∀ k w, k < n' → w < 9 → gP f' k w = gP f (e k) w) (h2 : f' 2 = f 2 ∧ f' 3 = f 3) (hS : SX g' f')
    (hgt : ∀ i j, i < 6 → g' (3 + i) j = g (3 + i) j) (hgp : ∀ k j, k < n' → 1 ≤ j → g' (9 + pi (e k)) j = g (9 + pi (e k)) j) (hex : ∀ k, k < n' → g' (9 + pi (e k)) 0 ≠ 0) (hsj : ∀ i, i < 30 → g' (9 + i) 0 ≠ 0 → ∃ k, k < n' ∧ pi (e k) = i) (htd : 0 ≤ f' 4 ∧ f' 4 ≤ 8) (hwt : ∀ k, k < n' → f' 4 ≤ gP f (e k) 3) : BR g' f' B n' t (fun k => pi (e k)) ro := by
  have hinj : ∀ j k, j < n' → k < n' → e j = e k → j = k := fun j k hj hk he2 => by
    rcases Nat.lt_trichotomy j k with q | q | q
    · have := hm j k q hk; omega
    · exact q
    · have := hm k j q hj; omega
  refine ⟨hMS, ⟨fun k hk => h.pi30 (he k hk), fun j k hj hk hjk => hinj j k hj hk (h.inj (he j hj) (he k hk) hjk), hsj, hex, fun k hk => ?_⟩, ⟨h.2.2.1.1, h.2.2.1.2.1, fun i hi hz => h.tsj hi (by rwa [hgt i 0 hi] at hz), fun k hk => by rw [hgt _ _ (h.ro6 hk)]; exact h.tex hk, fun k hk => ?_⟩, hS, ?_⟩
  · unfold PE
    rw [hP k 0 hk (by decide), hP k 1 hk (by decide), hP k 2 hk (by decide), hP k 3 hk (by decide), hP k 4 hk (by decide), hP k 5 hk (by decide), hP k 6 hk (by decide), hP k 7 hk (by decide), hP k 8 hk (by decide)]
    rw [hgp k 1 hk (by decide), hgp k 2 hk (by decide), hgp k 3 hk (by decide), hgp k 4 hk (by decide), hgp k 5 hk (by decide), hgp k 6 hk (by decide), hgp k 7 hk (by decide), hgp k 8 hk (by decide), hgp k 9 hk (by decide)]
    exact h.pe (he k hk)
  · rw [(hT k hk).1, (hT k hk).2, hgt _ _ (h.ro6 hk), hgt _ _ (h.ro6 hk)]
    exact ⟨h.tid hk, h.ts hk⟩
  · obtain ⟨v1, v2, v3, v4, v5, v6, v7, v8, v9, v10⟩ := h.vx
    refine ⟨fun k hk => ?_, fun j k hjk hk => ?_, fun j k hj hk q1 q2 => ?_, fun _ => ⟨fun j k hj hk q1 q2 => ?_, fun k hk => ?_⟩, fun k hk => ?_, fun k hk => ?_, fun j k hjk hk => ?_, htd, ?_, ?_⟩
    · unfold VP
      rw [hP k 0 hk (by decide), hP k 2 hk (by decide), hP k 3 hk (by decide), hP k 4 hk (by decide), hP k 5 hk (by decide), hP k 6 hk (by decide), hP k 7 hk (by decide), hP k 8 hk (by decide), h2.2]
      exact v1 _ (he k hk)
    · rw [hP j 0 (by omega) (by decide), hP k 0 hk (by decide)]; exact v2 _ _ (hm j k hjk hk) (he k hk)
    · rw [hP j 1 hj (by decide), hP k 1 hk (by decide)] at q1
      rw [hP j 2 hj (by decide), hP k 2 hk (by decide)] at q2
      exact hinj j k hj hk (v3 _ _ (he j hj) (he k hk) q1 q2)
    · rw [hP j 3 hj (by decide), hP k 3 hk (by decide)] at q1
      rw [hP j 4 hj (by decide), hP k 4 hk (by decide)] at q2
      exact hinj j k hj hk ((v4 hB).1 _ _ (he j hj) (he k hk) q1 q2)
    · rw [hP k 3 hk (by decide)]; exact hwt k hk
    · obtain ⟨j, hj, hje⟩ := v5 _ (he k hk)
      exact ⟨j, hj, by rw [(hT j hj).1, hP k 1 hk (by decide)]; exact hje⟩
    · rw [(hT k hk).1, (hT k hk).2, h2.1]; exact v6 k hk
    · rw [(hT j (by omega)).1, (hT k hk).1]; exact v7 j k hjk hk
    · rw [h2.1]; exact v9
    · rw [h2.2]; exact v10
end BRC
/-! the reference's removals: what stays, in its order -/
theorem gP_goes {μ : Nat → Nat → Int32} {n a k w : Nat} (ha : a < n) (hk : k < n - 1) (hw : w < 9) : gP (m_goes μ n a 1) k w = if k < a then gP (μ 1) k w else gP (μ 1) (k + 1) w := by
  unfold gP m_goes
  rw [sp_st_j _ _ _ _ _ _ (by omega)]
  unfold m_g2 m_g1
  rw [if_neg (by omega)]
  by_cases q : k < a
  · rw [if_neg (by omega), if_pos q]
  · rw [if_pos (by omega), if_neg q]
    congr 1
    omega
/-- the places that stay, of those that the search has seen from i places behind -/
def rmE (P : (Nat → Nat → Int32) → Nat → Bool) (μ : Nat → Nat → Int32) (n i : Nat) (s : Nat × (Nat → Nat → Int32)) (e : Nat → Nat) : Prop := (∀ k, k < s.1 → e k < n) ∧ (∀ j k, j < k → k < s.1 → e j < e k) ∧ (∀ k, k < n - i → e k = k) ∧ (∀ k, k < n → ((∃ j, j < s.1 ∧ e j = k) ↔ (k < n - i ∨ P μ k = false))) ∧ (∀ k w, k < s.1 → w < 9 → gP (s.2 1) k w = gP (μ 1) (e k) w) ∧ n - i ≤ s.1
theorem m_rm_char {P : (Nat → Nat → Int32) → Nat → Bool} {n : Nat} {μ : Nat → Nat → Int32} (hP : ∀ (τ ρ : Nat → Nat → Int32) (j k : Nat), (∀ w, w < 9 → gP (τ 1) j w = gP (ρ 1) k w) → P τ j = P ρ k) : ∀ i : Nat, i ≤ n → ∃ e, rmE P μ n i (m_rm P n μ i) e
  | 0, _ => ⟨fun k => k, fun k hk => hk, fun j k hjk _ => hjk, fun k _ => rfl, fun k hk => ⟨fun _ => Or.inl hk, fun _ => ⟨k, hk, rfl⟩⟩, fun k w _ _ => rfl, Nat.le_refl n⟩
  | i + 1, hi => by
    obtain ⟨e, h1, h2, h3, h4, h5, h6⟩ := m_rm_char (n := n) (μ := μ) hP i (by omega)
    rw [m_rm_s]
    unfold S_rm
    have hp : n - 1 - i < (m_rm P n μ i).1 := by omega
    have hep : e (n - 1 - i) = n - 1 - i := h3 _ (by omega)
    have hPe : P (m_rm P n μ i).2 (n - 1 - i) = P μ (n - 1 - i) := hP _ _ _ _ (fun w hw => by rw [h5 _ w hp hw, hep])
    by_cases hc : P (m_rm P n μ i).2 (n - 1 - i) = true
    · rw [if_pos hc]
      rw [hPe] at hc
      refine ⟨fun k => if k < n - 1 - i then e k else e (k + 1), fun k hk => ?_, fun j k hjk hk => ?_, fun k hk => ?_, fun k hk => ⟨fun z => ?_, fun z => ?_⟩, fun k w hk hw => ?_, ?_⟩
      · show (if k < n - 1 - i then e k else e (k + 1)) < n
        have hk9 : k < (m_rm P n μ i).1 - 1 := hk
        split
        · exact h1 k (by omega)
        · exact h1 (k + 1) (by omega)
      · show (if j < n - 1 - i then e j else e (j + 1)) < (if k < n - 1 - i then e k else e (k + 1))
        have hk9 : k < (m_rm P n μ i).1 - 1 := hk
        by_cases q1 : j < n - 1 - i
        · rw [if_pos q1]
          by_cases q2 : k < n - 1 - i
          · rw [if_pos q2]; exact h2 j k hjk (by omega)
          · rw [if_neg q2]; exact h2 j (k + 1) (by omega) (by omega)
        · rw [if_neg q1, if_neg (by omega)]; exact h2 (j + 1) (k + 1) (by omega) (by omega)
      · show (if k < n - 1 - i then e k else e (k + 1)) = k
        rw [if_pos (by omega)]; exact h3 k (by omega)
      · obtain ⟨j, hj, hje⟩ := z
        have hj9 : j < (m_rm P n μ i).1 - 1 := hj
        have hje2 : (if j < n - 1 - i then e j else e (j + 1)) = k := hje
        by_cases q1 : j < n - 1 - i
        · rw [if_pos q1, h3 j (by omega)] at hje2
          exact Or.inl (by omega)
        · rw [if_neg q1] at hje2
          have h7 := h2 (n - 1 - i) (j + 1) (by omega) (by omega)
          rcases (h4 k hk).mp ⟨j + 1, by omega, hje2⟩ with z1 | z1
          · exact absurd z1 (by omega)
          · exact Or.inr z1
      · have h8 : ∃ j, j < (m_rm P n μ i).1 ∧ e j = k := (h4 k hk).mpr (z.elim (fun q => Or.inl (by omega)) Or.inr)
        obtain ⟨j, hj, hje⟩ := h8
        have hjp : j ≠ n - 1 - i := fun q => by
          rw [q, hep] at hje
          rcases z with z | z
          · omega
          · rw [← hje, hc] at z; cases z
        by_cases q1 : j < n - 1 - i
        · exact ⟨j, by show j < (m_rm P n μ i).1 - 1; omega, by show (if j < n - 1 - i then e j else e (j + 1)) = k; rw [if_pos q1]; exact hje⟩
        · exact ⟨j - 1, by show j - 1 < (m_rm P n μ i).1 - 1; omega, by show (if j - 1 < n - 1 - i then e (j - 1) else e (j - 1 + 1)) = k; rw [if_neg (by omega), show j - 1 + 1 = j by omega]; exact hje⟩
      · have hk9 : k < (m_rm P n μ i).1 - 1 := hk
        show gP (m_goes (m_rm P n μ i).2 (m_rm P n μ i).1 (n - 1 - i) 1) k w = gP (μ 1) (if k < n - 1 - i then e k else e (k + 1)) w
        rw [gP_goes hp hk9 hw]
        by_cases q : k < n - 1 - i
        · rw [if_pos q, if_pos q]; exact h5 k w (by omega) hw
        · rw [if_neg q, if_neg q]; exact h5 (k + 1) w (by omega) hw
      · show n - (i + 1) ≤ (m_rm P n μ i).1 - 1; omega
    · rw [if_neg hc]
      rw [hPe] at hc
      refine ⟨e, h1, h2, fun k hk => h3 k (by omega), fun k hk => ⟨fun z => ?_, fun z => (h4 k hk).mpr (z.elim (fun q => Or.inl (by omega)) Or.inr)⟩, h5, by omega⟩
      rcases (h4 k hk).mp z with q | q
      · by_cases q2 : k = n - 1 - i
        · subst q2
          refine Or.inr ?_
          rcases hq : P μ (n - 1 - i) with _ | _
          · rfl
          · exact absurd hq hc
        · exact Or.inl (by omega)
      · exact Or.inr q
