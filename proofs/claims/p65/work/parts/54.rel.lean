/-! tracks and prints made and removed; the tide -/
section BRM
variable {g : Nat → Nat → Int32} {μ : Nat → Nat → Int32} {B n t : Nat} {pi ro : Nat → Nat}
theorem BR.freeT (h : BR g (μ 1) B n t pi ro) (ht : t < 6) : ∃ i, f_freeT g = some i ∧ i < 6 ∧ g (3 + i) 0 = 0 := by
  rcases opt_em (f_freeT g) with q | ⟨i, q⟩
  · exfalso
    have h1 := h.tracks
    unfold f_countTracks at h1
    rw [sumI_cnt (p := fun _ => true) (fun i hi => by
      have h2 := fstI_none.mp q i hi
      unfold P_freeT at h2
      unfold F_countTracks
      rw [ne_true (by simpa using h2)]), cntN_all] at h1
    have := (nI_eq (by decide) (by omega)).mp h1
    omega
  · obtain ⟨h1, h2, -⟩ := fstI_some q
    unfold P_freeT at h2
    exact ⟨i, q, h1, by simpa using h2⟩
theorem BR.freeP (h : BR g (μ 1) B n t pi ro) (hn : n < 30) : ∃ i, f_freeP g = some i ∧ i < 30 ∧ g (9 + i) 0 = 0 := by
  rcases opt_em (f_freeP g) with q | ⟨i, q⟩
  · exfalso
    have h1 : sumI (fun i => b2i (g (9 + i) 0 != 0)) 30 = sumI (fun _ => b2i true) n := h.sum (fun i _ hz => by show b2i _ = 0; rw [ne_false.mpr hz]; rfl) (fun k hk => by show b2i _ = b2i true; rw [ne_true (h.ex hk)])
    rw [sumI_cnt (p := fun _ => true) (fun i hi => by
      have h2 := fstI_none.mp q i hi
      unfold P_freeP at h2
      show b2i _ = b2i true
      rw [ne_true (by simpa using h2)]), sumI_cnt (p := fun _ => true) (fun _ _ => rfl), cntN_all, cntN_all] at h1
    have := (nI_eq (by decide) (by omega)).mp h1
    omega
  · obtain ⟨h1, h2, -⟩ := fstI_some q
    unfold P_freeP at h2
    exact ⟨i, q, h1, by simpa using h2⟩
theorem next_id {x : Int32} (h : 0 ≤ x ∧ x ≤ nI B) (hB : B + 1 < 1000000) : x < x + 1 ∧ 0 ≤ x + 1 ∧ x + 1 ≤ nI (B + 1) := by
  obtain ⟨m, hm, e⟩ := nI_of2 (M := nI B) (n := B) (nI_toInt (by omega)) (Int32.not_lt.mpr h.1) h.2
  rw [e, nI_1]
  exact ⟨nI_lt (by omega) (by omega), nI_pos' (by omega), nI_le (by omega) (by omega)⟩
theorem BR.putT (h : BR g (μ 1) B n t pi ro) (hB : B + 1 < 1000000) (ht : t < 6) {z : Int32} (hz : 1 ≤ z ∧ z ≤ 9) : ∃ ro', BR (f_putT g z) (sp_st (sp_st (sp_st (sp_st (sp_st μ 0 4 (μ 1 2)) 1 2 (μ 1 2 + 1)) 1 0 (nI t + 1)) 1 (7 + 2 * t) (μ 1 2)) 1 (7 + 2 * t + 1) z 1) (B + 1) n (t + 1) pi ro' := by
  obtain ⟨i, hi, hi6, hi0⟩ := h.freeT ht
  generalize hA : sp_st (sp_st (sp_st (sp_st (sp_st μ 0 4 (μ 1 2)) 1 2 (μ 1 2 + 1)) 1 0 (nI t + 1)) 1 (7 + 2 * t) (μ 1 2)) 1 (7 + 2 * t + 1) z 1 = f'
  have a1 : ∀ j, j ≠ 0 → j ≠ 2 → j ≠ 7 + 2 * t → j ≠ 7 + 2 * t + 1 → f' j = μ 1 j := fun j q1 q2 q3 q4 => by
    rw [← hA, sp_st_j _ _ _ _ _ _ q4, sp_st_j _ _ _ _ _ _ q3, sp_st_j _ _ _ _ _ _ q1, sp_st_j _ _ _ _ _ _ q2, sp_st_k _ _ _ _ _ _ (by decide)]
  have a0 : f' 0 = nI t + 1 := by rw [← hA, sp_st_j _ _ _ _ _ _ (by omega), sp_st_j _ _ _ _ _ _ (by omega), sp_st_s]
  have a2 : f' 2 = μ 1 2 + 1 := by rw [← hA, sp_st_j _ _ _ _ _ _ (by omega), sp_st_j _ _ _ _ _ _ (by omega), sp_st_j _ _ _ _ _ _ (by decide), sp_st_s]
  have aT : f' (7 + 2 * t) = μ 1 2 := by rw [← hA, sp_st_j _ _ _ _ _ _ (by omega), sp_st_s]
  have aS : f' (7 + 2 * t + 1) = z := by rw [← hA, sp_st_s]
  have hg : ∀ k j, k ≠ 3 + i → (k ≠ 0 ∨ j ≠ 3) → f_putT g z k j = g k j := fun k j q1 q2 => by
    unfold f_putT
    rw [hi]
    show sp_st (sp_st (sp_st (sp_st g (3 + i) 0 1) (3 + i) 1 (g 0 3)) (3 + i) 2 z) 0 3 (g 0 3 + 1) k j = g k j
    rw [sp_st_at, if_neg (by omega), sp_st_k _ _ _ _ _ _ q1, sp_st_k _ _ _ _ _ _ q1, sp_st_k _ _ _ _ _ _ q1]
  have g3 : f_putT g z 0 3 = g 0 3 + 1 := by
    unfold f_putT; rw [hi]; exact sp_st_s _ _ _ _
  have gi : f_putT g z (3 + i) 0 = 1 ∧ f_putT g z (3 + i) 1 = g 0 3 ∧ f_putT g z (3 + i) 2 = z := by
    unfold f_putT
    rw [hi]
    refine ⟨?_, ?_, ?_⟩
    · show sp_st (sp_st (sp_st (sp_st g (3 + i) 0 1) (3 + i) 1 (g 0 3)) (3 + i) 2 z) 0 3 (g 0 3 + 1) (3 + i) 0 = 1
      rw [sp_st_k _ _ _ _ _ _ (by omega), sp_st_j _ _ _ _ _ _ (by decide), sp_st_j _ _ _ _ _ _ (by decide), sp_st_s]
    · show sp_st (sp_st (sp_st (sp_st g (3 + i) 0 1) (3 + i) 1 (g 0 3)) (3 + i) 2 z) 0 3 (g 0 3 + 1) (3 + i) 1 = g 0 3
      rw [sp_st_k _ _ _ _ _ _ (by omega), sp_st_j _ _ _ _ _ _ (by decide), sp_st_s]
    · show sp_st (sp_st (sp_st (sp_st g (3 + i) 0 1) (3 + i) 1 (g 0 3)) (3 + i) 2 z) 0 3 (g 0 3 + 1) (3 + i) 2 = z
      rw [sp_st_k _ _ _ _ _ _ (by omega), sp_st_s]
  have hne : ∀ k, k < t → ro k ≠ i := fun k hk q => h.tex hk (by rw [q]; exact hi0)
  have hn := h.n30
  have hP : ∀ k w, gP f' k w = gP (μ 1) k w := fun k w => a1 _ (by omega) (by omega) (by omega) (by omega)
  have hT : ∀ k, k < t → gT f' k = gT (μ 1) k ∧ gS f' k = gS (μ 1) k := fun k hk => ⟨a1 _ (by omega) (by omega) (by omega) (by omega), a1 _ (by omega) (by omega) (by omega) (by omega)⟩
  have hT9 : gT f' t = μ 1 2 ∧ gS f' t = z := ⟨aT, aS⟩
  obtain ⟨v1, v2, v3, v4, v5, v6, v7, v8, v9, v10⟩ := h.vx
  obtain ⟨n1, n2, n3⟩ := next_id v9 hB
  refine ⟨fun k => if k = t then i else ro k, ?_, ⟨h.2.1.1, h.2.1.2.1, fun i2 hi2 he => h.sj hi2 (by rwa [hg _ _ (by omega) (by omega)] at he), fun k hk => by rw [hg _ _ (by omega) (by omega)]; exact h.ex hk, fun k hk => ?_⟩, ⟨fun k hk => ?_, fun j k hj hk hjk => ?_, fun i2 hi2 he => ?_, fun k hk => ?_, fun k hk => ?_⟩, ?_, ?_⟩
  · exact ⟨by rw [a1 1 (by decide) (by decide) (by omega) (by omega)]; exact h.1.1, hn, by rw [a0]; exact nI_1 t, by omega⟩
  · unfold PE
    rw [hP, hP, hP, hP, hP, hP, hP, hP, hP]
    rw [hg _ 1 (by omega) (by omega), hg _ 2 (by omega) (by omega), hg _ 3 (by omega) (by omega), hg _ 4 (by omega) (by omega), hg _ 5 (by omega) (by omega), hg _ 6 (by omega) (by omega), hg _ 7 (by omega) (by omega), hg _ 8 (by omega) (by omega), hg _ 9 (by omega) (by omega)]
    exact h.pe hk
  · show (if k = t then i else ro k) < 6
    by_cases q : k = t
    · rw [if_pos q]; exact hi6
    · rw [if_neg q]; exact h.ro6 (by omega)
  · have hjk2 : (if j = t then i else ro j) = (if k = t then i else ro k) := hjk
    by_cases q1 : j = t
    · by_cases q2 : k = t
      · omega
      · rw [if_pos q1, if_neg q2] at hjk2; exact absurd hjk2.symm (hne k (by omega))
    · by_cases q2 : k = t
      · rw [if_neg q1, if_pos q2] at hjk2; exact absurd hjk2 (hne j (by omega))
      · rw [if_neg q1, if_neg q2] at hjk2; exact h.tinj (by omega) (by omega) hjk2
  · by_cases q : i2 = i
    · exact ⟨t, by omega, by show (if t = t then i else ro t) = i2; rw [if_pos rfl, q]⟩
    · obtain ⟨k, hk, hke⟩ := h.tsj hi2 (by rwa [hg _ _ (by omega) (by omega)] at he)
      exact ⟨k, by omega, by show (if k = t then i else ro k) = i2; rw [if_neg (by omega)]; exact hke⟩
  · show f_putT g z (3 + (if k = t then i else ro k)) 0 ≠ 0
    by_cases q : k = t
    · rw [if_pos q, gi.1]; decide
    · have := hne k (by omega)
      rw [if_neg q, hg _ _ (by omega) (by omega)]; exact h.tex (by omega)
  · show gT f' k = f_putT g z (3 + (if k = t then i else ro k)) 1 ∧ gS f' k = f_putT g z (3 + (if k = t then i else ro k)) 2
    by_cases q : k = t
    · subst q
      rw [if_pos rfl, gi.2.1, gi.2.2, hT9.1, hT9.2, h.sx.1]; exact ⟨rfl, rfl⟩
    · have := hne k (by omega)
      rw [if_neg q, hg _ 1 (by omega) (by omega), hg _ 2 (by omega) (by omega), (hT k (by omega)).1, (hT k (by omega)).2]
      exact ⟨h.tid (by omega), h.ts (by omega)⟩
  · unfold SX
    rw [a2, g3, a1 3 (by decide) (by decide) (by omega) (by omega), a1 4 (by decide) (by decide) (by omega) (by omega), a1 5 (by decide) (by decide) (by omega) (by omega), a1 6 (by decide) (by decide) (by omega) (by omega), hg 0 4 (by omega) (by decide), hg 0 2 (by omega) (by decide), hg 0 5 (by omega) (by decide), hg 0 6 (by omega) (by decide), h.sx.1]
    exact ⟨rfl, h.sx.2⟩
  · refine ⟨fun k hk => ?_, fun j k hjk hk => ?_, fun j k hj hk q1 q2 => ?_, fun _ => ⟨fun j k hj hk q1 q2 => ?_, fun k hk => ?_⟩, fun k hk => ?_, fun k hk => ?_, fun j k hjk hk => ?_, ?_, ?_, ?_⟩
    · unfold VP
      rw [hP, hP, hP, hP, hP, hP, hP, hP, a1 3 (by decide) (by decide) (by omega) (by omega)]; exact v1 k hk
    · rw [hP, hP]; exact v2 j k hjk hk
    · rw [hP, hP] at q1 q2; exact v3 j k hj hk q1 q2
    · rw [hP, hP] at q1 q2; exact (v4 (by omega)).1 j k hj hk q1 q2
    · rw [hP, a1 4 (by decide) (by decide) (by omega) (by omega)]; exact (v4 (by omega)).2 k hk
    · obtain ⟨j, hj, he⟩ := v5 k hk
      exact ⟨j, by omega, by rw [(hT j hj).1, hP]; exact he⟩
    · rw [a2]
      by_cases q : k = t
      · subst q
        rw [hT9.1, hT9.2]
        exact ⟨v9.1, n1, hz⟩
      · obtain ⟨w1, w2, w3⟩ := v6 k (by omega)
        rw [(hT k (by omega)).1, (hT k (by omega)).2]
        exact ⟨w1, Int32.lt_trans w2 n1, w3⟩
    · by_cases q : k = t
      · subst q
        rw [(hT j hjk).1, hT9.1]; exact (v6 j hjk).2.1
      · rw [(hT j (by omega)).1, (hT k (by omega)).1]; exact v7 j k hjk (by omega)
    · rw [a1 4 (by decide) (by decide) (by omega) (by omega)]; exact v8
    · rw [a2]; exact ⟨n2, n3⟩
    · rw [a1 3 (by decide) (by decide) (by omega) (by omega)]; exact ⟨v10.1, Int32.le_trans v10.2 (nI_le (by omega) (by omega))⟩
/-- one print removed -/
theorem BR.drop1 (h : BR g (μ 1) B n t pi ro) (hB : B < 1000000) {a : Nat} (ha : a < n) (z : Int32) : ∃ pi', BR (sp_st g (9 + pi a) 0 0) (m_goes (sp_st μ 0 4 z) n a 1) B (n - 1) t pi' ro := by
  have ht := h.t6
  have hms : MS (sp_st μ 0 4 z 1) n t := h.1.st0
  have ho : ∀ j, j < 19 → j ≠ 1 → m_goes (sp_st μ 0 4 z) n a 1 j = μ 1 j := fun j q1 q2 => by rw [m_goes_out (Or.inr ⟨q1, q2⟩), sp_st_k _ _ _ _ _ _ (by decide)]
  have hE : ∀ k, k < n - 1 → (if k < a then k else k + 1) < n := fun k hk => by split <;> omega
  have hEa : ∀ k, (if k < a then k else k + 1) ≠ a := fun k => by split <;> omega
  have hne : ∀ k, k < n - 1 → 9 + pi (if k < a then k else k + 1) ≠ 9 + pi a := fun k hk z9 => hEa k (h.inj (hE k hk) ha (by omega))
  refine ⟨fun k => pi (if k < a then k else k + 1), h.keep hB (f' := m_goes (sp_st μ 0 4 z) n a 1) (n' := n - 1) (e := fun k => if k < a then k else k + 1) (m_goes_MS hms ha) hE (fun j k hjk hk => ?_) (fun k hk => ⟨ho _ (by omega) (by omega), ho _ (by omega) (by omega)⟩) (fun k w hk hw => ?_) ⟨ho 2 (by decide) (by decide), ho 3 (by decide) (by decide)⟩ ?_ (fun i j hi => sp_st_k _ _ _ _ _ _ (by omega)) (fun k j hk _ => sp_st_k _ _ _ _ _ _ (hne k hk)) (fun k hk => by rw [sp_st_k _ _ _ _ _ _ (hne k hk)]; exact h.ex (hE k hk)) (fun i hi he => ?_) (by rw [ho 4 (by decide) (by decide)]; exact h.vx.2.2.2.2.2.2.2.1) (fun k hk => by rw [ho 4 (by decide) (by decide)]; exact (h.vx.2.2.2.1 hB).2 _ (hE k hk))⟩
  · show (if j < a then j else j + 1) < (if k < a then k else k + 1)
    split <;> split <;> omega
  · rw [gP_goes ha hk hw, st0_1]
    show _ = gP (μ 1) (if k < a then k else k + 1) w
    split <;> rfl
  · unfold SX
    rw [ho 2 (by decide) (by decide), ho 3 (by decide) (by decide), ho 4 (by decide) (by decide), ho 5 (by decide) (by decide), ho 6 (by decide) (by decide), sp_st_k _ _ _ _ _ _ (by omega), sp_st_k _ _ _ _ _ _ (by omega), sp_st_k _ _ _ _ _ _ (by omega), sp_st_k _ _ _ _ _ _ (by omega), sp_st_k _ _ _ _ _ _ (by omega)]
    exact h.sx
  · by_cases q : i = pi a
    · rw [q, sp_st_s] at he; exact absurd rfl he
    · obtain ⟨k, hk, hke⟩ := h.sj hi (by rwa [sp_st_k _ _ _ _ _ _ (by omega)] at he)
      have hka : k ≠ a := fun z9 => q (by rw [← hke, z9])
      by_cases q2 : k < a
      · exact ⟨k, by omega, by show pi (if k < a then k else k + 1) = i; rw [if_pos q2]; exact hke⟩
      · exact ⟨k - 1, by omega, by show pi (if k - 1 < a then k - 1 else k - 1 + 1) = i; rw [if_neg (by omega), show k - 1 + 1 = k by omega]; exact hke⟩
/-- the prints of a kind removed -/
theorem BR.dropQ (h : BR g (μ 1) B n t pi ro) (hB : B < 1000000) {P : (Nat → Nat → Int32) → Nat → Bool} (hP : ∀ (τ ρ : Nat → Nat → Int32) (j k : Nat), (∀ w, w < 9 → gP (τ 1) j w = gP (ρ 1) k w) → P τ j = P ρ k) (z : Int32) {g' : Nat → Nat → Int32} {f' : Nat → Int32}
    (hf : ∀ j, j < 289 → j ≠ 4 → j ≠ 5 → f' j = (m_rm P n (sp_st μ 0 4 z) n).2 1 j) (hS : SX g' f') (hgt : ∀ i j, i < 6 → g' (3 + i) j = g (3 + i) j) (hgp : ∀ i j, i < 30 → 1 ≤ j → g' (9 + i) j = g (9 + i) j) (hgx : ∀ k, k < n → g' (9 + pi k) 0 = if P μ k = true then 0 else g (9 + pi k) 0) (hgz : ∀ i, i < 30 → g (9 + i) 0 = 0 → g' (9 + i) 0 = 0) (htd : 0 ≤ f' 4 ∧ f' 4 ≤ 8) (hwt : ∀ k, k < n → P μ k = false → f' 4 ≤ gP (μ 1) k 3) :
    ∃ (n' : Nat) (e : Nat → Nat), BR g' f' B n' t (fun k => pi (e k)) ro ∧ (∀ k, k < n' → e k < n ∧ P μ (e k) = false) ∧ ∀ k w, k < n' → w < 9 → gP f' k w = gP (μ 1) (e k) w := by
  have ht := h.t6
  have hn := h.n30
  have hms : MS (sp_st μ 0 4 z 1) n t := h.1.st0
  obtain ⟨e, h1, h2, h3, h4, h5, h6⟩ := m_rm_char (n := n) (μ := sp_st μ 0 4 z) hP n (Nat.le_refl n)
  obtain ⟨m1, -⟩ := m_rm_ok (P := P) hms n (Nat.le_refl n)
  have hPm : ∀ k, P (sp_st μ 0 4 z) k = P μ k := fun k => hP _ _ _ _ (fun w _ => by rw [st0_1])
  have hn' := m1.2.1
  have hPf : ∀ k, k < (m_rm P n (sp_st μ 0 4 z) n).1 → e k < n ∧ P μ (e k) = false := fun k hk => by
    refine ⟨h1 k hk, ?_⟩
    rcases (h4 (e k) (h1 k hk)).mp ⟨k, hk, rfl⟩ with q | q
    · omega
    · rw [hPm] at q; exact q
  have hGP : ∀ k w, k < (m_rm P n (sp_st μ 0 4 z) n).1 → w < 9 → gP f' k w = gP (μ 1) (e k) w := fun k w hk hw => by
    have h7 := h5 k w hk hw
    rw [st0_1] at h7
    rw [← h7]
    exact hf _ (by omega) (by omega) (by omega)
  have hlo : ∀ j, j < 19 → j ≠ 1 → j ≠ 4 → j ≠ 5 → f' j = μ 1 j := fun j q1 q2 q3 q4 => by
    rw [hf j (by omega) q3 q4, m_rm_out (Or.inr ⟨q1, q2⟩), sp_st_k _ _ _ _ _ _ (by decide)]
  refine ⟨(m_rm P n (sp_st μ 0 4 z) n).1, e, h.keep hB (f' := f') (n' := (m_rm P n (sp_st μ 0 4 z) n).1) (e := e) ?_ h1 h2 (fun k hk => ⟨hlo _ (by omega) (by omega) (by omega) (by omega), hlo _ (by omega) (by omega) (by omega) (by omega)⟩) hGP ⟨hlo 2 (by decide) (by decide) (by decide) (by decide), hlo 3 (by decide) (by decide) (by decide) (by decide)⟩ hS hgt (fun k j hk hj => hgp _ j (h.pi30 (h1 k hk)) hj) (fun k hk => ?_) (fun i hi he => ?_) htd (fun k hk => hwt _ (h1 k hk) (hPf k hk).2), hPf, hGP⟩
  · unfold MS
    rw [hf 1 (by decide) (by decide) (by decide), hf 0 (by decide) (by decide) (by decide)]; exact m1
  · rw [hgx _ (h1 k hk), if_neg (by rw [(hPf k hk).2]; decide)]; exact h.ex (h1 k hk)
  · obtain ⟨k, hk, hke⟩ := h.sj hi (fun q => he (hgz i hi q))
    have hPk : P μ k = false := by
      rcases hq : P μ k with _ | _
      · rfl
      · rw [← hke, hgx k hk, if_pos hq] at he; exact absurd rfl he
    obtain ⟨j, hj, hje⟩ := (h4 k hk).mpr (Or.inr (by rw [hPm]; exact hPk))
    exact ⟨j, hj, by rw [hje]; exact hke⟩
end BRM
