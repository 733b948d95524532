/-! THE RELATION of the two worlds -/
def cB (σ : Nat → Nat → Int32) (b : Nat) : Nat → Nat → Int32 := fun k => σ (39 * b + k)
def mB (μ : Nat → Nat → Int32) (v : Nat) : Nat → Int32 := fun j => μ 1 (289 * v + j)
def BE (g : Nat → Nat → Int32) (f : Nat → Int32) (B : Nat) : Prop := ∃ n t pi ro, BR g f B n t pi ro
theorem BE.congr {g g' : Nat → Nat → Int32} {f f' : Nat → Int32} {B B' : Nat} (h : BE g f B) (hg : ∀ k j, k < 39 → g' k j = g k j) (hf : ∀ j, j < 289 → f' j = f j) (hB : B ≤ B') (hB2 : B' < 1000000) : BE g' f' B' := by
  obtain ⟨n, t, pi, ro, h⟩ := h
  exact ⟨n, t, pi, ro, h.congr hg hf hB hB2⟩
/-- the rejection kept -/
def RJ (rc : Option RC) (μ : Nat → Nat → Int32) : Prop := match rc with
  | none => μ 0 5 = 0 ∧ μ 0 7 = 0
  | some (r, d, none) => μ 0 5 = r ∧ r ≠ 0 ∧ μ 0 6 = d ∧ μ 0 7 = 0
  | some (r, d, some (y1, y2)) => μ 0 5 = r ∧ r ≠ 0 ∧ μ 0 6 = d ∧ μ 0 7 = y1 ∧ y1 ≠ 0 ∧ μ 0 8 = y2
/-- the changes that can be undone -/
def RH (B : Nat) (σ : Nat → Nat → Int32) (pm : Nat → Nat) (μ : Nat → Nat → Int32) : Prop := (∃ ch, ch ≤ 8 ∧ μ 0 2 = nI ch ∧ σ 431 1 = nI ch ∧ ∀ j, j < ch → BE (cB σ (pm j)) (mB μ (ch - j)) B) ∧ (∀ j, j < 8 → 1 ≤ pm j ∧ pm j ≤ 8) ∧ ∀ i j, i < 8 → j < 8 → pm i = pm j → i = j
def RS (B : Nat) (σ μ : Nat → Nat → Int32) : Prop := bz (μ 0 3) = bz (σ 429 5) ∧ (μ 0 3 ≠ 0 → BE (cB σ 10) (mB μ 9) B)
def RO (σ μ : Nat → Nat → Int32) : Prop := ∃ os, os ≤ 90 ∧ μ 0 10 = nI os ∧ σ 436 1 = nI os ∧ ∀ j, j < os → cz (μ 2 j) = cz (σ 437 j)
def RI (σ μ : Nat → Nat → Int32) : Prop := ∃ ty, ty ≤ 60 ∧ μ 0 12 = nI ty ∧ σ 434 1 = nI ty ∧ ∀ j, j < ty → cz (μ 3 j) = cz (σ 435 j)
def RR (B : Nat) (σ : Nat → Nat → Int32) (pm : Nat → Nat) (rc : Option RC) (μ : Nat → Nat → Int32) : Prop := BE σ (μ 1) B ∧ RH B σ pm μ ∧ RS B σ μ ∧ RJ rc μ ∧ RO σ μ ∧ RI σ μ ∧ μ 0 15 = σ 429 9 ∧ 0 ≤ μ 0 13
theorem RJ.congr {rc : Option RC} {μ τ : Nat → Nat → Int32} (h : RJ rc μ) (he : ∀ j, 5 ≤ j → j ≤ 8 → τ 0 j = μ 0 j) : RJ rc τ := by
  unfold RJ at h ⊢
  rcases rc with _ | ⟨r, d, _ | ⟨y1, y2⟩⟩
  · show τ 0 5 = 0 ∧ τ 0 7 = 0
    rw [he 5 (by decide) (by decide), he 7 (by decide) (by decide)]; exact h
  · show τ 0 5 = r ∧ r ≠ 0 ∧ τ 0 6 = d ∧ τ 0 7 = 0
    rw [he 5 (by decide) (by decide), he 6 (by decide) (by decide), he 7 (by decide) (by decide)]; exact h
  · show τ 0 5 = r ∧ r ≠ 0 ∧ τ 0 6 = d ∧ τ 0 7 = y1 ∧ y1 ≠ 0 ∧ τ 0 8 = y2
    rw [he 5 (by decide) (by decide), he 6 (by decide) (by decide), he 7 (by decide) (by decide), he 8 (by decide) (by decide)]; exact h
theorem RO.congr {σ ς μ τ : Nat → Nat → Int32} (h : RO σ μ) (h1 : τ 0 10 = μ 0 10) (h2 : ∀ j, τ 2 j = μ 2 j) (h3 : ς 436 1 = σ 436 1) (h4 : ∀ j, ς 437 j = σ 437 j) : RO ς τ := by
  obtain ⟨os, a, b, c, d⟩ := h
  exact ⟨os, a, by rw [h1]; exact b, by rw [h3]; exact c, fun j hj => by rw [h2, h4]; exact d j hj⟩
theorem RI.congr {σ ς μ τ : Nat → Nat → Int32} (h : RI σ μ) (h1 : τ 0 12 = μ 0 12) (h2 : ∀ j, τ 3 j = μ 3 j) (h3 : ς 434 1 = σ 434 1) (h4 : ∀ j, ς 435 j = σ 435 j) : RI ς τ := by
  obtain ⟨os, a, b, c, d⟩ := h
  exact ⟨os, a, by rw [h1]; exact b, by rw [h3]; exact c, fun j hj => by rw [h2, h4]; exact d j hj⟩
/-- what a call leaves that reads -/
theorem RR.cong (B' : Nat) {B : Nat} {σ μ τ : Nat → Nat → Int32} {pm : Nat → Nat} {rc rc' : Option RC} (h : RR B σ pm rc μ) (hB : B ≤ B') (hB2 : B' < 1000000) (h1 : ∀ j, j < 2890 → τ 1 j = μ 1 j) (h0 : ∀ k j, k ≠ 1 → ¬ (k = 0 ∧ (j = 0 ∨ j = 4 ∨ j = 5 ∨ j = 6 ∨ j = 7 ∨ j = 8)) → k < 4 → ¬ (k = 0 ∧ (j = 14 ∨ j = 17)) → τ k j = μ k j) (hj : RJ rc' τ) : RR B' σ pm rc' τ := by
  obtain ⟨a, ⟨⟨ch, c1, c2, c3, c4⟩, hp⟩, ⟨s1, s2⟩, _, o, i, e, hh⟩ := h
  refine ⟨a.congr (fun _ _ _ => rfl) (fun j hj => h1 j (by omega)) hB hB2, ⟨⟨ch, c1, by rw [h0 0 2 (by decide) (by decide) (by decide) (by decide)]; exact c2, c3, fun j hj => (c4 j hj).congr (fun _ _ _ => rfl) (fun q hq => h1 _ (by omega)) hB hB2⟩, hp⟩, ⟨by rw [h0 0 3 (by decide) (by decide) (by decide) (by decide)]; exact s1, fun z => ((s2 (by rwa [h0 0 3 (by decide) (by decide) (by decide) (by decide)] at z)).congr (fun _ _ _ => rfl) (fun q hq => h1 _ (by omega)) hB hB2)⟩, hj, o.congr (h0 0 10 (by decide) (by decide) (by decide) (by decide)) (fun j => h0 2 j (by decide) (by omega) (by decide) (by omega)) rfl (fun _ => rfl), i.congr (h0 0 12 (by decide) (by decide) (by decide) (by decide)) (fun j => h0 3 j (by decide) (by omega) (by decide) (by omega)) rfl (fun _ => rfl), by rw [h0 0 15 (by decide) (by decide) (by decide) (by decide)]; exact e, by rw [h0 0 13 (by decide) (by decide) (by decide) (by decide)]; exact hh⟩
theorem RR.thrown {B : Nat} {σ μ : Nat → Nat → Int32} {pm : Nat → Nat} {rc : Option RC} (h : RR B σ pm rc μ) (hB : B < 1000000) (v : Int32) : RR B σ pm rc (sp_st μ 0 0 v) :=
  h.cong B (Nat.le_refl B) hB (fun j _ => sp_st_k _ _ _ _ _ _ (by decide)) (fun k j h1 h2 _ _ => by rw [sp_st_at, if_neg (by omega)]) (h.2.2.2.1.congr (fun j h1 h2 => by rw [sp_st_j _ _ _ _ _ _ (by omega)]))
/-- a change refused: the row put aside comes back -/
theorem RR.fail {B : Nat} {σ μ τ : Nat → Nat → Int32} {pm : Nat → Nat} {rc rc' : Option RC} (h : RR B σ pm rc μ) (hB : B < 1000000) (hF : MF (m_copy μ 0 10) τ) (h1 : ∀ j, 289 ≤ j → τ 1 j = m_copy μ 0 10 1 j) (hj : RJ rc' τ) (v : Int32) : RR B σ pm rc' (m_copy (sp_st τ 0 0 v) 10 0) := by
  have hk : ∀ k j, k ≠ 1 → ¬ (k = 0 ∧ j = 0) → m_copy (sp_st τ 0 0 v) 10 0 k j = τ k j := fun k j q1 q2 => by rw [m_copy_k q1, sp_st_at, if_neg (by omega)]
  refine h.cong B (Nat.le_refl B) hB (fun j hj2 => ?_) (fun k j q1 q2 q3 q4 => ?_) (hj.congr (fun j q1 q2 => hk 0 j (by decide) (by omega)))
  · by_cases q : j < 289
    · rw [m_copy_at (by omega), sp_st_k _ _ _ _ _ _ (by decide), h1 _ (by omega), m_copy_at (by omega)]
      exact congrArg _ (by omega)
    · rw [m_copy_hi (by omega), sp_st_k _ _ _ _ _ _ (by decide), h1 j (by omega), m_copy1 (by omega)]
  · rw [hk k j q1 (by omega), hF k j (by unfold mfx; omega), m_copy_k q1]
/-- the blocks of the history behind a change -/
theorem m_sh_1 {τ : Nat → Nat → Int32} {v j : Nat} (hj : j < 289) : ∀ i : Nat, m_sh τ i 1 (289 * v + j) = if 1 ≤ v ∧ v < i then τ 1 (289 * (v + 1) + j) else τ 1 (289 * v + j)
  | 0 => by rw [if_neg (by omega)]; rfl
  | 1 => by rw [if_neg (by omega)]; rfl
  | i + 2 => by
    show m_copy (m_sh τ (i + 1)) (i + 2) (i + 1) 1 (289 * v + j) = _
    by_cases q : v = i + 1
    · subst q
      rw [m_copy_at (by omega), show 289 * (i + 2) + (289 * (i + 1) + j - 289 * (i + 1)) = 289 * (i + 2) + j by omega, m_sh_1 hj (i + 1), if_neg (by omega), if_pos (by omega)]
    · have h9 : m_copy (m_sh τ (i + 1)) (i + 2) (i + 1) 1 (289 * v + j) = m_sh τ (i + 1) 1 (289 * v + j) := by
        unfold m_copy m_cp; rw [if_neg (by omega)]
      rw [h9, m_sh_1 hj (i + 1)]
      by_cases q2 : 1 ≤ v ∧ v < i + 1
      · rw [if_pos q2, if_pos (by omega)]
      · rw [if_neg q2, if_neg (by omega)]
theorem m_sh_k {τ : Nat → Nat → Int32} {k j : Nat} (hk : k ≠ 1) : ∀ i : Nat, m_sh τ i k j = τ k j
  | 0 => rfl
  | 1 => rfl
  | i + 2 => by
    show m_copy (m_sh τ (i + 1)) (i + 2) (i + 1) k j = τ k j
    rw [m_copy_k hk, m_sh_k hk (i + 1)]
/-- a change made -/
def m_ch (ch : Nat) : Nat := if ch = 8 then 8 else ch + 1
theorem m_done_k {τ : Nat → Nat → Int32} {ch k j : Nat} (hc : ch ≤ 8) (hk : k ≠ 1) : m_done τ ch k j = if k = 0 ∧ j = 2 then nI (m_ch ch) else τ k j := by
  unfold m_done m_ch
  by_cases q : ch = 8
  · rw [if_pos (by rw [q]; rfl), if_pos q, m_copy_k hk, sp_st_at]
    by_cases q2 : k = 0 ∧ j = 2
    · rw [if_pos q2, if_pos q2, q]; decide
    · rw [if_neg q2, if_neg q2, sp_st_at, if_neg q2, m_sh_k hk]
  · rw [if_neg (fun z => q (nI_eq8 z hc)), if_neg q, m_copy_k hk, sp_st_at]
    by_cases q2 : k = 0 ∧ j = 2
    · rw [if_pos q2, if_pos q2]; exact nI_1 ch
    · rw [if_neg q2, if_neg q2]
theorem m_done_1 {τ : Nat → Nat → Int32} {ch v j : Nat} (hc : ch ≤ 8) (hj : j < 289) (hv : v ≤ 9) : m_done τ ch 1 (289 * v + j) = if v = m_ch ch then τ 1 (2890 + j) else if ch = 8 ∧ 1 ≤ v ∧ v < 8 then τ 1 (289 * (v + 1) + j) else τ 1 (289 * v + j) := by
  unfold m_done m_ch
  by_cases q : ch = 8
  · rw [if_pos (by rw [q]; rfl), if_pos q, q, show 8 - 1 + 1 = 8 from rfl]
    have e9 : ∀ a b x, sp_st (sp_st (m_sh τ 8) 0 2 a) 0 2 b 1 x = m_sh τ 8 1 x := fun a b x => by rw [sp_st_k _ _ _ _ _ _ (by decide), sp_st_k _ _ _ _ _ _ (by decide)]
    by_cases q2 : v = 8
    · rw [if_pos q2, m_copy_at (by omega), e9, show 289 * 10 + (289 * v + j - 289 * 8) = 289 * 10 + j by omega, m_sh_1 hj 8, if_neg (by omega)]
    · have h9 : ∀ ρ : Nat → Nat → Int32, m_copy ρ 10 8 1 (289 * v + j) = ρ 1 (289 * v + j) := fun ρ => by unfold m_copy m_cp; rw [if_neg (by omega)]
      rw [if_neg q2, h9, e9, m_sh_1 hj 8]
      by_cases q3 : 1 ≤ v ∧ v < 8
      · rw [if_pos q3, if_pos ⟨rfl, q3⟩]
      · rw [if_neg q3, if_neg (fun z => q3 z.2)]
  · rw [if_neg (fun z => q (nI_eq8 z hc)), if_neg q]
    by_cases q2 : v = ch + 1
    · rw [if_pos q2, m_copy_at (by omega), sp_st_k _ _ _ _ _ _ (by decide)]
      exact congrArg _ (by omega)
    · have h9 : ∀ ρ : Nat → Nat → Int32, m_copy ρ 10 (ch + 1) 1 (289 * v + j) = ρ 1 (289 * v + j) := fun ρ => by unfold m_copy m_cp; rw [if_neg (by omega)]
      rw [if_neg q2, h9, sp_st_k _ _ _ _ _ _ (by decide), if_neg (by omega)]
theorem imin8 {ch : Nat} (h : ch ≤ 8) : imin (nI ch + 1) 8 = nI (m_ch ch) := by
  rw [nI_1]
  unfold imin m_ch
  by_cases q : ch = 8
  · rw [q]; decide
  · rw [if_neg q, if_neg (fun z => by have := (nI_ltI (a := 8) (b := ch + 1) (by decide) (by omega)).mp z; omega)]
theorem pm_push_ok {pm : Nat → Nat} (h1 : ∀ j, j < 8 → 1 ≤ pm j ∧ pm j ≤ 8) (h2 : ∀ i j, i < 8 → j < 8 → pm i = pm j → i = j) : (∀ j, j < 8 → 1 ≤ pm_push pm j ∧ pm_push pm j ≤ 8) ∧ ∀ i j, i < 8 → j < 8 → pm_push pm i = pm_push pm j → i = j := by
  refine ⟨fun j hj => ?_, fun i j hi hj he => ?_⟩
  · unfold pm_push
    by_cases q : j = 0
    · rw [if_pos q]; exact h1 7 (by decide)
    · rw [if_neg q, if_pos hj]; exact h1 (j - 1) (by omega)
  · unfold pm_push at he
    by_cases q : i = 0
    · by_cases q2 : j = 0
      · omega
      · rw [if_pos q, if_neg q2, if_pos hj] at he
        have := h2 7 (j - 1) (by decide) (by omega) he; omega
    · by_cases q2 : j = 0
      · rw [if_neg q, if_pos hi, if_pos q2] at he
        have := h2 (i - 1) 7 (by omega) (by decide) he; omega
      · rw [if_neg q, if_pos hi, if_neg q2, if_pos hj] at he
        have := h2 (i - 1) (j - 1) (by omega) (by omega) he; omega
/-- a change made: σ before it, ς the class's cells behind it, τ the reference's row before the history is told -/
theorem RR.done {B B' ch : Nat} {σ ς μ τ : Nat → Nat → Int32} {pm : Nat → Nat} {rc rc' : Option RC} (h : RR B σ pm rc μ) (hch : μ 0 2 = nI ch) (hc : ch ≤ 8) (hB : B ≤ B') (hB2 : B' < 1000000) (hbe : BE ς (τ 1) B') (hF : ∀ j, (j = 2 ∨ j = 3) → τ 0 j = μ 0 j) (h1 : ∀ j, 289 ≤ j → τ 1 j = m_copy μ 0 10 1 j) (hcnt : ς 431 1 = imin (σ 431 1 + 1) 8) (hold : ∀ k j, k < 39 → ς (39 * pm 7 + k) j = σ k j) (hkeep : ∀ b k j, 1 ≤ b → (b ≤ 8 ∨ b = 10) → b ≠ pm 7 → k < 39 → ς (39 * b + k) j = σ (39 * b + k) j) (hs5 : ς 429 5 = σ 429 5) (hj : RJ rc' τ) (ho : RO ς τ) (hi : RI ς τ) (he : τ 0 15 = ς 429 9) (hh : 0 ≤ τ 0 13) : RR B' ς (pm_push pm) rc' (m_done (sp_st τ 0 0 0) ch) := by
  obtain ⟨a, ⟨⟨ch2, c1, c2, c3, c4⟩, p1, p2⟩, ⟨s1, s2⟩, _⟩ := h
  have hcc : ch2 = ch := by rw [hch] at c2; exact ((nI_eq (by omega) (by omega)).mp c2).symm
  subst hcc
  have hk : ∀ k j, k ≠ 1 → ¬ (k = 0 ∧ (j = 2 ∨ j = 0)) → m_done (sp_st τ 0 0 0) ch2 k j = τ k j := fun k j q1 q2 => by
    rw [m_done_k hc q1, if_neg (by omega), sp_st_at, if_neg (by omega)]
  have hb : ∀ v j, j < 289 → v ≤ 9 → m_done (sp_st τ 0 0 0) ch2 1 (289 * v + j) = if v = m_ch ch2 then μ 1 j else if ch2 = 8 ∧ 1 ≤ v ∧ v < 8 then μ 1 (289 * (v + 1) + j) else if v = 0 then τ 1 j else μ 1 (289 * v + j) := fun v j hj9 hv => by
    rw [m_done_1 hc hj9 hv]
    have e9 : ∀ x, sp_st τ 0 0 0 1 x = τ 1 x := fun x => sp_st_k _ _ _ _ _ _ (by decide)
    by_cases q : v = m_ch ch2
    · rw [if_pos q, if_pos q, e9, h1 _ (by omega), m_copy_at (by omega)]
      exact congrArg _ (by omega)
    · rw [if_neg q, if_neg q]
      by_cases q2 : ch2 = 8 ∧ 1 ≤ v ∧ v < 8
      · rw [if_pos q2, if_pos q2, e9, h1 _ (by omega), m_copy1 (by omega)]
      · rw [if_neg q2, if_neg q2, e9]
        by_cases q3 : v = 0
        · rw [if_pos q3, q3]; exact congrArg _ (by omega)
        · rw [if_neg q3, h1 _ (by omega), m_copy1 (by omega)]
  have hm1 : 1 ≤ m_ch ch2 ∧ m_ch ch2 ≤ 8 := by unfold m_ch; split <;> omega
  have p7 := p1 7 (by decide)
  obtain ⟨pp1, pp2⟩ := pm_push_ok p1 p2
  refine ⟨hbe.congr (fun _ _ _ => rfl) (fun j hj9 => ?_) (Nat.le_refl _) hB2, ⟨⟨m_ch ch2, hm1.2, ?_, ?_, fun j hj9 => ?_⟩, pp1, pp2⟩, ⟨?_, fun z => ?_⟩, hj.congr (fun j q1 q2 => hk 0 j (by decide) (by omega)), ho.congr (hk 0 10 (by decide) (by decide)) (fun j => hk 2 j (by decide) (by omega)) rfl (fun _ => rfl), hi.congr (hk 0 12 (by decide) (by decide)) (fun j => hk 3 j (by decide) (by omega)) rfl (fun _ => rfl), ?_, ?_⟩
  · have h9 := hb 0 j hj9 (by decide)
    rw [if_neg (by omega), if_neg (by omega), if_pos rfl, show 289 * 0 + j = j by omega] at h9
    exact h9
  · rw [m_done_k hc (by decide), if_pos ⟨rfl, rfl⟩]
  · rw [hcnt, c3, imin8 hc]
  · by_cases q : j = 0
    · subst q
      refine a.congr (fun k j2 hk9 => ?_) (fun j2 hj2 => ?_) hB hB2
      · exact hold k j2 hk9
      · show m_done (sp_st τ 0 0 0) ch2 1 (289 * (m_ch ch2 - 0) + j2) = μ 1 j2
        rw [Nat.sub_zero, hb _ j2 hj2 (by omega), if_pos rfl]
    · have hj8 : j < 8 := by omega
      have hpm : pm_push pm j = pm (j - 1) := by unfold pm_push; rw [if_neg q, if_pos hj8]
      have hjc : j - 1 < ch2 := by unfold m_ch at hj9; split at hj9 <;> omega
      rw [hpm]
      refine (c4 (j - 1) hjc).congr (fun k j2 hk9 => ?_) (fun j2 hj2 => ?_) hB hB2
      · have hb9 := p1 (j - 1) (by omega)
        exact hkeep _ k j2 hb9.1 (Or.inl hb9.2) (fun z => by have := p2 _ _ (by omega) (by decide) z; omega) hk9
      · show m_done (sp_st τ 0 0 0) ch2 1 (289 * (m_ch ch2 - j) + j2) = μ 1 (289 * (ch2 - (j - 1)) + j2)
        rw [hb _ j2 hj2 (by omega), if_neg (by omega)]
        unfold m_ch
        by_cases q8 : ch2 = 8
        · rw [if_pos q8, if_pos (by omega)]
          exact congrArg _ (by omega)
        · rw [if_neg q8, if_neg (by omega), if_neg (by omega)]
          exact congrArg _ (by omega)
  · rw [hk 0 3 (by decide) (by decide), hF 3 (Or.inr rfl), hs5]; exact s1
  · rw [hk 0 3 (by decide) (by decide), hF 3 (Or.inr rfl)] at z
    refine (s2 z).congr (fun k j hk9 => hkeep 10 k j (by decide) (Or.inr rfl) (by omega) hk9) (fun j hj9 => ?_) hB hB2
    show m_done (sp_st τ 0 0 0) ch2 1 (289 * 9 + j) = μ 1 (289 * 9 + j)
    rw [hb 9 j hj9 (by decide), if_neg (by omega), if_neg (by omega), if_neg (by omega)]
  · rw [hk 0 15 (by decide) (by decide)]; exact he
  · rw [hk 0 13 (by decide) (by decide)]; exact hh
