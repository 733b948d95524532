
/-! the model's input -/
def m_needs (μ : Nat → Nat → Int32) (x : Int32) : Nat → Nat → Int32 := if 0 ≤ μ 0 14 then μ else if m_sign μ = x then sp_st μ 0 13 (μ 0 13 + 1) else sp_st μ 0 14 (μ 0 13)
def m_nl (μ : Nat → Nat → Int32) : Nat → Int32 → Int32 → Int32 × Int32
  | 0, y, h => (y, h)
  | d + 1, y, h => if m_in (m_sign (sp_st μ 0 13 h)) 48 57 = true then m_nl μ d (10 * y + m_sign (sp_st μ 0 13 h) - 48) (h + 1) else (y, h)
def m_numv (μ : Nat → Nat → Int32) (dg : Nat) : Int32 := if 0 ≤ μ 0 14 then 0 else if m_in (m_sign μ) 48 57 = true then (m_nl μ dg 0 (μ 0 13)).1 else 0
def m_nums (μ : Nat → Nat → Int32) (dg : Nat) : Nat → Nat → Int32 := if 0 ≤ μ 0 14 then μ else if m_in (m_sign μ) 48 57 = true then sp_st μ 0 13 (m_nl μ dg 0 (μ 0 13)).2 else sp_st μ 0 14 (μ 0 13)
def m_ftv (μ : Nat → Nat → Int32) : Int32 := if 0 ≤ μ 0 14 then 0 else if m_sign μ = 76 then 1 else 0
def m_fts (μ : Nat → Nat → Int32) : Nat → Nat → Int32 := if 0 ≤ μ 0 14 then μ else if m_sign μ = 76 ∨ m_sign μ = 82 then sp_st μ 0 13 (μ 0 13 + 1) else sp_st μ 0 14 (μ 0 13)
/-- from one state to another: the input stays, the place grows -/
def MG (μ τ : Nat → Nat → Int32) : Prop := MI τ ∧ μ 0 13 ≤ τ 0 13 ∧ τ 0 12 = μ 0 12
theorem MG.rf {μ : Nat → Nat → Int32} (h : MI μ) : MG μ μ := ⟨h, Int32.le_refl _, rfl⟩
theorem MG.tr {μ τ ρ : Nat → Nat → Int32} (h : MG μ τ) (h2 : MG τ ρ) : MG μ ρ := ⟨h2.1, Int32.le_trans h.2.1 h2.2.1, h2.2.2.trans h.2.2⟩
theorem MG.st {μ τ : Nat → Nat → Int32} {k j : Nat} {v : Int32} (h : MG μ τ) (hj : ¬ (k = 0 ∧ (j = 12 ∨ j = 13))) : MG μ (sp_st τ k j v) := ⟨h.1.st hj, by rw [sp_st_at, if_neg (by omega)]; exact h.2.1, by rw [sp_st_at, if_neg (by omega)]; exact h.2.2⟩
theorem m_sign_lt {μ : Nat → Nat → Int32} (h : ¬ m_sign μ = -1) : μ 0 13 < μ 0 12 := by
  unfold m_sign at h
  by_cases h9 : μ 0 13 < μ 0 12
  · exact h9
  · rw [if_neg h9] at h; exact absurd rfl h
theorem tn_31 (x : Int32) : tn x < 2 ^ 31 := Int32.toNatClampNeg_lt x
theorem inc_le {x y : Int32} (h0 : 0 ≤ x) (h : x < y) : x < x + 1 ∧ x + 1 ≤ y := by
  obtain ⟨a, ha, rfl⟩ := nI_of (x := x) (Int32.not_lt.mpr h0)
  obtain ⟨b, hb, rfl⟩ := nI_of (x := y) (Int32.not_lt.mpr (Int32.le_trans h0 (Int32.le_of_lt h)))
  have hab := (nI_ltI ha hb).mp h
  rw [nI_1]
  exact ⟨nI_lt (by omega) (by omega), nI_le (by omega) hb⟩
theorem tn_add1 {x : Int32} (h0 : 0 ≤ x) (h : tn x < 60) : tn (x + 1) = tn x + 1 := by
  obtain ⟨a, ha, rfl⟩ := nI_of (x := x) (Int32.not_lt.mpr h0)
  rw [tn_nI ha] at h
  rw [nI_1, tn_nI (by omega), tn_nI ha]
theorem MG_step {μ : Nat → Nat → Int32} (h : MI μ) (hs : ¬ m_sign μ = -1) : MG μ (sp_st μ 0 13 (μ 0 13 + 1)) := by
  have h1 := m_sign_lt hs
  have h2 := inc_le h.1 h1
  refine ⟨⟨?_, ?_⟩, ?_, ?_⟩
  · rw [sp_st_s]; exact Int32.le_trans h.1 (Int32.le_of_lt h2.1)
  · rw [sp_st_j _ _ _ _ _ _ (by decide)]; exact h.2
  · rw [sp_st_s]; exact Int32.le_of_lt h2.1
  · rw [sp_st_j _ _ _ _ _ _ (by decide)]
theorem dig_n1 {x : Int32} (h : m_in x 48 57 = true) : ¬ x = -1 := fun z => by rw [z] at h; exact absurd h (by decide)
theorem dig_of {x : Int32} (h : ¬ m_in x 48 57 = false) : m_in x 48 57 = true := by simpa using h
theorem MI_dig {μ : Nat → Nat → Int32} {h : Int32} (hm : MI (sp_st μ 0 13 h)) (hc : ¬ m_in (m_sign (sp_st μ 0 13 h)) 48 57 = false) : MI (sp_st μ 0 13 (h + 1)) := by
  have h1 := (MG_step hm (dig_n1 (dig_of hc))).1
  rw [sp_st_s, sp_st_st] at h1
  exact h1
theorem m_nl_s {μ : Nat → Nat → Int32} {dg i : Nat} {y h : Int32} (hb : i < dg) (hc : ¬ m_in (m_sign (sp_st μ 0 13 h)) 48 57 = false) : m_nl μ (dg - i) y h = m_nl μ (dg - (i + 1)) (10 * y + m_sign (sp_st μ 0 13 h) - 48) (h + 1) := by
  rw [show dg - i = (dg - (i + 1)) + 1 by omega]
  show (if m_in (m_sign (sp_st μ 0 13 h)) 48 57 = true then _ else _) = _
  rw [if_pos (dig_of hc)]
theorem m_nl_end {μ : Nat → Nat → Int32} {d : Nat} {y h : Int32} {r : Int32 × Int32} (hE : m_nl μ d y h = r) (hz : d = 0 ∨ m_in (m_sign (sp_st μ 0 13 h)) 48 57 = false) : (y, h) = r := by
  rw [← hE]
  rcases hz with hz | hz
  · subst hz; rfl
  · rcases d with _ | d
    · rfl
    · show _ = (if m_in (m_sign (sp_st μ 0 13 h)) 48 57 = true then _ else _)
      rw [if_neg (by rw [hz]; decide)]
theorem m_nl_MG {μ : Nat → Nat → Int32} : ∀ (d : Nat) (y h : Int32), MI (sp_st μ 0 13 h) → MG (sp_st μ 0 13 h) (sp_st μ 0 13 (m_nl μ d y h).2)
  | 0, y, h, hm => MG.rf hm
  | d + 1, y, h, hm => by
    show MG _ (sp_st μ 0 13 (if m_in (m_sign (sp_st μ 0 13 h)) 48 57 = true then m_nl μ d (10 * y + m_sign (sp_st μ 0 13 h) - 48) (h + 1) else (y, h)).2)
    by_cases hc : m_in (m_sign (sp_st μ 0 13 h)) 48 57 = true
    · rw [if_pos hc]
      have h1 := MG_step hm (dig_n1 hc)
      rw [sp_st_s, sp_st_st] at h1
      exact h1.tr (m_nl_MG d _ _ h1.1)
    · rw [if_neg hc]; exact MG.rf hm
theorem MG_nums {μ : Nat → Nat → Int32} (dg : Nat) (h : MI μ) : MG μ (m_nums μ dg) := by
  unfold m_nums
  split
  · exact MG.rf h
  · split
    · have h1 := m_nl_MG (μ := μ) dg 0 (μ 0 13) (by rw [sp_st_self]; exact h)
      rw [sp_st_self] at h1
      exact h1
    · exact (MG.rf h).st (by decide)
theorem MG_needs {μ : Nat → Nat → Int32} {x : Int32} (h : MI μ) (hx : ¬ x = -1) : MG μ (m_needs μ x) := by
  unfold m_needs
  split
  · exact MG.rf h
  · split
    · rename_i hs; exact MG_step h (by rw [hs]; exact hx)
    · exact (MG.rf h).st (by decide)
theorem MI_needs {μ : Nat → Nat → Int32} {x : Int32} (h : MI μ) (hx : ¬ x = -1) : MI (m_needs μ x) := (MG_needs h hx).1
theorem MG_fts {μ : Nat → Nat → Int32} (h : MI μ) : MG μ (m_fts μ) := by
  unfold m_fts
  split
  · exact MG.rf h
  · split
    · rename_i hs
      exact MG_step h (by rcases hs with hs | hs <;> rw [hs] <;> decide)
    · exact (MG.rf h).st (by decide)
/-- a command's seven numbers -/
def m_clr (τ : Nat → Nat → Int32) (cm i : Nat) : Nat → Nat → Int32 := fun k j => if k = 4 ∧ 7 * cm ≤ j ∧ j < 7 * cm + i then 0 else τ k j
theorem m_clr_0 (τ : Nat → Nat → Int32) (cm : Nat) : m_clr τ cm 0 = τ := by
  funext k j; unfold m_clr; rw [if_neg (by omega)]
theorem m_clr_s {τ : Nat → Nat → Int32} {cm i : Nat} : sp_st (m_clr τ cm i) 4 (7 * cm + i) 0 = m_clr τ cm (i + 1) := by
  funext k j
  rw [sp_st_at]
  unfold m_clr
  by_cases h : k = 4 ∧ j = 7 * cm + i
  · rw [if_pos h, if_pos (by omega)]
  · rw [if_neg h]
    by_cases h2 : k = 4 ∧ 7 * cm ≤ j ∧ j < 7 * cm + i
    · rw [if_pos h2, if_pos (by omega)]
    · rw [if_neg h2, if_neg (by omega)]
theorem m_clr_at {τ : Nat → Nat → Int32} {cm i k j : Nat} (h : ¬ k = 4) : m_clr τ cm i k j = τ k j := by unfold m_clr; rw [if_neg (fun z => h z.1)]
theorem m_c13 {μ : Nat → Nat → Int32} {v : Int32} {cm : Nat} : m_clr (sp_st μ 0 17 v) cm 7 0 13 = μ 0 13 := by rw [m_clr_at (by decide), sp_st_j _ _ _ _ _ _ (by decide)]
theorem MG.clr {μ τ : Nat → Nat → Int32} {cm i : Nat} (h : MG μ τ) : MG μ (m_clr τ cm i) := by
  unfold MG MI
  rw [m_clr_at (by decide), m_clr_at (by decide)]
  exact h
theorem MI_clr {τ : Nat → Nat → Int32} {cm i : Nat} (h : MI τ) : MI (m_clr τ cm i) := ((MG.rf h).clr).1
def m_sn (τ : Nat → Nat → Int32) (a dg : Nat) : Nat → Nat → Int32 := sp_st (m_nums τ dg) 4 a (m_numv τ dg)
def m_sb (τ : Nat → Nat → Int32) (a : Nat) (c : Int32) : Nat → Nat → Int32 := sp_st (m_nums (m_needs τ c) 3) 4 a (m_numv (m_needs τ c) 3)
def m_sf (τ : Nat → Nat → Int32) (a : Nat) : Nat → Nat → Int32 := sp_st (m_fts τ) 4 a (m_ftv τ)
theorem MG_sn {τ : Nat → Nat → Int32} {a dg : Nat} (h : MI τ) : MG τ (m_sn τ a dg) := (MG_nums dg h).st (by omega)
theorem MG_sb {τ : Nat → Nat → Int32} {a : Nat} {c : Int32} (h : MI τ) (hc : ¬ c = -1) : MG τ (m_sb τ a c) := ((MG_needs h hc).tr (MG_nums 3 (MG_needs h hc).1)).st (by omega)
theorem MG_sf {τ : Nat → Nat → Int32} {a : Nat} (h : MI τ) : MG τ (m_sf τ a) := (MG_fts h).st (by omega)
theorem MI_sn {τ : Nat → Nat → Int32} {a dg : Nat} (h : MI τ) (_ : dg ≤ 3) : MI (m_sn τ a dg) := (MG_sn h).1
theorem MI_sb {τ : Nat → Nat → Int32} {a : Nat} {c : Int32} (h : MI τ) (hc : ¬ c = -1) : MI (m_sb τ a c) := (MG_sb h hc).1
theorem MI_sf {τ : Nat → Nat → Int32} {a : Nat} (h : MI τ) : MI (m_sf τ a) := (MG_sf h).1
theorem m_sign_17 {μ : Nat → Nat → Int32} {v : Int32} : m_sign (sp_st μ 0 17 v) = m_sign μ := by
  unfold m_sign
  rw [sp_st_j _ _ _ _ _ _ (by decide), sp_st_j _ _ _ _ _ _ (by decide), sp_st_k _ _ _ _ _ _ (by decide)]
theorem MG_go {μ : Nat → Nat → Int32} {v : Int32} {cm : Nat} (h : MI μ) (hs : ¬ m_sign (sp_st μ 0 17 v) = -1) : MG μ (sp_st (m_clr (sp_st μ 0 17 v) cm 7) 0 13 (μ 0 13 + 1)) := by
  rw [m_sign_17] at hs
  have h1 := MG_step h hs
  unfold MG MI at h1 ⊢
  rw [sp_st_s, sp_st_j _ _ _ _ _ _ (by decide)] at h1
  rw [sp_st_s, sp_st_j _ _ _ _ _ _ (by decide), m_clr_at (by decide), sp_st_j _ _ _ _ _ _ (by decide)]
  exact h1
theorem MI_go {μ : Nat → Nat → Int32} {v : Int32} {cm : Nat} (h : MI μ) (hs : ¬ m_sign (sp_st μ 0 17 v) = -1) : MI (sp_st (m_clr (sp_st μ 0 17 v) cm 7) 0 13 (μ 0 13 + 1)) := (MG_go h hs).1
def m_cmdK (K : Int32) (τ : Nat → Nat → Int32) (cm : Nat) : Nat → Nat → Int32 :=
  if K = 72 then m_sb (m_sb τ (7 * cm + 2) 58) (7 * cm + 3) 44
  else if K = 80 then m_sn (m_sf (m_sb (m_sb (m_sb τ (7 * cm + 2) 64) (7 * cm + 3) 58) (7 * cm + 4) 44) (7 * cm + 5)) (7 * cm + 6) 1
  else τ
def m_cmd (μ : Nat → Nat → Int32) (cm : Nat) : Nat → Nat → Int32 :=
  if m_sign (sp_st μ 0 17 (nI cm + 1)) = 84 ∨ m_sign (sp_st μ 0 17 (nI cm + 1)) = 80 ∨ m_sign (sp_st μ 0 17 (nI cm + 1)) = 72 ∨ m_sign (sp_st μ 0 17 (nI cm + 1)) = 70 ∨ m_sign (sp_st μ 0 17 (nI cm + 1)) = 68 ∨ m_sign (sp_st μ 0 17 (nI cm + 1)) = 67 ∨ m_sign (sp_st μ 0 17 (nI cm + 1)) = 88 ∨ m_sign (sp_st μ 0 17 (nI cm + 1)) = 87 then
    m_cmdK (m_sign (sp_st μ 0 17 (nI cm + 1))) (m_sn (sp_st (sp_st (m_clr (sp_st μ 0 17 (nI cm + 1)) cm 7) 0 13 (μ 0 13 + 1)) 4 (7 * cm) (m_sign (sp_st μ 0 17 (nI cm + 1)))) (7 * cm + 1) (if m_sign (sp_st μ 0 17 (nI cm + 1)) = 84 ∨ m_sign (sp_st μ 0 17 (nI cm + 1)) = 87 then 1 else 3)) cm
  else sp_st (m_clr (sp_st μ 0 17 (nI cm + 1)) cm 7) 0 14 (μ 0 13)
theorem MG_cmdK {K : Int32} {τ : Nat → Nat → Int32} {cm : Nat} (h : MI τ) : MG τ (m_cmdK K τ cm) := by
  unfold m_cmdK
  split
  · have h1 := MG_sb (a := 7 * cm + 2) (c := 58) h (by decide)
    exact h1.tr (MG_sb h1.1 (by decide))
  · split
    · have h1 := MG_sb (a := 7 * cm + 2) (c := 64) h (by decide)
      have h2 := h1.tr (MG_sb (a := 7 * cm + 3) (c := 58) h1.1 (by decide))
      have h3 := h2.tr (MG_sb (a := 7 * cm + 4) (c := 44) h2.1 (by decide))
      have h4 := h3.tr (MG_sf (a := 7 * cm + 5) h3.1)
      exact h4.tr (MG_sn h4.1)
    · exact MG.rf h
theorem MGcmd {μ : Nat → Nat → Int32} {cm : Nat} (h : MI μ) : MG μ (m_cmd μ cm) := by
  unfold m_cmd
  split
  · rename_i hs
    have h1 : MG μ (sp_st (sp_st (m_clr (sp_st μ 0 17 (nI cm + 1)) cm 7) 0 13 (μ 0 13 + 1)) 4 (7 * cm) (m_sign (sp_st μ 0 17 (nI cm + 1)))) := (MG_go h (by rcases hs with hs | hs | hs | hs | hs | hs | hs | hs <;> rw [hs] <;> decide)).st (by omega)
    have h2 := h1.tr (MG_sn (a := 7 * cm + 1) (dg := if m_sign (sp_st μ 0 17 (nI cm + 1)) = 84 ∨ m_sign (sp_st μ 0 17 (nI cm + 1)) = 87 then 1 else 3) h1.1)
    exact h2.tr (MG_cmdK h2.1)
  · exact (((MG.rf h).st (by decide)).clr).st (by decide)
theorem MG_cmd {μ : Nat → Nat → Int32} {cm : Nat} (h : MI μ) : MI (m_cmd μ cm) := (MGcmd h).1
/-- the number of commands isn't touched behind the start of one -/
theorem nums_17 (μ : Nat → Nat → Int32) (dg : Nat) : m_nums μ dg 0 17 = μ 0 17 := by
  unfold m_nums; split
  · rfl
  · split
    · rw [sp_st_j _ _ _ _ _ _ (by decide)]
    · rw [sp_st_j _ _ _ _ _ _ (by decide)]
theorem needs_17 (μ : Nat → Nat → Int32) (x : Int32) : m_needs μ x 0 17 = μ 0 17 := by
  unfold m_needs; split
  · rfl
  · split
    · rw [sp_st_j _ _ _ _ _ _ (by decide)]
    · rw [sp_st_j _ _ _ _ _ _ (by decide)]
theorem fts_17 (μ : Nat → Nat → Int32) : m_fts μ 0 17 = μ 0 17 := by
  unfold m_fts; split
  · rfl
  · split
    · rw [sp_st_j _ _ _ _ _ _ (by decide)]
    · rw [sp_st_j _ _ _ _ _ _ (by decide)]
theorem sn_17 (τ : Nat → Nat → Int32) (a dg : Nat) : m_sn τ a dg 0 17 = τ 0 17 := by
  unfold m_sn; rw [sp_st_k _ _ _ _ _ _ (by decide), nums_17]
theorem sb_17 (τ : Nat → Nat → Int32) (a : Nat) (c : Int32) : m_sb τ a c 0 17 = τ 0 17 := by
  unfold m_sb; rw [sp_st_k _ _ _ _ _ _ (by decide), nums_17, needs_17]
theorem sf_17 (τ : Nat → Nat → Int32) (a : Nat) : m_sf τ a 0 17 = τ 0 17 := by
  unfold m_sf; rw [sp_st_k _ _ _ _ _ _ (by decide), fts_17]
theorem m_cmd_17 {μ : Nat → Nat → Int32} {cm : Nat} : m_cmd μ cm 0 17 = nI (cm + 1) := by
  have h1 : nI cm + 1 = nI (cm + 1) := (Int32.ofNat_add cm 1).symm
  unfold m_cmd
  split
  · unfold m_cmdK
    split
    · rw [sb_17, sb_17, sn_17, sp_st_k _ _ _ _ _ _ (by decide), sp_st_j _ _ _ _ _ _ (by decide), m_clr_at (by decide), sp_st_s, h1]
    · split
      · rw [sn_17, sf_17, sb_17, sb_17, sb_17, sn_17, sp_st_k _ _ _ _ _ _ (by decide), sp_st_j _ _ _ _ _ _ (by decide), m_clr_at (by decide), sp_st_s, h1]
      · rw [sn_17, sp_st_k _ _ _ _ _ _ (by decide), sp_st_j _ _ _ _ _ _ (by decide), m_clr_at (by decide), sp_st_s, h1]
  · rw [sp_st_j _ _ _ _ _ _ (by decide), m_clr_at (by decide), sp_st_s, h1]
/-- the states behind the commands -/
def m_p0 (μ : Nat → Nat → Int32) : Nat → Nat → Int32 := sp_st (sp_st (sp_st μ 0 13 0) 0 14 (-1)) 0 17 0
theorem MI_p0 {μ : Nat → Nat → Int32} (h : MI μ) : MI (sp_st (sp_st (sp_st μ 0 13 0) 0 14 (-1)) 0 17 0) := by
  refine MI.st (MI.st ?_ (by decide)) (by decide)
  unfold MI
  rw [sp_st_s, sp_st_j _ _ _ _ _ _ (by decide)]
  exact ⟨by decide, h.2⟩
def m_pl (μ : Nat → Nat → Int32) : Nat → Nat → Nat → Int32
  | 0 => m_cmd (sp_st (sp_st (sp_st μ 0 13 0) 0 14 (-1)) 0 17 0) 0
  | i + 1 => m_cmd (sp_st (m_pl μ i) 0 13 (m_pl μ i 0 13 + 1)) (i + 1)
def m_stp (μ : Nat → Nat → Int32) (i : Nat) : Bool := !(decide (m_pl μ i 0 14 < 0) && m_sign (m_pl μ i) == 59)
def m_pend (τ : Nat → Nat → Int32) : Nat → Nat → Int32 := if τ 0 14 < 0 ∧ τ 0 13 < τ 0 12 then sp_st τ 0 14 (τ 0 13) else τ
def m_parse (μ : Nat → Nat → Int32) : Nat → Nat → Int32 := atO (fstI (m_stp μ) 61) μ (fun i => m_pend (m_pl μ i))
theorem MI_inc {τ : Nat → Nat → Int32} (h : MI τ) (hs : ¬ m_sign τ = -1) : MI (sp_st τ 0 13 (τ 0 13 + 1)) := (MG_step h hs).1
theorem m_pl_lt {τ : Nat → Nat → Int32} {i : Nat} (h : MI τ) (hi : i ≤ tn (τ 0 13)) (hs : ¬ m_sign τ = -1) : i < 60 := Nat.lt_of_le_of_lt hi (m_here_lt h (m_sign_lt hs))
theorem tn_mono {x y : Int32} (h0 : 0 ≤ x) (h : x ≤ y) : tn x ≤ tn y := by
  have h1 := nI_tn h0
  have h2 := nI_tn (Int32.le_trans h0 h)
  rw [← h1, ← h2] at h
  exact (nI_leI (tn_31 x) (tn_31 y)).mp h
theorem m_pl_le {μ : Nat → Nat → Int32} {i : Nat} (h : MI (m_pl μ i)) (hi : i ≤ tn (m_pl μ i 0 13)) (hs : ¬ m_sign (m_pl μ i) = -1) : i + 1 ≤ tn (m_pl μ (i + 1) 0 13) := by
  have h1 := MG_step h hs
  have h2 := (MGcmd (cm := i + 1) h1.1).2.1
  rw [sp_st_s] at h2
  have h3 := tn_mono (Int32.le_trans h.1 (Int32.le_of_lt (inc_le h.1 (m_sign_lt hs)).1)) h2
  have h4 : tn (m_pl μ i 0 13 + 1) = tn (m_pl μ i 0 13) + 1 := tn_add1 h.1 (m_here_lt h (m_sign_lt hs))
  show i + 1 ≤ tn (m_cmd (sp_st (m_pl μ i) 0 13 (m_pl μ i 0 13 + 1)) (i + 1) 0 13)
  omega
theorem wi_X10_needs_X10 : ∀ w ∈ wsX100, w ∈ wsX10_needs := by decide +kernel
set_option maxHeartbeats 4000000 in
set_option maxRecDepth 100000 in
theorem c_X10_needs (l : Launch) (D : va_G) (am : Nat → Nat) (cy : Nat → ClassId) (μ : Nat → Nat → Int32) (sz : Nat) (hi : sp_inj am 5) (x : Int32) (hty : MI μ) : Met l yX10_needs wsX10_needs ({ frames := 1, cells := 0, slots := 0, locals := 20 } : Room) (sp_Pm D (tyG cy) sz [.ref (am (0)), .int (x)] (mW am cy μ)) (sp_Q D (none) (mW am cy (m_needs μ x)) (sp_A am 5 sz)) 0 0 (sp_A am 5 sz) := by
  refine Met.ofW (cc := cX10_needs) (maxL := 2) (ret := none) (by decide) rfl ?_
  intro p e s m args below meth c s₁ B hml hv
  obtain ⟨rfl, hsz, hP, hK⟩ := hv
  have hx := B.exec
  have hb := B.bytes
  have hr := B.returns
  have hts := atoms_spec (ws := wsX10_needs) B.pre
  have hown : s.vm.findClass RX10 = some m.cls := findClass_of_methodNamed B.named
  have hlocks := B.notSynchronized
  subst hsz
  have hS : va_S (sp_A am 5 s.heap.size) s.heap s.heap [] := va_S.rf
  have hAk : ∀ k, k < 5 → (sp_A am 5 s.heap.size) (am k) := fun k hk => Or.inl ⟨k, hk, rfl⟩
  skip
  have hl := lv_entry ([.ref (am (0)), .int (x)]) (n := 2) (Nat.le_of_ble_eq_true rfl)
  refine W.eq (lg_entry_eq _ ([.ref (am (0)), .int (x)]) _) ?_
  generalize (lg_sl ([.ref (am (0)), .int (x)]) ++ List.replicate (2 - (lg_sl ([.ref (am (0)), .int (x)])).length) Slot.unset).toArray = ls at hl ⊢
  have hl : lv_has ls 2 [(0, .ref (am (0))), (1, .int (x))] := hl
  refine lv_aload_n hx hb dX10_needs_0 rfl (lv_at hl 0 rfl) ?_
  refine sp_get hx hb hts wi_X10_needs_X10 hown hK hP (κ := 0) (by decide) mE_0 rfl 14 (by decide) (hts _ (List.mem_of_getElem? (i := 1) rfl)) (fun _ h => h) rfl dX10_needs_1 ?_
  refine lv_if_lt (tgt := 8) hx hb dX10_needs_4 (by decide) (fun c_1 => ?_) (fun c_1 => ?_)
  · skip
    have c_1d := Int32.not_le.mpr c_1
    refine lv_aload_n hx hb dX10_needs_8 rfl (lv_at hl 0 rfl) ?_
    refine sp_call (W.runV (As := []) (rest := []) ⟨hx, hb, hml, hown, hts⟩ (c_X10_sign l D am cy μ (by first | exact hty | (repeat first | exact hty | refine MI.st ?_ (by decide)))) (cwV 0 hts gX10_needs_X10_sign rfl rfl rfl (by decide +kernel) ⟨Nat.le_of_ble_eq_true rfl, Nat.le_of_ble_eq_true rfl⟩) (sp_preV hK hP (κ := 0) (by decide) mE_0 rfl) rfl rfl hl.1 rfl (lv_room (Nat.le_of_ble_eq_true rfl)) dX10_needs_9 ⟨Nat.le_of_ble_eq_true rfl, Nat.le_of_ble_eq_true rfl⟩) ?_
    refine W.eq (g2 := F0 m 12 ls [.int (m_sign μ)]) rfl ?_
    refine lv_iload_n hx hb dX10_needs_12 rfl (lv_at hl 1 rfl) ?_
    refine lv_icmp_eq (tgt := 25) hx hb dX10_needs_13 (by decide) (fun c_2 => ?_) (fun c_2 => ?_)
    · skip
      refine lv_aload_n hx hb dX10_needs_25 rfl (lv_at hl 0 rfl) ?_
      refine lv_dup hx hb dX10_needs_26 rfl ?_
      refine sp_get hx hb hts wi_X10_needs_X10 hown hK hP (κ := 0) (by decide) mE_0 rfl 13 (by decide) (hts _ (List.mem_of_getElem? (i := 2) rfl)) (fun _ h => h) rfl dX10_needs_27 ?_
      refine lv_iconst (v := 1) hx hb dX10_needs_30 (by decide) ?_
      refine lv_iadd hx hb dX10_needs_31 ?_
      refine sp_put hx hb hts wi_X10_needs_X10 tyX10 tyX10_ok nmX10 hown hK hP hi hAk hS (κ := 0) (by decide) mE_0 rfl 13 (by decide) (hts _ (List.mem_of_getElem? (i := 2) rfl)) (fun _ h => h) rfl (ty := tyX10 13) (by decide +kernel) ⟨rfl, rfl⟩ (Nat.le_of_ble_eq_true rfl) (r1 := upd (μ 0) 13 ((μ 0 13) + 1)) (cE_of mE_0 (by simp [upd])) dX10_needs_32 (fun H locs hP hS => ?_)
      have hP : va_P D vwCl (mW am cy (sp_st μ 0 13 ((μ 0 13) + 1))) H := hP
      have hE9 : mW am cy (sp_st μ 0 13 ((μ 0 13) + 1)) = mW am cy (m_needs μ x) := by exact mW_eq (by simp [m_needs, b2i, c_1, c_1d, c_2])
      have hP : va_P D vwCl (mW am cy (m_needs μ x)) H := by rw [← hE9]; exact hP
      exact W.vret hx hb hr (fun T9 hT9 _ => ⟨rfl, by rw [hT9]; exact hP, hS.F hT9⟩) hS.2.2 dX10_needs_35
    · skip
      refine lv_aload_n hx hb dX10_needs_16 rfl (lv_at hl 0 rfl) ?_
      refine lv_aload_n hx hb dX10_needs_17 rfl (lv_at hl 0 rfl) ?_
      refine sp_get hx hb hts wi_X10_needs_X10 hown hK hP (κ := 0) (by decide) mE_0 rfl 13 (by decide) (hts _ (List.mem_of_getElem? (i := 2) rfl)) (fun _ h => h) rfl dX10_needs_18 ?_
      refine sp_put hx hb hts wi_X10_needs_X10 tyX10 tyX10_ok nmX10 hown hK hP hi hAk hS (κ := 0) (by decide) mE_0 rfl 14 (by decide) (hts _ (List.mem_of_getElem? (i := 1) rfl)) (fun _ h => h) rfl (ty := tyX10 14) (by decide +kernel) ⟨rfl, rfl⟩ (Nat.le_of_ble_eq_true rfl) (r1 := upd (μ 0) 14 (μ 0 13)) (cE_of mE_0 (by simp [upd])) dX10_needs_21 (fun H locs hP hS => ?_)
      have hP : va_P D vwCl (mW am cy (sp_st μ 0 14 (μ 0 13))) H := hP
      have hE9 : mW am cy (sp_st μ 0 14 (μ 0 13)) = mW am cy (m_needs μ x) := by exact mW_eq (by simp [m_needs, b2i, c_1, c_1d, c_2])
      have hP : va_P D vwCl (mW am cy (m_needs μ x)) H := by rw [← hE9]; exact hP
      exact W.vret hx hb hr (fun T9 hT9 _ => ⟨rfl, by rw [hT9]; exact hP, hS.F hT9⟩) hS.2.2 dX10_needs_24
  · skip
    have c_1d := Int32.not_lt.mp c_1
    have hE9 : mW am cy (μ) = mW am cy (m_needs μ x) := by exact mW_eq (by simp [m_needs, b2i, c_1, c_1d])
    have hP : va_P D vwCl (mW am cy (m_needs μ x)) s.heap := by rw [← hE9]; exact hP
    exact W.vret hx hb hr (fun T9 hT9 _ => ⟨rfl, by rw [hT9]; exact hP, hS.F hT9⟩) hS.2.2 dX10_needs_7

theorem wi_X10_number_X10 : ∀ w ∈ wsX100, w ∈ wsX10_number := by decide +kernel
set_option maxHeartbeats 4000000 in
set_option maxRecDepth 100000 in
theorem c_X10_number (l : Launch) (D : va_G) (am : Nat → Nat) (cy : Nat → ClassId) (μ : Nat → Nat → Int32) (sz : Nat) (hi : sp_inj am 5) (dg : Nat) (hd3 : dg ≤ 3) (hty : MI μ) : Met l yX10_number wsX10_number ({ frames := 1, cells := 0, slots := 0, locals := 22 } : Room) (sp_Pm D (tyG cy) sz [.ref (am (0)), .int (nI dg)] (mW am cy μ)) (sp_Q D (some (.int (m_numv μ dg))) (mW am cy (m_nums μ dg)) (sp_A am 5 sz)) 0 0 (sp_A am 5 sz) := by
  refine Met.ofW (cc := cX10_number) (maxL := 4) (ret := (some .int)) (by decide) rfl ?_
  intro p e s m args below meth c s₁ B hml hv
  obtain ⟨rfl, hsz, hP, hK⟩ := hv
  have hx := B.exec
  have hb := B.bytes
  have hr := B.returns
  have hts := atoms_spec (ws := wsX10_number) B.pre
  have hown : s.vm.findClass RX10 = some m.cls := findClass_of_methodNamed B.named
  have hlocks := B.notSynchronized
  subst hsz
  have hS : va_S (sp_A am 5 s.heap.size) s.heap s.heap [] := va_S.rf
  have hAk : ∀ k, k < 5 → (sp_A am 5 s.heap.size) (am k) := fun k hk => Or.inl ⟨k, hk, rfl⟩
  skip
  have hl := lv_entry ([.ref (am (0)), .int (nI dg)]) (n := 4) (Nat.le_of_ble_eq_true rfl)
  refine W.eq (lg_entry_eq _ ([.ref (am (0)), .int (nI dg)]) _) ?_
  generalize (lg_sl ([.ref (am (0)), .int (nI dg)]) ++ List.replicate (4 - (lg_sl ([.ref (am (0)), .int (nI dg)])).length) Slot.unset).toArray = ls at hl ⊢
  have hl : lv_has ls 4 [(0, .ref (am (0))), (1, .int (nI dg))] := hl
  refine lv_aload_n hx hb dX10_number_0 rfl (lv_at hl 0 rfl) ?_
  refine sp_get hx hb hts wi_X10_number_X10 hown hK hP (κ := 0) (by decide) mE_0 rfl 14 (by decide) (hts _ (List.mem_of_getElem? (i := 1) rfl)) (fun _ h => h) rfl dX10_number_1 ?_
  refine lv_if_lt (tgt := 9) hx hb dX10_number_4 (by decide) (fun c_1 => ?_) (fun c_1 => ?_)
  · skip
    have c_1d := Int32.not_le.mpr c_1
    refine lv_aload_n hx hb dX10_number_9 rfl (lv_at hl 0 rfl) ?_
    refine sp_call (W.runV (As := []) (rest := []) ⟨hx, hb, hml, hown, hts⟩ (c_X10_sign l D am cy μ (by first | exact hty | (repeat first | exact hty | refine MI.st ?_ (by decide)))) (cwV 0 hts gX10_number_X10_sign rfl rfl rfl (by decide +kernel) ⟨Nat.le_of_ble_eq_true rfl, Nat.le_of_ble_eq_true rfl⟩) (sp_preV hK hP (κ := 0) (by decide) mE_0 rfl) rfl rfl hl.1 rfl (lv_room (Nat.le_of_ble_eq_true rfl)) dX10_number_10 ⟨Nat.le_of_ble_eq_true rfl, Nat.le_of_ble_eq_true rfl⟩) ?_
    refine W.eq (g2 := F0 m 13 ls [.int (m_sign μ)]) rfl ?_
    refine lv_bipush (v := 48) hx hb dX10_number_13 (by decide) ?_
    refine lv_bipush (v := 57) hx hb dX10_number_15 (by decide) ?_
    refine sp_call (W.runS (As := [.int (m_sign μ), .int (48), .int (57)]) (rest := []) ⟨hx, hb, hml, hown, hts⟩ (c_X10_in l D am cy μ (m_sign μ) 48 57) (va_cwS 3 hts gX10_number_X10_in rfl rfl rfl (by decide +kernel) ⟨Nat.le_of_ble_eq_true rfl, Nat.le_of_ble_eq_true rfl⟩) (sp_preS hK hP) rfl rfl hl.1 rfl (lv_room (Nat.le_of_ble_eq_true rfl)) dX10_number_17 ⟨Nat.le_of_ble_eq_true rfl, Nat.le_of_ble_eq_true rfl⟩) ?_
    refine W.eq (g2 := F0 m 20 ls [.int (b2i (m_in (m_sign μ) 48 57))]) rfl ?_
    refine lv_if_ne (tgt := 33) hx hb dX10_number_20 (by decide) (fun c_2 => ?_) (fun c_2 => ?_)
    · rw [b2i_eq0] at c_2
      refine lv_iconst (v := 0) hx hb dX10_number_33 (by decide) ?_
      refine lv_istore_n (lv' := [(2, .int (0)), (0, .ref (am (0))), (1, .int (nI dg))]) hx hb dX10_number_34 rfl hl (by decide) rfl (fun ls hl => ?_)
      refine lv_iconst (v := 0) hx hb dX10_number_35 (by decide) ?_
      refine lv_istore_n (lv' := [(3, .int (0)), (2, .int (0)), (0, .ref (am (0))), (1, .int (nI dg))]) hx hb dX10_number_36 rfl hl (by decide) rfl (fun ls hl => ?_)
      have loop_37 : ∀ (fu i : Nat) (y : Int32) (h : Int32) (H : Heap) (locs : List Loc), (i ≤ dg) → (dg - i < fu) → (m_nl μ (dg - i) y h = m_nl μ dg 0 (μ 0 13)) → (MI (sp_st μ 0 13 h)) → (va_P D vwCl (mW am cy (sp_st μ 0 13 h)) H) → (va_S (sp_A am 5 s.heap.size) s.heap H locs) → ∀ ls : Array Slot, lv_has ls 4 [(3, .int (nI i)), (2, .int (y)), (0, .ref (am (0))), (1, .int (nI dg))] → W p l e (headSpec wsX10_number ({ frames := 1, cells := 0, slots := 0, locals := 22 } : Room)).room s m ([.ref (am (0)), .int (nI dg)] : List Value).toArray below meth c H locs 0 0 (MQ below (sp_Q D (some (.int (m_numv μ dg))) (mW am cy (m_nums μ dg)) (sp_A am 5 s.heap.size)) ([.ref (am (0)), .int (nI dg)] : List Value).toArray s 0 0 (sp_A am 5 s.heap.size)) (F0 m 37 ls []) := by
        intro fu
        induction fu with
        | zero => intro i y h H locs hle hlt hi_0 hi_1 hP hS ls hl; exact absurd hlt (Nat.not_lt_zero _)
        | succ fu ih =>
          intro i y h H locs hle hlt hi_0 hi_1 hP hS ls hl
          refine lv_iload_n hx hb dX10_number_37 rfl (lv_at hl 0 rfl) ?_
          refine lv_iload_n hx hb dX10_number_38 rfl (lv_at hl 3 rfl) ?_
          refine lv_icmp_ge (tgt := 85) hx hb dX10_number_39 (by decide) (fun c_3 => ?_) (fun c_3 => ?_)
          · skip
            have c_3d := Int32.not_lt.mpr c_3
            have hx_i : i = dg := by have := (nI_leI (a := dg) (b := i) (by omega) (by omega)).mp c_3; omega
            try rw [hx_i] at hi_0
            try rw [hx_i] at hi_1
            have h9 := m_nl_end hi_0 (by first | exact Or.inl (Nat.sub_self _) | exact Or.inr c_2)
            refine lv_iload_n hx hb dX10_number_85 rfl (lv_at hl 1 rfl) ?_
            have hE9 : mW am cy (sp_st μ 0 13 h) = mW am cy (m_nums μ dg) := by exact mW_eq (by first | (simp [m_nums, b2i, c_1, c_1d, c_2]; done) | (simp [m_nums, b2i, c_1, c_1d, c_2, ← h9]; done))
            have hP : va_P D vwCl (mW am cy (m_nums μ dg)) H := by rw [← hE9]; exact hP
            exact W.iret (v := y) hx hb hr (fun T9 hT9 _ => ⟨congrArg (fun z9 => Outcome.returned (some (Value.int z9))) (show (y : Int32) = m_numv μ dg from (by first | (simp [m_numv, b2i, c_1, c_1d, c_2]; done) | (simp [m_numv, b2i, c_1, c_1d, c_2, ← h9]; done))), by rw [hT9]; exact hP, hS.F hT9⟩) hS.2.2 dX10_number_86
          · skip
            have c_3d := Int32.not_le.mp c_3
            have hb_i : i < dg := Nat.lt_of_not_le (fun z => c_3 (nI_le z (by omega)))
            refine lv_aload_n hx hb dX10_number_42 rfl (lv_at hl 2 rfl) ?_
            refine sp_call (W.runV (As := []) (rest := []) ⟨hx, hb, hml, hown, hts⟩ (c_X10_sign l D am cy (sp_st μ 0 13 h) (by exact hi_1)) (cwV 0 hts gX10_number_X10_sign rfl rfl rfl (by decide +kernel) ⟨Nat.le_of_ble_eq_true rfl, Nat.le_of_ble_eq_true rfl⟩) (sp_preV hK hP (κ := 0) (by decide) mE_0 rfl) rfl rfl hl.1 rfl (lv_room (Nat.le_of_ble_eq_true rfl)) dX10_number_43 ⟨Nat.le_of_ble_eq_true rfl, Nat.le_of_ble_eq_true rfl⟩) ?_
            refine W.eq (g2 := F0 m 46 ls [.int (m_sign (sp_st μ 0 13 h))]) rfl ?_
            refine lv_bipush (v := 48) hx hb dX10_number_46 (by decide) ?_
            refine lv_bipush (v := 57) hx hb dX10_number_48 (by decide) ?_
            refine sp_call (W.runS (As := [.int (m_sign (sp_st μ 0 13 h)), .int (48), .int (57)]) (rest := []) ⟨hx, hb, hml, hown, hts⟩ (c_X10_in l D am cy (sp_st μ 0 13 h) (m_sign (sp_st μ 0 13 h)) 48 57) (va_cwS 3 hts gX10_number_X10_in rfl rfl rfl (by decide +kernel) ⟨Nat.le_of_ble_eq_true rfl, Nat.le_of_ble_eq_true rfl⟩) (sp_preS hK hP) rfl rfl hl.1 rfl (lv_room (Nat.le_of_ble_eq_true rfl)) dX10_number_50 ⟨Nat.le_of_ble_eq_true rfl, Nat.le_of_ble_eq_true rfl⟩) ?_
            refine W.eq (g2 := F0 m 53 ls [.int (b2i (m_in (m_sign (sp_st μ 0 13 h)) 48 57))]) rfl ?_
            refine lv_if_eq (tgt := 85) hx hb dX10_number_53 (by decide) (fun c_4 => ?_) (fun c_4 => ?_)
            · rw [b2i_eq0] at c_4
              have h9 := m_nl_end hi_0 (by first | exact Or.inl (Nat.sub_self _) | exact Or.inr c_4)
              refine lv_iload_n hx hb dX10_number_85 rfl (lv_at hl 1 rfl) ?_
              have hE9 : mW am cy (sp_st μ 0 13 h) = mW am cy (m_nums μ dg) := by exact mW_eq (by first | (simp [m_nums, b2i, c_1, c_1d, c_2, c_4]; done) | (simp [m_nums, b2i, c_1, c_1d, c_2, c_4, ← h9]; done))
              have hP : va_P D vwCl (mW am cy (m_nums μ dg)) H := by rw [← hE9]; exact hP
              exact W.iret (v := y) hx hb hr (fun T9 hT9 _ => ⟨congrArg (fun z9 => Outcome.returned (some (Value.int z9))) (show (y : Int32) = m_numv μ dg from (by first | (simp [m_numv, b2i, c_1, c_1d, c_2, c_4]; done) | (simp [m_numv, b2i, c_1, c_1d, c_2, c_4, ← h9]; done))), by rw [hT9]; exact hP, hS.F hT9⟩) hS.2.2 dX10_number_86
            · rw [b2i_eq0] at c_4
              refine lv_bipush (v := 10) hx hb dX10_number_56 (by decide) ?_
              refine lv_iload_n hx hb dX10_number_58 rfl (lv_at hl 1 rfl) ?_
              refine lv_imul hx hb dX10_number_59 ?_
              refine lv_aload_n hx hb dX10_number_60 rfl (lv_at hl 2 rfl) ?_
              refine sp_call (W.runV (As := []) (rest := [.int (10 * y)]) ⟨hx, hb, hml, hown, hts⟩ (c_X10_sign l D am cy (sp_st μ 0 13 h) (by exact hi_1)) (cwV 0 hts gX10_number_X10_sign rfl rfl rfl (by decide +kernel) ⟨Nat.le_of_ble_eq_true rfl, Nat.le_of_ble_eq_true rfl⟩) (sp_preV hK hP (κ := 0) (by decide) mE_0 rfl) rfl rfl hl.1 rfl (lv_room (Nat.le_of_ble_eq_true rfl)) dX10_number_61 ⟨Nat.le_of_ble_eq_true rfl, Nat.le_of_ble_eq_true rfl⟩) ?_
              refine W.eq (g2 := F0 m 64 ls [.int (m_sign (sp_st μ 0 13 h)), .int (10 * y)]) rfl ?_
              refine lv_iadd hx hb dX10_number_64 ?_
              refine lv_bipush (v := 48) hx hb dX10_number_65 (by decide) ?_
              refine lv_isub hx hb dX10_number_67 ?_
              refine lv_istore_n (lv' := [(2, .int (((10 * y) + (m_sign (sp_st μ 0 13 h))) - 48)), (3, .int (nI i)), (0, .ref (am (0))), (1, .int (nI dg))]) hx hb dX10_number_68 rfl hl (by decide) rfl (fun ls hl => ?_)
              refine lv_aload_n hx hb dX10_number_69 rfl (lv_at hl 2 rfl) ?_
              refine lv_dup hx hb dX10_number_70 rfl ?_
              refine sp_get hx hb hts wi_X10_number_X10 hown hK hP (κ := 0) (by decide) mE_0 rfl 13 (by decide) (hts _ (List.mem_of_getElem? (i := 2) rfl)) (fun _ h => h) rfl dX10_number_71 ?_
              refine W.eq (g2 := F0 m 74 ls [.int (h), .ref (am (0))]) (by rw [sp_st_s]) ?_
              refine lv_iconst (v := 1) hx hb dX10_number_74 (by decide) ?_
              refine lv_iadd hx hb dX10_number_75 ?_
              refine sp_put hx hb hts wi_X10_number_X10 tyX10 tyX10_ok nmX10 hown hK hP hi hAk hS (κ := 0) (by decide) mE_0 rfl 13 (by decide) (hts _ (List.mem_of_getElem? (i := 2) rfl)) (fun _ h => h) rfl (ty := tyX10 13) (by decide +kernel) ⟨rfl, rfl⟩ (Nat.le_of_ble_eq_true rfl) (r1 := upd ((sp_st μ 0 13 h) 0) 13 (h + 1)) (cE_of mE_0 (by simp [upd])) dX10_number_76 (fun H locs hP hS => ?_)
              have hP : va_P D vwCl (mW am cy (sp_st (sp_st μ 0 13 h) 0 13 (h + 1))) H := hP
              refine lv_iinc (v := nI (i + 1)) (lv' := [(3, .int (nI (i + 1))), (2, .int (((10 * y) + (m_sign (sp_st μ 0 13 h))) - 48)), (0, .ref (am (0))), (1, .int (nI dg))]) hx hb dX10_number_79 hl (k := 1) rfl (nI_1 _) (by decide) rfl (fun ls hl => ?_)
              refine lv_goto (tgt := 37) hx hb dX10_number_82 (by decide) ?_
              exact ih (i + 1) (((10 * y) + (m_sign (sp_st μ 0 13 h))) - 48) (h + 1)  _ _ (by omega) (by omega) ((m_nl_s hb_i c_4).symm.trans hi_0) (MI_dig hi_1 c_4) ((show mW am cy (sp_st (sp_st μ 0 13 h) 0 13 (h + 1)) = mW am cy (sp_st μ 0 13 (h + 1)) from (by exact mW_eq (sp_st_st _ _ _ _ _))) ▸ hP) hS ls (lv_sub hl [0, 1, 2, 3] rfl)
      exact loop_37 (dg + 1) (0) (0) (μ 0 13)  _ _ (by omega) (by omega) (rfl) (by rw [sp_st_self]; exact hty) ((show mW am cy (μ) = mW am cy (sp_st μ 0 13 (μ 0 13)) from (by exact mW_eq (sp_st_self μ 0 13).symm)) ▸ hP) hS ls (lv_sub hl [0, 1, 2, 3] rfl)
    · rw [b2i_eq0] at c_2
      refine lv_aload_n hx hb dX10_number_23 rfl (lv_at hl 0 rfl) ?_
      refine lv_aload_n hx hb dX10_number_24 rfl (lv_at hl 0 rfl) ?_
      refine sp_get hx hb hts wi_X10_number_X10 hown hK hP (κ := 0) (by decide) mE_0 rfl 13 (by decide) (hts _ (List.mem_of_getElem? (i := 2) rfl)) (fun _ h => h) rfl dX10_number_25 ?_
      refine sp_put hx hb hts wi_X10_number_X10 tyX10 tyX10_ok nmX10 hown hK hP hi hAk hS (κ := 0) (by decide) mE_0 rfl 14 (by decide) (hts _ (List.mem_of_getElem? (i := 1) rfl)) (fun _ h => h) rfl (ty := tyX10 14) (by decide +kernel) ⟨rfl, rfl⟩ (Nat.le_of_ble_eq_true rfl) (r1 := upd (μ 0) 14 (μ 0 13)) (cE_of mE_0 (by simp [upd])) dX10_number_28 (fun H locs hP hS => ?_)
      have hP : va_P D vwCl (mW am cy (sp_st μ 0 14 (μ 0 13))) H := hP
      refine lv_iconst (v := 0) hx hb dX10_number_31 (by decide) ?_
      have hE9 : mW am cy (sp_st μ 0 14 (μ 0 13)) = mW am cy (m_nums μ dg) := by exact mW_eq (by first | (simp [m_nums, b2i, c_1, c_1d, c_2]; done) | (simp [m_nums, b2i, c_1, c_1d, c_2, ← h9]; done))
      have hP : va_P D vwCl (mW am cy (m_nums μ dg)) H := by rw [← hE9]; exact hP
      exact W.iret (v := 0) hx hb hr (fun T9 hT9 _ => ⟨congrArg (fun z9 => Outcome.returned (some (Value.int z9))) (show (0 : Int32) = m_numv μ dg from (by first | (simp [m_numv, b2i, c_1, c_1d, c_2]; done) | (simp [m_numv, b2i, c_1, c_1d, c_2, ← h9]; done))), by rw [hT9]; exact hP, hS.F hT9⟩) hS.2.2 dX10_number_32
  · skip
    have c_1d := Int32.not_lt.mp c_1
    refine lv_iconst (v := 0) hx hb dX10_number_7 (by decide) ?_
    have hE9 : mW am cy (μ) = mW am cy (m_nums μ dg) := by exact mW_eq (by first | (simp [m_nums, b2i, c_1, c_1d]; done) | (simp [m_nums, b2i, c_1, c_1d, ← h9]; done))
    have hP : va_P D vwCl (mW am cy (m_nums μ dg)) s.heap := by rw [← hE9]; exact hP
    exact W.iret (v := 0) hx hb hr (fun T9 hT9 _ => ⟨congrArg (fun z9 => Outcome.returned (some (Value.int z9))) (show (0 : Int32) = m_numv μ dg from (by first | (simp [m_numv, b2i, c_1, c_1d]; done) | (simp [m_numv, b2i, c_1, c_1d, ← h9]; done))), by rw [hT9]; exact hP, hS.F hT9⟩) hS.2.2 dX10_number_8

set_option maxHeartbeats 4000000 in
set_option maxRecDepth 100000 in
theorem c_X10_behind (l : Launch) (D : va_G) (am : Nat → Nat) (cy : Nat → ClassId) (μ : Nat → Nat → Int32) (sz : Nat) (hi : sp_inj am 5) (x : Int32) (hx0 : ¬ x = -1) (hty : MI μ) : Met l yX10_behind wsX10_behind ({ frames := 2, cells := 0, slots := 0, locals := 45 } : Room) (sp_Pm D (tyG cy) sz [.ref (am (0)), .int (x)] (mW am cy μ)) (sp_Q D (some (.int (m_numv (m_needs μ x) 3))) (mW am cy (m_nums (m_needs μ x) 3)) (sp_A am 5 sz)) 0 0 (sp_A am 5 sz) := by
  refine Met.ofW (cc := cX10_behind) (maxL := 2) (ret := (some .int)) (by decide) rfl ?_
  intro p e s m args below meth c s₁ B hml hv
  obtain ⟨rfl, hsz, hP, hK⟩ := hv
  have hx := B.exec
  have hb := B.bytes
  have hr := B.returns
  have hts := atoms_spec (ws := wsX10_behind) B.pre
  have hown : s.vm.findClass RX10 = some m.cls := findClass_of_methodNamed B.named
  have hlocks := B.notSynchronized
  subst hsz
  have hS : va_S (sp_A am 5 s.heap.size) s.heap s.heap [] := va_S.rf
  have hAk : ∀ k, k < 5 → (sp_A am 5 s.heap.size) (am k) := fun k hk => Or.inl ⟨k, hk, rfl⟩
  skip
  have hl := lv_entry ([.ref (am (0)), .int (x)]) (n := 2) (Nat.le_of_ble_eq_true rfl)
  refine W.eq (lg_entry_eq _ ([.ref (am (0)), .int (x)]) _) ?_
  generalize (lg_sl ([.ref (am (0)), .int (x)]) ++ List.replicate (2 - (lg_sl ([.ref (am (0)), .int (x)])).length) Slot.unset).toArray = ls at hl ⊢
  have hl : lv_has ls 2 [(0, .ref (am (0))), (1, .int (x))] := hl
  refine lv_aload_n hx hb dX10_behind_0 rfl (lv_at hl 0 rfl) ?_
  refine lv_iload_n hx hb dX10_behind_1 rfl (lv_at hl 1 rfl) ?_
  refine sp_callm (va_runV (As := [.int (x)]) (rest := []) ⟨hx, hb, hml, hown, hts⟩ (c_X10_needs l D am cy μ _ hi x hty) (cwV 1 hts gX10_behind_X10_needs rfl rfl rfl (by decide +kernel) ⟨Nat.le_of_ble_eq_true rfl, Nat.le_of_ble_eq_true rfl⟩) (sp_preVm hK hP (κ := 0) (by decide) mE_0 rfl) rfl rfl hl.1 rfl (lv_room (Nat.le_of_ble_eq_true rfl)) dX10_behind_2 ⟨Nat.le_of_ble_eq_true rfl, Nat.le_of_ble_eq_true rfl⟩) hS (fun q h1 h2 => sp_Alt h1 h2) (sp_Ale hS.1) (fun H locs hP hle hfr hS => ?_)
  refine W.eq (g2 := F0 m 5 ls []) rfl ?_
  refine lv_aload_n hx hb dX10_behind_5 rfl (lv_at hl 0 rfl) ?_
  refine lv_iconst (v := 3) hx hb dX10_behind_6 (by decide) ?_
  refine sp_callm (va_runV (As := [.int (3)]) (rest := []) ⟨hx, hb, hml, hown, hts⟩ (c_X10_number l D am cy (m_needs μ x) _ hi 3 (by first | omega | decide) (MI_needs hty hx0)) (cwV 1 hts gX10_behind_X10_number rfl rfl rfl (by decide +kernel) ⟨Nat.le_of_ble_eq_true rfl, Nat.le_of_ble_eq_true rfl⟩) (sp_preVm hK hP (κ := 0) (by decide) mE_0 rfl) rfl rfl hl.1 rfl (lv_room (Nat.le_of_ble_eq_true rfl)) dX10_behind_7 ⟨Nat.le_of_ble_eq_true rfl, Nat.le_of_ble_eq_true rfl⟩) hS (fun q h1 h2 => sp_Alt h1 h2) (sp_Ale hS.1) (fun H locs hP hle hfr hS => ?_)
  refine W.eq (g2 := F0 m 10 ls [.int (m_numv (m_needs μ x) 3)]) rfl ?_
  exact W.iret (v := m_numv (m_needs μ x) 3) hx hb hr (fun T9 hT9 _ => ⟨congrArg (fun z9 => Outcome.returned (some (Value.int z9))) (show (m_numv (m_needs μ x) 3 : Int32) = m_numv (m_needs μ x) 3 from (by rfl)), by rw [hT9]; exact hP, hS.F hT9⟩) hS.2.2 dX10_behind_10

theorem wi_X10_foot_X10 : ∀ w ∈ wsX100, w ∈ wsX10_foot := by decide +kernel
set_option maxHeartbeats 4000000 in
set_option maxRecDepth 100000 in
theorem c_X10_foot (l : Launch) (D : va_G) (am : Nat → Nat) (cy : Nat → ClassId) (μ : Nat → Nat → Int32) (sz : Nat) (hi : sp_inj am 5) (hty : MI μ) : Met l yX10_foot wsX10_foot ({ frames := 1, cells := 0, slots := 0, locals := 20 } : Room) (sp_Pm D (tyG cy) sz [.ref (am (0))] (mW am cy μ)) (sp_Q D (some (.int (m_ftv μ))) (mW am cy (m_fts μ)) (sp_A am 5 sz)) 0 0 (sp_A am 5 sz) := by
  refine Met.ofW (cc := cX10_foot) (maxL := 2) (ret := (some .int)) (by decide) rfl ?_
  intro p e s m args below meth c s₁ B hml hv
  obtain ⟨rfl, hsz, hP, hK⟩ := hv
  have hx := B.exec
  have hb := B.bytes
  have hr := B.returns
  have hts := atoms_spec (ws := wsX10_foot) B.pre
  have hown : s.vm.findClass RX10 = some m.cls := findClass_of_methodNamed B.named
  have hlocks := B.notSynchronized
  subst hsz
  have hS : va_S (sp_A am 5 s.heap.size) s.heap s.heap [] := va_S.rf
  have hAk : ∀ k, k < 5 → (sp_A am 5 s.heap.size) (am k) := fun k hk => Or.inl ⟨k, hk, rfl⟩
  skip
  have hl := lv_entry ([.ref (am (0))]) (n := 2) (Nat.le_of_ble_eq_true rfl)
  refine W.eq (lg_entry_eq _ ([.ref (am (0))]) _) ?_
  generalize (lg_sl ([.ref (am (0))]) ++ List.replicate (2 - (lg_sl ([.ref (am (0))])).length) Slot.unset).toArray = ls at hl ⊢
  have hl : lv_has ls 2 [(0, .ref (am (0)))] := hl
  refine lv_aload_n hx hb dX10_foot_0 rfl (lv_at hl 0 rfl) ?_
  refine sp_get hx hb hts wi_X10_foot_X10 hown hK hP (κ := 0) (by decide) mE_0 rfl 14 (by decide) (hts _ (List.mem_of_getElem? (i := 1) rfl)) (fun _ h => h) rfl dX10_foot_1 ?_
  refine lv_if_lt (tgt := 9) hx hb dX10_foot_4 (by decide) (fun c_1 => ?_) (fun c_1 => ?_)
  · skip
    have c_1d := Int32.not_le.mpr c_1
    refine lv_aload_n hx hb dX10_foot_9 rfl (lv_at hl 0 rfl) ?_
    refine sp_call (W.runV (As := []) (rest := []) ⟨hx, hb, hml, hown, hts⟩ (c_X10_sign l D am cy μ (by first | exact hty | (repeat first | exact hty | refine MI.st ?_ (by decide)))) (cwV 0 hts gX10_foot_X10_sign rfl rfl rfl (by decide +kernel) ⟨Nat.le_of_ble_eq_true rfl, Nat.le_of_ble_eq_true rfl⟩) (sp_preV hK hP (κ := 0) (by decide) mE_0 rfl) rfl rfl hl.1 rfl (lv_room (Nat.le_of_ble_eq_true rfl)) dX10_foot_10 ⟨Nat.le_of_ble_eq_true rfl, Nat.le_of_ble_eq_true rfl⟩) ?_
    refine W.eq (g2 := F0 m 13 ls [.int (m_sign μ)]) rfl ?_
    refine lv_istore_n (lv' := [(1, .int (m_sign μ)), (0, .ref (am (0)))]) hx hb dX10_foot_13 rfl hl (by decide) rfl (fun ls hl => ?_)
    refine lv_iload_n hx hb dX10_foot_14 rfl (lv_at hl 0 rfl) ?_
    refine lv_bipush (v := 76) hx hb dX10_foot_15 (by decide) ?_
    refine lv_icmp_eq (tgt := 36) hx hb dX10_foot_17 (by decide) (fun c_2 => ?_) (fun c_2 => ?_)
    · skip
      refine lv_aload_n hx hb dX10_foot_36 rfl (lv_at hl 1 rfl) ?_
      refine lv_dup hx hb dX10_foot_37 rfl ?_
      refine sp_get hx hb hts wi_X10_foot_X10 hown hK hP (κ := 0) (by decide) mE_0 rfl 13 (by decide) (hts _ (List.mem_of_getElem? (i := 2) rfl)) (fun _ h => h) rfl dX10_foot_38 ?_
      refine lv_iconst (v := 1) hx hb dX10_foot_41 (by decide) ?_
      refine lv_iadd hx hb dX10_foot_42 ?_
      refine sp_put hx hb hts wi_X10_foot_X10 tyX10 tyX10_ok nmX10 hown hK hP hi hAk hS (κ := 0) (by decide) mE_0 rfl 13 (by decide) (hts _ (List.mem_of_getElem? (i := 2) rfl)) (fun _ h => h) rfl (ty := tyX10 13) (by decide +kernel) ⟨rfl, rfl⟩ (Nat.le_of_ble_eq_true rfl) (r1 := upd (μ 0) 13 ((μ 0 13) + 1)) (cE_of mE_0 (by simp [upd])) dX10_foot_43 (fun H locs hP hS => ?_)
      have hP : va_P D vwCl (mW am cy (sp_st μ 0 13 ((μ 0 13) + 1))) H := hP
      refine lv_iload_n hx hb dX10_foot_46 rfl (lv_at hl 0 rfl) ?_
      refine lv_bipush (v := 76) hx hb dX10_foot_47 (by decide) ?_
      refine lv_icmp_ne (tgt := 56) hx hb dX10_foot_49 (by decide) (fun c_3 => ?_) (fun c_3 => ?_)
      · exact absurd c_2 c_3
      · skip
        refine lv_iconst (v := 1) hx hb dX10_foot_52 (by decide) ?_
        refine lv_goto (tgt := 57) hx hb dX10_foot_53 (by decide) ?_
        have hE9 : mW am cy (sp_st μ 0 13 ((μ 0 13) + 1)) = mW am cy (m_fts μ) := by exact mW_eq (by simp [m_fts, b2i, c_1, c_1d, c_2, c_3])
        have hP : va_P D vwCl (mW am cy (m_fts μ)) H := by rw [← hE9]; exact hP
        exact W.iret (v := 1) hx hb hr (fun T9 hT9 _ => ⟨congrArg (fun z9 => Outcome.returned (some (Value.int z9))) (show (1 : Int32) = m_ftv μ from (by simp [m_ftv, b2i, c_1, c_1d, c_2, c_3])), by rw [hT9]; exact hP, hS.F hT9⟩) hS.2.2 dX10_foot_57
    · skip
      refine lv_iload_n hx hb dX10_foot_20 rfl (lv_at hl 0 rfl) ?_
      refine lv_bipush (v := 82) hx hb dX10_foot_21 (by decide) ?_
      refine lv_icmp_eq (tgt := 36) hx hb dX10_foot_23 (by decide) (fun c_4 => ?_) (fun c_4 => ?_)
      · skip
        refine lv_aload_n hx hb dX10_foot_36 rfl (lv_at hl 1 rfl) ?_
        refine lv_dup hx hb dX10_foot_37 rfl ?_
        refine sp_get hx hb hts wi_X10_foot_X10 hown hK hP (κ := 0) (by decide) mE_0 rfl 13 (by decide) (hts _ (List.mem_of_getElem? (i := 2) rfl)) (fun _ h => h) rfl dX10_foot_38 ?_
        refine lv_iconst (v := 1) hx hb dX10_foot_41 (by decide) ?_
        refine lv_iadd hx hb dX10_foot_42 ?_
        refine sp_put hx hb hts wi_X10_foot_X10 tyX10 tyX10_ok nmX10 hown hK hP hi hAk hS (κ := 0) (by decide) mE_0 rfl 13 (by decide) (hts _ (List.mem_of_getElem? (i := 2) rfl)) (fun _ h => h) rfl (ty := tyX10 13) (by decide +kernel) ⟨rfl, rfl⟩ (Nat.le_of_ble_eq_true rfl) (r1 := upd (μ 0) 13 ((μ 0 13) + 1)) (cE_of mE_0 (by simp [upd])) dX10_foot_43 (fun H locs hP hS => ?_)
        have hP : va_P D vwCl (mW am cy (sp_st μ 0 13 ((μ 0 13) + 1))) H := hP
        refine lv_iload_n hx hb dX10_foot_46 rfl (lv_at hl 0 rfl) ?_
        refine lv_bipush (v := 76) hx hb dX10_foot_47 (by decide) ?_
        refine lv_icmp_ne (tgt := 56) hx hb dX10_foot_49 (by decide) (fun c_5 => ?_) (fun c_5 => ?_)
        · skip
          refine lv_iconst (v := 0) hx hb dX10_foot_56 (by decide) ?_
          have hE9 : mW am cy (sp_st μ 0 13 ((μ 0 13) + 1)) = mW am cy (m_fts μ) := by exact mW_eq (by simp [m_fts, b2i, c_1, c_1d, c_2, c_4, c_5])
          have hP : va_P D vwCl (mW am cy (m_fts μ)) H := by rw [← hE9]; exact hP
          exact W.iret (v := 0) hx hb hr (fun T9 hT9 _ => ⟨congrArg (fun z9 => Outcome.returned (some (Value.int z9))) (show (0 : Int32) = m_ftv μ from (by simp [m_ftv, b2i, c_1, c_1d, c_2, c_4, c_5])), by rw [hT9]; exact hP, hS.F hT9⟩) hS.2.2 dX10_foot_57
        · exact absurd (c_4.symm.trans c_5) (by decide)
      · skip
        refine lv_aload_n hx hb dX10_foot_26 rfl (lv_at hl 1 rfl) ?_
        refine lv_aload_n hx hb dX10_foot_27 rfl (lv_at hl 1 rfl) ?_
        refine sp_get hx hb hts wi_X10_foot_X10 hown hK hP (κ := 0) (by decide) mE_0 rfl 13 (by decide) (hts _ (List.mem_of_getElem? (i := 2) rfl)) (fun _ h => h) rfl dX10_foot_28 ?_
        refine sp_put hx hb hts wi_X10_foot_X10 tyX10 tyX10_ok nmX10 hown hK hP hi hAk hS (κ := 0) (by decide) mE_0 rfl 14 (by decide) (hts _ (List.mem_of_getElem? (i := 1) rfl)) (fun _ h => h) rfl (ty := tyX10 14) (by decide +kernel) ⟨rfl, rfl⟩ (Nat.le_of_ble_eq_true rfl) (r1 := upd (μ 0) 14 (μ 0 13)) (cE_of mE_0 (by simp [upd])) dX10_foot_31 (fun H locs hP hS => ?_)
        have hP : va_P D vwCl (mW am cy (sp_st μ 0 14 (μ 0 13))) H := hP
        refine lv_iconst (v := 0) hx hb dX10_foot_34 (by decide) ?_
        have hE9 : mW am cy (sp_st μ 0 14 (μ 0 13)) = mW am cy (m_fts μ) := by exact mW_eq (by simp [m_fts, b2i, c_1, c_1d, c_2, c_4])
        have hP : va_P D vwCl (mW am cy (m_fts μ)) H := by rw [← hE9]; exact hP
        exact W.iret (v := 0) hx hb hr (fun T9 hT9 _ => ⟨congrArg (fun z9 => Outcome.returned (some (Value.int z9))) (show (0 : Int32) = m_ftv μ from (by simp [m_ftv, b2i, c_1, c_1d, c_2, c_4])), by rw [hT9]; exact hP, hS.F hT9⟩) hS.2.2 dX10_foot_35
  · skip
    have c_1d := Int32.not_lt.mp c_1
    refine lv_iconst (v := 0) hx hb dX10_foot_7 (by decide) ?_
    have hE9 : mW am cy (μ) = mW am cy (m_fts μ) := by exact mW_eq (by simp [m_fts, b2i, c_1, c_1d])
    have hP : va_P D vwCl (mW am cy (m_fts μ)) s.heap := by rw [← hE9]; exact hP
    exact W.iret (v := 0) hx hb hr (fun T9 hT9 _ => ⟨congrArg (fun z9 => Outcome.returned (some (Value.int z9))) (show (0 : Int32) = m_ftv μ from (by simp [m_ftv, b2i, c_1, c_1d])), by rw [hT9]; exact hP, hS.F hT9⟩) hS.2.2 dX10_foot_8

