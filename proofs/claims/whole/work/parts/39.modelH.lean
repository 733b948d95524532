
/-! the model's commands done -/
def m_doV (μ : Nat → Nat → Int32) (n t a : Nat) : Int32 :=
  if μ 4 a = 84 then m_addTv t (μ 4 (a + 1))
  else if μ 4 a = 80 then m_addPv (μ 1) n t (μ 4 (a + 1)) (μ 4 (a + 2)) (μ 4 (a + 3)) (μ 4 (a + 4)) (μ 4 (a + 6))
  else if μ 4 a = 72 then m_corv (μ 1) n (μ 4 (a + 1)) (μ 4 (a + 2)) (μ 4 (a + 3))
  else if μ 4 a = 70 then m_by (m_find (μ 1) n (μ 4 (a + 1)))
  else if μ 4 a = 68 then atO (m_find (μ 1) n (μ 4 (a + 1))) 1 (fun k => if gP (μ 1) k 7 = 3 then 3 else 0)
  else if μ 4 a = 67 then atO (m_find (μ 1) n (μ 4 (a + 1))) 1 (fun k => if gP (μ 1) k 7 = 0 then 3 else 0)
  else if μ 4 a = 88 then m_by (m_find (μ 1) n (μ 4 (a + 1)))
  else m_tidev (μ 1) (μ 4 (a + 1))
def m_do (μ : Nat → Nat → Int32) (n t a : Nat) : Nat → Nat → Int32 :=
  if μ 4 a = 84 then m_addT μ t (μ 4 (a + 1))
  else if μ 4 a = 80 then m_addP μ n t (μ 4 (a + 1)) (μ 4 (a + 2)) (μ 4 (a + 3)) (μ 4 (a + 4)) (μ 4 (a + 5)) (μ 4 (a + 6))
  else if μ 4 a = 72 then m_cor μ n (μ 4 (a + 1)) (μ 4 (a + 2)) (μ 4 (a + 3))
  else if μ 4 a = 70 then m_swap μ n (μ 4 (a + 1))
  else if μ 4 a = 68 then m_doub μ n (μ 4 (a + 1))
  else if μ 4 a = 67 then m_conf μ n (μ 4 (a + 1))
  else if μ 4 a = 88 then m_rmPr μ n (μ 4 (a + 1))
  else m_tide μ n (μ 4 (a + 1))
theorem MF_do (μ : Nat → Nat → Int32) (n t a : Nat) : MF μ (m_do μ n t a) := by
  unfold m_do
  split
  · exact MF_addT _ _ _
  · split
    · exact MF_addP _ _ _ _ _ _ _ _ _
    · split
      · exact MF_cor _ _ _ _ _
      · split
        · exact MF_swap _ _ _
        · split
          · exact MF_doub _ _ _
          · split
            · exact MF_conf _ _ _
            · split
              · exact MF_rmPr _ _ _
              · exact MF_tide _ _ _
/-- how many prints and tracks a state has -/
def m_nn (τ : Nat → Nat → Int32) : Nat := tn (τ 1 1)
def m_tt (τ : Nat → Nat → Int32) : Nat := tn (τ 1 0)
def MSx (τ : Nat → Nat → Int32) : Prop := MS (τ 1) (m_nn τ) (m_tt τ)
theorem MSx_of {τ : Nat → Nat → Int32} {n t : Nat} (h : MS (τ 1) n t) : MSx τ := by
  have h1 : m_nn τ = n := by unfold m_nn; rw [h.1, tn_nI (by have := h.2.1; omega)]
  have h2 : m_tt τ = t := by unfold m_tt; rw [h.2.2.1, tn_nI (by have := h.2.2.2; omega)]
  unfold MSx; rw [h1, h2]; exact h
theorem m_rm_ok {P : (Nat → Nat → Int32) → Nat → Bool} {n t : Nat} {μ : Nat → Nat → Int32} (h : MS (μ 1) n t) : ∀ i : Nat, i ≤ n → MS ((m_rm P n μ i).2 1) (m_rm P n μ i).1 t ∧ n - i ≤ (m_rm P n μ i).1
  | 0, _ => ⟨h, Nat.le_refl _⟩
  | i + 1, hi => by
    obtain ⟨h1, h2⟩ := m_rm_ok (P := P) h i (by omega)
    exact ⟨m_rm_MS h1 h2 (by omega), m_rm_le h2 (by omega)⟩
theorem MS.rej {μ : Nat → Nat → Int32} {n t : Nat} {x y : Int32} (h : MS (μ 1) n t) : MS (m_rej μ x y 1) n t := h.st0.st0.st0
theorem MS_addT {μ : Nat → Nat → Int32} {n t : Nat} {z : Int32} (h : MS (μ 1) n t) : MSx (m_addT μ t z) := by
  unfold m_addT
  split
  · split
    · exact MSx_of h.rej
    · rename_i h6
      have ht : t < 6 := by
        rcases Nat.lt_or_ge t 6 with q | q
        · exact q
        · exact absurd (show nI t = 6 by rw [show t = 6 by have := h.2.2.2; omega]; rfl) h6
      refine MSx_of (n := n) (t := t + 1) ⟨?_, h.2.1, ?_, by omega⟩
      · rw [sp_st_j _ _ _ _ _ _ (by omega), sp_st_j _ _ _ _ _ _ (by omega), sp_st_j _ _ _ _ _ _ (by decide), sp_st_j _ _ _ _ _ _ (by decide), sp_st_k _ _ _ _ _ _ (by decide)]; exact h.1
      · rw [sp_st_j _ _ _ _ _ _ (by omega), sp_st_j _ _ _ _ _ _ (by omega), sp_st_s]; exact nI_1 t
  · exact MSx_of h
theorem MS_rmPr {μ : Nat → Nat → Int32} {n t : Nat} {x : Int32} (h : MS (μ 1) n t) : MSx (m_rmPr μ n x) := by
  unfold m_rmPr
  rcases hq : m_find (μ 1) n x with _ | k
  · exact MSx_of h
  · exact MSx_of (m_goes_MS h.st0 (m_find_lt hq))
theorem MS.rejO {μ τ : Nat → Nat → Int32} {n t n2 t2 : Nat} {o : Option (Int32 × Int32)} (h : MS (μ 1) n t) (h2 : MS (τ 1) n2 t2) : MSx (m_rejO μ o τ) := by
  rcases o with _ | y
  · exact MSx_of h2
  · exact MSx_of h.rej
theorem MS_cor {μ : Nat → Nat → Int32} {n t : Nat} {x r c1 : Int32} (h : MS (μ 1) n t) : MSx (m_cor μ n x r c1) := by
  unfold m_cor
  rcases hq : m_find (μ 1) n x with _ | k
  · exact MSx_of h
  · show MSx (if m_isCell r c1 = true then _ else μ)
    split
    · exact h.rejO (((h.st (by omega)).st (by omega)).st (by omega)).st0
    · exact MSx_of h
theorem MS_swap {μ : Nat → Nat → Int32} {n t : Nat} {x : Int32} (h : MS (μ 1) n t) : MSx (m_swap μ n x) := by
  unfold m_swap
  rcases hq : m_find (μ 1) n x with _ | k
  · exact MSx_of h
  · exact MSx_of (h.st0.st (by omega))
theorem MS_doub {μ : Nat → Nat → Int32} {n t : Nat} {x : Int32} (h : MS (μ 1) n t) : MSx (m_doub μ n x) := by
  unfold m_doub
  rcases hq : m_find (μ 1) n x with _ | k
  · exact MSx_of h
  · show MSx (if gP (μ 1) k 7 = 3 then _ else _)
    split
    · exact MSx_of h.rej
    · exact MSx_of (h.st0.st (by omega))
theorem MS_conf {μ : Nat → Nat → Int32} {n t : Nat} {x : Int32} (h : MS (μ 1) n t) : MSx (m_conf μ n x) := by
  unfold m_conf
  rcases hq : m_find (μ 1) n x with _ | k
  · exact MSx_of h
  · show MSx (if gP (μ 1) k 7 = 0 then _ else _)
    split
    · exact MSx_of h.st0.rej
    · exact MSx_of (h.st0.st (by omega))
theorem MS_tide {μ : Nat → Nat → Int32} {n t : Nat} {v : Int32} (h : MS (μ 1) n t) : MSx (m_tide μ n v) := by
  unfold m_tide
  split
  · split
    · exact MSx_of h.rej
    · exact MSx_of (((m_rm_ok h.st0 n (Nat.le_refl n)).1.st (by omega)).st (by omega))
  · exact MSx_of h
theorem MS_new {μ : Nat → Nat → Int32} {n t : Nat} {x u r c1 lf z : Int32} (h : MS (μ 1) n t) (hn : n < 30) : MS (m_new μ n x u r c1 lf z 1) (n + 1) t := by
  unfold m_new
  refine MS.st (MS.st (MS.st (MS.st (MS.st (MS.st (MS.st (MS.st (MS.st ?_ (by omega)) (by omega)) (by omega)) (by omega)) (by omega)) (by omega)) (by omega)) (by omega)) (by omega)
  refine ⟨?_, by omega, ?_, h.2.2.2⟩
  · rw [sp_st_s]; exact nI_1 n
  · rw [sp_st_j _ _ _ _ _ _ (by decide), sp_st_j _ _ _ _ _ _ (by decide), sp_st_k _ _ _ _ _ _ (by decide)]; exact h.2.2.1
theorem MS_addP {μ : Nat → Nat → Int32} {n t : Nat} {x u r c1 lf z : Int32} (h : MS (μ 1) n t) : MSx (m_addP μ n t x u r c1 lf z) := by
  unfold m_addP
  rcases m_ft (μ 1) t x with _ | k
  · exact MSx_of h
  · show MSx (if m_isCell r c1 = true then _ else μ)
    split
    · split
      · by_cases hn : nI n = 30
        · unfold m_objP; rw [if_pos hn]; exact MSx_of h.rej
        · exact h.rejO (MS_new h (nI_lt30 hn h.2.1))
      · exact MSx_of h
    · exact MSx_of h
theorem m_do_MS {τ : Nat → Nat → Int32} {a : Nat} (h : MSx τ) : MSx (m_do τ (m_nn τ) (m_tt τ) a) := by
  unfold m_do
  split
  · exact MS_addT h
  · split
    · exact MS_addP h
    · split
      · exact MS_cor h
      · split
        · exact MS_swap h
        · split
          · exact MS_doub h
          · split
            · exact MS_conf h
            · split
              · exact MS_rmPr h
              · exact MS_tide h
/-- what reading the input leaves -/
abbrev pfx (k j : Nat) : Prop := ¬ (k = 4 ∨ (k = 0 ∧ (j = 13 ∨ j = 14 ∨ j = 17)))
def PF (μ τ : Nat → Nat → Int32) : Prop := ∀ k j, pfx k j → τ k j = μ k j
theorem PF.rf {μ : Nat → Nat → Int32} : PF μ μ := fun _ _ _ => rfl
theorem PF.tr {μ τ ρ : Nat → Nat → Int32} (h : PF μ τ) (h2 : PF τ ρ) : PF μ ρ := fun k j hj => (h2 k j hj).trans (h k j hj)
theorem PF.st {μ τ : Nat → Nat → Int32} {k j : Nat} {v : Int32} (h : PF μ τ) (hk : k = 4 ∨ (k = 0 ∧ (j = 13 ∨ j = 14 ∨ j = 17))) : PF μ (sp_st τ k j v) := fun a b hb => by
  rw [sp_st_at, if_neg (fun z => hb (by rw [z.1, z.2]; exact hk))]; exact h a b hb
theorem PF_nums (μ : Nat → Nat → Int32) (dg : Nat) : PF μ (m_nums μ dg) := by
  unfold m_nums
  split
  · exact PF.rf
  · split
    · exact PF.rf.st (by decide)
    · exact PF.rf.st (by decide)
theorem PF_needs (μ : Nat → Nat → Int32) (x : Int32) : PF μ (m_needs μ x) := by
  unfold m_needs
  split
  · exact PF.rf
  · split
    · exact PF.rf.st (by decide)
    · exact PF.rf.st (by decide)
theorem PF_fts (μ : Nat → Nat → Int32) : PF μ (m_fts μ) := by
  unfold m_fts
  split
  · exact PF.rf
  · split
    · exact PF.rf.st (by decide)
    · exact PF.rf.st (by decide)
theorem PF_sn (τ : Nat → Nat → Int32) (a dg : Nat) : PF τ (m_sn τ a dg) := (PF_nums τ dg).st (Or.inl rfl)
theorem PF_sb (τ : Nat → Nat → Int32) (a : Nat) (c : Int32) : PF τ (m_sb τ a c) := ((PF_needs τ c).tr (PF_nums _ 3)).st (Or.inl rfl)
theorem PF_sf (τ : Nat → Nat → Int32) (a : Nat) : PF τ (m_sf τ a) := (PF_fts τ).st (Or.inl rfl)
theorem PF.clr {μ τ : Nat → Nat → Int32} {cm i : Nat} (h : PF μ τ) : PF μ (m_clr τ cm i) := fun k j hj => by
  rw [m_clr_at (fun z => hj (Or.inl z))]; exact h k j hj
theorem PF_cmd (μ : Nat → Nat → Int32) (cm : Nat) : PF μ (m_cmd μ cm) := by
  unfold m_cmd
  split
  · have h1 : PF μ (sp_st μ 0 17 (nI cm + 1)) := PF.rf.st (by decide)
    have h2 : PF μ (m_clr (sp_st μ 0 17 (nI cm + 1)) cm 7) := h1.clr
    have h3 : PF μ (sp_st (m_clr (sp_st μ 0 17 (nI cm + 1)) cm 7) 0 13 (μ 0 13 + 1)) := h2.st (by decide)
    have h4 : PF μ (sp_st (sp_st (m_clr (sp_st μ 0 17 (nI cm + 1)) cm 7) 0 13 (μ 0 13 + 1)) 4 (7 * cm) (m_sign (sp_st μ 0 17 (nI cm + 1)))) := h3.st (Or.inl rfl)
    unfold m_cmdK
    split
    · exact ((h4.tr (PF_sn _ _ _)).tr (PF_sb _ _ _)).tr (PF_sb _ _ _)
    · split
      · exact (((((h4.tr (PF_sn _ _ _)).tr (PF_sb _ _ _)).tr (PF_sb _ _ _)).tr (PF_sb _ _ _)).tr (PF_sf _ _)).tr (PF_sn _ _ _)
      · exact h4.tr (PF_sn _ _ _)
  · exact (PF.rf.st (by decide)).clr.st (by decide)
theorem PF_pl (μ : Nat → Nat → Int32) : ∀ i : Nat, PF μ (m_pl μ i)
  | 0 => (((PF.rf.st (by decide)).st (by decide)).st (by decide)).tr (PF_cmd _ _)
  | i + 1 => ((PF_pl μ i).st (by decide)).tr (PF_cmd _ _)
theorem PF_parse (μ : Nat → Nat → Int32) : PF μ (m_parse μ) := by
  unfold m_parse
  rcases fstI (m_stp μ) 61 with _ | i
  · exact PF.rf
  · show PF μ (m_pend (m_pl μ i))
    unfold m_pend
    split
    · exact (PF_pl μ i).st (by decide)
    · exact PF_pl μ i
/-- the commands' number -/
def m_cn (μ : Nat → Nat → Int32) : Nat := atO (fstI (m_stp μ) 61) 0 (fun i => i + 1)
theorem m_pl_ok {μ : Nat → Nat → Int32} (h : MI μ) : ∀ i : Nat, fstI (m_stp μ) i = none → MI (m_pl μ i) ∧ i ≤ tn (m_pl μ i 0 13)
  | 0, _ => ⟨MG_cmd (MI_p0 h), Nat.zero_le _⟩
  | i + 1, hi => by
    have h0 : fstI (m_stp μ) i = none := fstI_none.mpr fun j hj => fstI_none.mp hi j (by omega)
    obtain ⟨h1, h2⟩ := m_pl_ok h i h0
    have h3 := fstI_none.mp hi i (by omega)
    simp only [m_stp, Bool.not_eq_false', Bool.and_eq_true, decide_eq_true_eq, beq_iff_eq] at h3
    have h4 : ¬ m_sign (m_pl μ i) = -1 := by rw [h3.2]; decide
    exact ⟨MG_cmd (MI_inc h1 h4), m_pl_le h1 h2 h4⟩
theorem m_stp_some {μ : Nat → Nat → Int32} (h : MI μ) : ∃ i, fstI (m_stp μ) 61 = some i ∧ i < 61 := by
  rcases opt_em (fstI (m_stp μ) 61) with q | ⟨i, q⟩
  · exfalso
    have h0 : fstI (m_stp μ) 60 = none := fstI_none.mpr fun j hj => fstI_none.mp q j (by omega)
    obtain ⟨h1, h2⟩ := m_pl_ok h 60 h0
    have h3 := fstI_none.mp q 60 (by omega)
    simp only [m_stp, Bool.not_eq_false', Bool.and_eq_true, decide_eq_true_eq, beq_iff_eq] at h3
    have h4 := m_pl_lt h1 h2 (by rw [h3.2]; decide)
    omega
  · exact ⟨i, q, (fstI_some q).1⟩
theorem m_pl_17 (μ : Nat → Nat → Int32) : ∀ i : Nat, m_pl μ i 0 17 = nI (i + 1)
  | 0 => m_cmd_17 (cm := 0)
  | _ + 1 => m_cmd_17
theorem m_cn_ok {μ : Nat → Nat → Int32} (h : MI μ) : m_parse μ 0 17 = nI (m_cn μ) ∧ m_cn μ ≤ 61 := by
  obtain ⟨i, hi, hl⟩ := m_stp_some h
  have h1 : m_cn μ = i + 1 := by unfold m_cn; rw [hi]; rfl
  rw [h1]
  refine ⟨?_, hl⟩
  unfold m_parse
  rw [hi]
  show m_pend (m_pl μ i) 0 17 = _
  unfold m_pend
  split
  · rw [sp_st_j _ _ _ _ _ _ (by decide), m_pl_17]
  · rw [m_pl_17]
/-- the commands done one by one -/
def S_mdo (s : Int32 × (Nat → Nat → Int32)) (i : Nat) : Int32 × (Nat → Nat → Int32) := (m_doV s.2 (m_nn s.2) (m_tt s.2) (7 * i), m_do s.2 (m_nn s.2) (m_tt s.2) (7 * i))
def m_Ei (μ : Nat → Nat → Int32) (i : Nat) : Int32 × (Nat → Nat → Int32) := foldI S_mdo (0, m_copy (sp_st (m_parse μ) 0 12 0) 0 10) i
theorem m_Ei_s1 (μ : Nat → Nat → Int32) (i : Nat) : m_doV (m_Ei μ i).2 (m_nn (m_Ei μ i).2) (m_tt (m_Ei μ i).2) (7 * i) = (m_Ei μ (i + 1)).1 := rfl
theorem m_Ei_s2 (μ : Nat → Nat → Int32) (i : Nat) : (m_Ei μ (i + 1)).2 = m_do (m_Ei μ i).2 (m_nn (m_Ei μ i).2) (m_tt (m_Ei μ i).2) (7 * i) := rfl
theorem MF_Ei (μ : Nat → Nat → Int32) : ∀ i : Nat, MF (sp_st (m_parse μ) 0 12 0) (m_Ei μ i).2
  | 0 => MF.rf.copy
  | i + 1 => (MF_Ei μ i).tr (by rw [m_Ei_s2]; exact MF_do _ _ _ _)
theorem m_Ei_17 {μ : Nat → Nat → Int32} {i : Nat} (h : MI μ) : (m_Ei μ i).2 0 17 = nI (m_cn μ) := by
  rw [MF_Ei μ i 0 17 (by decide), sp_st_j _ _ _ _ _ _ (by decide)]; exact (m_cn_ok h).1
theorem m_Ei_2 {μ : Nat → Nat → Int32} {i ch : Nat} (h : μ 0 2 = nI ch) : (m_Ei μ i).2 0 2 = nI ch := by
  rw [MF_Ei μ i 0 2 (by decide), sp_st_j _ _ _ _ _ _ (by decide), PF_parse μ 0 2 (by decide)]; exact h
theorem m_E0_MS {μ : Nat → Nat → Int32} {n t : Nat} (h : MS (μ 1) n t) : MSx (m_Ei μ 0).2 := by
  refine MSx_of (n := n) (t := t) ?_
  show MS (m_copy (sp_st (m_parse μ) 0 12 0) 0 10 1) n t
  refine MS.copy (MS.st0 ?_)
  unfold MS
  rw [PF_parse μ 1 1 (by decide), PF_parse μ 1 0 (by decide)]
  exact h
def m_Ep (μ : Nat → Nat → Int32) (j : Nat) : Bool := !((m_Ei μ (j + 1)).1 == 0)
theorem m_Ep_s {μ : Nat → Nat → Int32} {i : Nat} (h : fstI (m_Ep μ) (i - 1) = none) (h0 : (m_Ei μ i).1 = 0) : fstI (m_Ep μ) (i + 1 - 1) = none := by
  rcases i with _ | i
  · rfl
  · exact fstI_succ_no h (by unfold m_Ep; rw [h0]; rfl)
def m_Ed (μ : Nat → Nat → Int32) : Nat := match fstI (m_Ep μ) (m_cn μ) with
  | none => m_cn μ
  | some j => j + 1
theorem m_Ed_eq {μ : Nat → Nat → Int32} {i : Nat} {y0 : Int32} (h0 : y0 = (m_Ei μ i).1) (h1 : fstI (m_Ep μ) (i - 1) = none) (h : i = m_cn μ ∨ (i < m_cn μ ∧ ¬ y0 = 0)) : m_Ed μ = i := by
  unfold m_Ed
  by_cases hy : y0 = 0
  · have hi : i = m_cn μ := h.elim id (fun z => absurd hy z.2)
    have h2 := m_Ep_s h1 (h0.symm.trans hy)
    rw [← hi, show fstI (m_Ep μ) i = none from h2]
  · rcases i with _ | i
    · exact absurd h0 hy
    · rw [show fstI (m_Ep μ) (m_cn μ) = some i from fstI_hit h1 (by unfold m_Ep; rw [← h0]; simpa using hy) (by omega)]
def m_fin (y : Int32) (τ : Nat → Nat → Int32) (i cm : Nat) : Nat → Nat → Int32 := sp_st (if y = 3 then sp_st (sp_st (sp_st (sp_st τ 0 7 (τ 0 5)) 0 8 (τ 0 6)) 0 5 10) 0 6 (nI i - 1) else τ) 0 4 (nI cm)
def m_exec (μ : Nat → Nat → Int32) (ch : Nat) : Nat → Nat → Int32 := if 0 ≤ m_parse μ 0 14 then sp_st (sp_st (sp_st (m_parse μ) 0 12 0) 0 15 (m_parse μ 0 14)) 0 0 1
  else m_ends (m_fin (m_Ei μ (m_Ed μ)).1 (m_Ei μ (m_Ed μ)).2 (m_Ed μ) (m_cn μ)) ch (m_Ei μ (m_Ed μ)).1 2 2 3
def m_execV (μ : Nat → Nat → Int32) : Int32 := if 0 ≤ m_parse μ 0 14 then 0 else m_endr (m_fin (m_Ei μ (m_Ed μ)).1 (m_Ei μ (m_Ed μ)).2 (m_Ed μ) (m_cn μ)) (m_Ei μ (m_Ed μ)).1 2 2 3
theorem wi_X10_does_X10 : ∀ w ∈ wsX100, w ∈ wsX10_does := by decide +kernel
set_option maxHeartbeats 4000000 in
set_option maxRecDepth 100000 in
theorem c_X10_does (l : Launch) (D : va_G) (am : Nat → Nat) (cy : Nat → ClassId) (μ : Nat → Nat → Int32) (sz : Nat) (hi : sp_inj am 5) (n : Nat) (t : Nat) (hM : MS (μ 1) n t) (a : Nat) (ha6 : a + 6 < 427) : Met l yX10_does wsX10_does ({ frames := 3, cells := 0, slots := 0, locals := 76 } : Room) (sp_Pm D (tyG cy) sz [.ref (am (0)), .int (nI a)] (mW am cy μ)) (sp_Q D (some (.int (m_doV μ n t a))) (mW am cy (m_do μ n t a)) (sp_A am 5 sz)) 0 0 (sp_A am 5 sz) := by
  refine Met.ofW (cc := cX10_does) (maxL := 5) (ret := (some .int)) (by decide) rfl ?_
  intro p e s m args below meth c s₁ B hml hv
  obtain ⟨rfl, hsz, hP, hK⟩ := hv
  have hx := B.exec
  have hb := B.bytes
  have hr := B.returns
  have hts := atoms_spec (ws := wsX10_does) B.pre
  have hown : s.vm.findClass RX10 = some m.cls := findClass_of_methodNamed B.named
  have hlocks := B.notSynchronized
  subst hsz
  have hS : va_S (sp_A am 5 s.heap.size) s.heap s.heap [] := va_S.rf
  have hAk : ∀ k, k < 5 → (sp_A am 5 s.heap.size) (am k) := fun k hk => Or.inl ⟨k, hk, rfl⟩
  skip
  have hn30 := hM.2.1
  have ht6 := hM.2.2.2
  have hl := lv_entry ([.ref (am (0)), .int (nI a)]) (n := 5) (Nat.le_of_ble_eq_true rfl)
  refine W.eq (lg_entry_eq _ ([.ref (am (0)), .int (nI a)]) _) ?_
  generalize (lg_sl ([.ref (am (0)), .int (nI a)]) ++ List.replicate (5 - (lg_sl ([.ref (am (0)), .int (nI a)])).length) Slot.unset).toArray = ls at hl ⊢
  have hl : lv_has ls 5 [(0, .ref (am (0))), (1, .int (nI a))] := hl
  refine lv_aload_n hx hb dX10_does_0 rfl (lv_at hl 0 rfl) ?_
  refine sp_get hx hb hts wi_X10_does_X10 hown hK hP (κ := 0) (by decide) mE_0 rfl 16 (by decide) (hts _ (List.mem_of_getElem? (i := 1) rfl)) (fun _ h => h) rfl dX10_does_1 ?_
  refine lv_iload_n hx hb dX10_does_4 rfl (lv_at hl 1 rfl) ?_
  refine lv_iconst (v := 1) hx hb dX10_does_5 (by decide) ?_
  refine lv_iadd hx hb dX10_does_6 ?_
  refine sp_iald hx hb hK hP (κ := 4) (by decide) 1 mE_4 rfl (a + 1) (nI_addE rfl rfl) (by omega) (by decide) dX10_does_7 ?_
  refine lv_istore_n (lv' := [(2, .int (μ 4 (a + 1))), (0, .ref (am (0))), (1, .int (nI a))]) hx hb dX10_does_8 rfl hl (by decide) rfl (fun ls hl => ?_)
  refine lv_aload_n hx hb dX10_does_9 rfl (lv_at hl 1 rfl) ?_
  refine sp_get hx hb hts wi_X10_does_X10 hown hK hP (κ := 0) (by decide) mE_0 rfl 16 (by decide) (hts _ (List.mem_of_getElem? (i := 1) rfl)) (fun _ h => h) rfl dX10_does_10 ?_
  refine lv_iload_n hx hb dX10_does_13 rfl (lv_at hl 2 rfl) ?_
  refine lv_iconst (v := 2) hx hb dX10_does_14 (by decide) ?_
  refine lv_iadd hx hb dX10_does_15 ?_
  refine sp_iald hx hb hK hP (κ := 4) (by decide) 1 mE_4 rfl (a + 2) (nI_addE rfl rfl) (by omega) (by decide) dX10_does_16 ?_
  refine lv_istore_n (lv' := [(3, .int (μ 4 (a + 2))), (2, .int (μ 4 (a + 1))), (0, .ref (am (0))), (1, .int (nI a))]) hx hb dX10_does_17 rfl hl (by decide) rfl (fun ls hl => ?_)
  refine lv_aload_n hx hb dX10_does_18 rfl (lv_at hl 2 rfl) ?_
  refine sp_get hx hb hts wi_X10_does_X10 hown hK hP (κ := 0) (by decide) mE_0 rfl 16 (by decide) (hts _ (List.mem_of_getElem? (i := 1) rfl)) (fun _ h => h) rfl dX10_does_19 ?_
  refine lv_iload_n hx hb dX10_does_22 rfl (lv_at hl 3 rfl) ?_
  refine lv_iconst (v := 3) hx hb dX10_does_23 (by decide) ?_
  refine lv_iadd hx hb dX10_does_24 ?_
  refine sp_iald hx hb hK hP (κ := 4) (by decide) 1 mE_4 rfl (a + 3) (nI_addE rfl rfl) (by omega) (by decide) dX10_does_25 ?_
  refine lv_istore (lv' := [(4, .int (μ 4 (a + 3))), (3, .int (μ 4 (a + 2))), (2, .int (μ 4 (a + 1))), (0, .ref (am (0))), (1, .int (nI a))]) hx hb dX10_does_26 hl (by decide) rfl (fun ls hl => ?_)
  refine lv_aload_n hx hb dX10_does_28 rfl (lv_at hl 3 rfl) ?_
  refine sp_get hx hb hts wi_X10_does_X10 hown hK hP (κ := 0) (by decide) mE_0 rfl 16 (by decide) (hts _ (List.mem_of_getElem? (i := 1) rfl)) (fun _ h => h) rfl dX10_does_29 ?_
  refine lv_iload_n hx hb dX10_does_32 rfl (lv_at hl 4 rfl) ?_
  refine sp_iald hx hb hK hP (κ := 4) (by decide) 1 mE_4 rfl a rfl (by omega) (by decide) dX10_does_33 ?_
  by_cases c_1 : (μ 4 a) = 67
  · refine lv_tableIn (off := 163) (tgt := 197) hx hb dX10_does_34 (by rw [c_1]; decide +kernel) (by rw [c_1]; decide +kernel) (by rw [c_1]; decide +kernel) (by decide) ?_
    refine lv_aload_n hx hb dX10_does_197 rfl (lv_at hl 3 rfl) ?_
    refine lv_iload_n hx hb dX10_does_198 rfl (lv_at hl 2 rfl) ?_
    refine sp_callm (va_runV (As := [.int (μ 4 (a + 1))]) (rest := []) ⟨hx, hb, hml, hown, hts⟩ (c_X10_confirms l D am cy μ _ hi n t (by first | exact hM | exact hi_0 | (repeat first | exact hM | exact hi_0 | refine MS.st0 ?_ | refine MS.st ?_ (by omega))) (μ 4 (a + 1))) (cwV 1 hts gX10_does_X10_confirms rfl rfl rfl (by decide +kernel) ⟨Nat.le_of_ble_eq_true rfl, Nat.le_of_ble_eq_true rfl⟩) (sp_preVm hK hP (κ := 0) (by decide) mE_0 rfl) rfl rfl hl.1 rfl (lv_room (Nat.le_of_ble_eq_true rfl)) dX10_does_199 ⟨Nat.le_of_ble_eq_true rfl, Nat.le_of_ble_eq_true rfl⟩) hS (fun q h1 h2 => sp_Alt h1 h2) (sp_Ale hS.1) (fun H locs hP hle hfr hS => ?_)
    refine W.eq (g2 := F0 m 202 ls [.int (atO (m_find (μ 1) n (μ 4 (a + 1))) 1 (fun k => if gP (μ 1) k 7 = 0 then 3 else 0))]) rfl ?_
    have hE9 : mW am cy (m_conf μ n (μ 4 (a + 1))) = mW am cy (m_do μ n t a) := by exact mW_eq (by simp [m_do, b2i, c_1])
    have hP : va_P D vwCl (mW am cy (m_do μ n t a)) H := by rw [← hE9]; exact hP
    exact W.iret (v := atO (m_find (μ 1) n (μ 4 (a + 1))) 1 (fun k => if gP (μ 1) k 7 = 0 then 3 else 0)) hx hb hr (fun T9 hT9 _ => ⟨congrArg (fun z9 => Outcome.returned (some (Value.int z9))) (show (atO (m_find (μ 1) n (μ 4 (a + 1))) 1 (fun k => if gP (μ 1) k 7 = 0 then 3 else 0) : Int32) = m_doV μ n t a from (by simp [m_doV, b2i, c_1])), by rw [hT9]; exact hP, hS.F hT9⟩) hS.2.2 dX10_does_202
  · skip
    by_cases c_2 : (μ 4 a) = 68
    · refine lv_tableIn (off := 157) (tgt := 191) hx hb dX10_does_34 (by rw [c_2]; decide +kernel) (by rw [c_2]; decide +kernel) (by rw [c_2]; decide +kernel) (by decide) ?_
      refine lv_aload_n hx hb dX10_does_191 rfl (lv_at hl 3 rfl) ?_
      refine lv_iload_n hx hb dX10_does_192 rfl (lv_at hl 2 rfl) ?_
      refine sp_callm (va_runV (As := [.int (μ 4 (a + 1))]) (rest := []) ⟨hx, hb, hml, hown, hts⟩ (c_X10_doubts l D am cy μ _ hi n t (by first | exact hM | exact hi_0 | (repeat first | exact hM | exact hi_0 | refine MS.st0 ?_ | refine MS.st ?_ (by omega))) (μ 4 (a + 1))) (cwV 1 hts gX10_does_X10_doubts rfl rfl rfl (by decide +kernel) ⟨Nat.le_of_ble_eq_true rfl, Nat.le_of_ble_eq_true rfl⟩) (sp_preVm hK hP (κ := 0) (by decide) mE_0 rfl) rfl rfl hl.1 rfl (lv_room (Nat.le_of_ble_eq_true rfl)) dX10_does_193 ⟨Nat.le_of_ble_eq_true rfl, Nat.le_of_ble_eq_true rfl⟩) hS (fun q h1 h2 => sp_Alt h1 h2) (sp_Ale hS.1) (fun H locs hP hle hfr hS => ?_)
      refine W.eq (g2 := F0 m 196 ls [.int (atO (m_find (μ 1) n (μ 4 (a + 1))) 1 (fun k => if gP (μ 1) k 7 = 3 then 3 else 0))]) rfl ?_
      have hE9 : mW am cy (m_doub μ n (μ 4 (a + 1))) = mW am cy (m_do μ n t a) := by exact mW_eq (by simp [m_do, b2i, c_2])
      have hP : va_P D vwCl (mW am cy (m_do μ n t a)) H := by rw [← hE9]; exact hP
      exact W.iret (v := atO (m_find (μ 1) n (μ 4 (a + 1))) 1 (fun k => if gP (μ 1) k 7 = 3 then 3 else 0)) hx hb hr (fun T9 hT9 _ => ⟨congrArg (fun z9 => Outcome.returned (some (Value.int z9))) (show (atO (m_find (μ 1) n (μ 4 (a + 1))) 1 (fun k => if gP (μ 1) k 7 = 3 then 3 else 0) : Int32) = m_doV μ n t a from (by simp [m_doV, b2i, c_2])), by rw [hT9]; exact hP, hS.F hT9⟩) hS.2.2 dX10_does_196
    · skip
      by_cases c_3 : (μ 4 a) = 69
      · refine lv_tableIn (off := 175) (tgt := 209) hx hb dX10_does_34 (by rw [c_3]; decide +kernel) (by rw [c_3]; decide +kernel) (by rw [c_3]; decide +kernel) (by decide) ?_
        refine lv_aload_n hx hb dX10_does_209 rfl (lv_at hl 3 rfl) ?_
        refine lv_iload_n hx hb dX10_does_210 rfl (lv_at hl 2 rfl) ?_
        refine sp_callm (va_runV (As := [.int (μ 4 (a + 1))]) (rest := []) ⟨hx, hb, hml, hown, hts⟩ (c_X10_setsTide l D am cy μ _ hi n t (by first | exact hM | exact hi_0 | (repeat first | exact hM | exact hi_0 | refine MS.st0 ?_ | refine MS.st ?_ (by omega))) (μ 4 (a + 1))) (cwV 1 hts gX10_does_X10_setsTide rfl rfl rfl (by decide +kernel) ⟨Nat.le_of_ble_eq_true rfl, Nat.le_of_ble_eq_true rfl⟩) (sp_preVm hK hP (κ := 0) (by decide) mE_0 rfl) rfl rfl hl.1 rfl (lv_room (Nat.le_of_ble_eq_true rfl)) dX10_does_211 ⟨Nat.le_of_ble_eq_true rfl, Nat.le_of_ble_eq_true rfl⟩) hS (fun q h1 h2 => sp_Alt h1 h2) (sp_Ale hS.1) (fun H locs hP hle hfr hS => ?_)
        refine W.eq (g2 := F0 m 214 ls [.int (m_tidev (μ 1) (μ 4 (a + 1)))]) rfl ?_
        have hE9 : mW am cy (m_tide μ n (μ 4 (a + 1))) = mW am cy (m_do μ n t a) := by exact mW_eq (by simp [m_do, b2i, c_3])
        have hP : va_P D vwCl (mW am cy (m_do μ n t a)) H := by rw [← hE9]; exact hP
        exact W.iret (v := m_tidev (μ 1) (μ 4 (a + 1))) hx hb hr (fun T9 hT9 _ => ⟨congrArg (fun z9 => Outcome.returned (some (Value.int z9))) (show (m_tidev (μ 1) (μ 4 (a + 1)) : Int32) = m_doV μ n t a from (by simp [m_doV, b2i, c_3])), by rw [hT9]; exact hP, hS.F hT9⟩) hS.2.2 dX10_does_214
      · skip
        by_cases c_4 : (μ 4 a) = 70
        · refine lv_tableIn (off := 151) (tgt := 185) hx hb dX10_does_34 (by rw [c_4]; decide +kernel) (by rw [c_4]; decide +kernel) (by rw [c_4]; decide +kernel) (by decide) ?_
          refine lv_aload_n hx hb dX10_does_185 rfl (lv_at hl 3 rfl) ?_
          refine lv_iload_n hx hb dX10_does_186 rfl (lv_at hl 2 rfl) ?_
          refine sp_callm (va_runV (As := [.int (μ 4 (a + 1))]) (rest := []) ⟨hx, hb, hml, hown, hts⟩ (c_X10_swapsFoot l D am cy μ _ hi n t (by first | exact hM | exact hi_0 | (repeat first | exact hM | exact hi_0 | refine MS.st0 ?_ | refine MS.st ?_ (by omega))) (μ 4 (a + 1))) (cwV 1 hts gX10_does_X10_swapsFoot rfl rfl rfl (by decide +kernel) ⟨Nat.le_of_ble_eq_true rfl, Nat.le_of_ble_eq_true rfl⟩) (sp_preVm hK hP (κ := 0) (by decide) mE_0 rfl) rfl rfl hl.1 rfl (lv_room (Nat.le_of_ble_eq_true rfl)) dX10_does_187 ⟨Nat.le_of_ble_eq_true rfl, Nat.le_of_ble_eq_true rfl⟩) hS (fun q h1 h2 => sp_Alt h1 h2) (sp_Ale hS.1) (fun H locs hP hle hfr hS => ?_)
          refine W.eq (g2 := F0 m 190 ls [.int (m_by (m_find (μ 1) n (μ 4 (a + 1))))]) rfl ?_
          have hE9 : mW am cy (m_swap μ n (μ 4 (a + 1))) = mW am cy (m_do μ n t a) := by exact mW_eq (by simp [m_do, b2i, c_4])
          have hP : va_P D vwCl (mW am cy (m_do μ n t a)) H := by rw [← hE9]; exact hP
          exact W.iret (v := m_by (m_find (μ 1) n (μ 4 (a + 1)))) hx hb hr (fun T9 hT9 _ => ⟨congrArg (fun z9 => Outcome.returned (some (Value.int z9))) (show (m_by (m_find (μ 1) n (μ 4 (a + 1))) : Int32) = m_doV μ n t a from (by simp [m_doV, b2i, c_4])), by rw [hT9]; exact hP, hS.F hT9⟩) hS.2.2 dX10_does_190
        · skip
          by_cases c_5 : (μ 4 a) = 71
          · refine lv_tableIn (off := 175) (tgt := 209) hx hb dX10_does_34 (by rw [c_5]; decide +kernel) (by rw [c_5]; decide +kernel) (by rw [c_5]; decide +kernel) (by decide) ?_
            refine lv_aload_n hx hb dX10_does_209 rfl (lv_at hl 3 rfl) ?_
            refine lv_iload_n hx hb dX10_does_210 rfl (lv_at hl 2 rfl) ?_
            refine sp_callm (va_runV (As := [.int (μ 4 (a + 1))]) (rest := []) ⟨hx, hb, hml, hown, hts⟩ (c_X10_setsTide l D am cy μ _ hi n t (by first | exact hM | exact hi_0 | (repeat first | exact hM | exact hi_0 | refine MS.st0 ?_ | refine MS.st ?_ (by omega))) (μ 4 (a + 1))) (cwV 1 hts gX10_does_X10_setsTide rfl rfl rfl (by decide +kernel) ⟨Nat.le_of_ble_eq_true rfl, Nat.le_of_ble_eq_true rfl⟩) (sp_preVm hK hP (κ := 0) (by decide) mE_0 rfl) rfl rfl hl.1 rfl (lv_room (Nat.le_of_ble_eq_true rfl)) dX10_does_211 ⟨Nat.le_of_ble_eq_true rfl, Nat.le_of_ble_eq_true rfl⟩) hS (fun q h1 h2 => sp_Alt h1 h2) (sp_Ale hS.1) (fun H locs hP hle hfr hS => ?_)
            refine W.eq (g2 := F0 m 214 ls [.int (m_tidev (μ 1) (μ 4 (a + 1)))]) rfl ?_
            have hE9 : mW am cy (m_tide μ n (μ 4 (a + 1))) = mW am cy (m_do μ n t a) := by exact mW_eq (by simp [m_do, b2i, c_5])
            have hP : va_P D vwCl (mW am cy (m_do μ n t a)) H := by rw [← hE9]; exact hP
            exact W.iret (v := m_tidev (μ 1) (μ 4 (a + 1))) hx hb hr (fun T9 hT9 _ => ⟨congrArg (fun z9 => Outcome.returned (some (Value.int z9))) (show (m_tidev (μ 1) (μ 4 (a + 1)) : Int32) = m_doV μ n t a from (by simp [m_doV, b2i, c_5])), by rw [hT9]; exact hP, hS.F hT9⟩) hS.2.2 dX10_does_214
          · skip
            by_cases c_6 : (μ 4 a) = 72
            · refine lv_tableIn (off := 142) (tgt := 176) hx hb dX10_does_34 (by rw [c_6]; decide +kernel) (by rw [c_6]; decide +kernel) (by rw [c_6]; decide +kernel) (by decide) ?_
              refine lv_aload_n hx hb dX10_does_176 rfl (lv_at hl 3 rfl) ?_
              refine lv_iload_n hx hb dX10_does_177 rfl (lv_at hl 2 rfl) ?_
              refine lv_iload_n hx hb dX10_does_178 rfl (lv_at hl 1 rfl) ?_
              refine lv_iload hx hb dX10_does_179 (lv_at hl 0 rfl) ?_
              refine sp_callm (va_runV (As := [.int (μ 4 (a + 1)), .int (μ 4 (a + 2)), .int (μ 4 (a + 3))]) (rest := []) ⟨hx, hb, hml, hown, hts⟩ (c_X10_correctsHeel l D am cy μ _ hi n t (by first | exact hM | exact hi_0 | (repeat first | exact hM | exact hi_0 | refine MS.st0 ?_ | refine MS.st ?_ (by omega))) (μ 4 (a + 1)) (μ 4 (a + 2)) (μ 4 (a + 3))) (cwV 3 hts gX10_does_X10_correctsHeel rfl rfl rfl (by decide +kernel) ⟨Nat.le_of_ble_eq_true rfl, Nat.le_of_ble_eq_true rfl⟩) (sp_preVm hK hP (κ := 0) (by decide) mE_0 rfl) rfl rfl hl.1 rfl (lv_room (Nat.le_of_ble_eq_true rfl)) dX10_does_181 ⟨Nat.le_of_ble_eq_true rfl, Nat.le_of_ble_eq_true rfl⟩) hS (fun q h1 h2 => sp_Alt h1 h2) (sp_Ale hS.1) (fun H locs hP hle hfr hS => ?_)
              refine W.eq (g2 := F0 m 184 ls [.int (m_corv (μ 1) n (μ 4 (a + 1)) (μ 4 (a + 2)) (μ 4 (a + 3)))]) rfl ?_
              have hE9 : mW am cy (m_cor μ n (μ 4 (a + 1)) (μ 4 (a + 2)) (μ 4 (a + 3))) = mW am cy (m_do μ n t a) := by exact mW_eq (by simp [m_do, b2i, c_6])
              have hP : va_P D vwCl (mW am cy (m_do μ n t a)) H := by rw [← hE9]; exact hP
              exact W.iret (v := m_corv (μ 1) n (μ 4 (a + 1)) (μ 4 (a + 2)) (μ 4 (a + 3))) hx hb hr (fun T9 hT9 _ => ⟨congrArg (fun z9 => Outcome.returned (some (Value.int z9))) (show (m_corv (μ 1) n (μ 4 (a + 1)) (μ 4 (a + 2)) (μ 4 (a + 3)) : Int32) = m_doV μ n t a from (by simp [m_doV, b2i, c_6])), by rw [hT9]; exact hP, hS.F hT9⟩) hS.2.2 dX10_does_184
            · skip
              by_cases c_7 : (μ 4 a) = 73
              · refine lv_tableIn (off := 175) (tgt := 209) hx hb dX10_does_34 (by rw [c_7]; decide +kernel) (by rw [c_7]; decide +kernel) (by rw [c_7]; decide +kernel) (by decide) ?_
                refine lv_aload_n hx hb dX10_does_209 rfl (lv_at hl 3 rfl) ?_
                refine lv_iload_n hx hb dX10_does_210 rfl (lv_at hl 2 rfl) ?_
                refine sp_callm (va_runV (As := [.int (μ 4 (a + 1))]) (rest := []) ⟨hx, hb, hml, hown, hts⟩ (c_X10_setsTide l D am cy μ _ hi n t (by first | exact hM | exact hi_0 | (repeat first | exact hM | exact hi_0 | refine MS.st0 ?_ | refine MS.st ?_ (by omega))) (μ 4 (a + 1))) (cwV 1 hts gX10_does_X10_setsTide rfl rfl rfl (by decide +kernel) ⟨Nat.le_of_ble_eq_true rfl, Nat.le_of_ble_eq_true rfl⟩) (sp_preVm hK hP (κ := 0) (by decide) mE_0 rfl) rfl rfl hl.1 rfl (lv_room (Nat.le_of_ble_eq_true rfl)) dX10_does_211 ⟨Nat.le_of_ble_eq_true rfl, Nat.le_of_ble_eq_true rfl⟩) hS (fun q h1 h2 => sp_Alt h1 h2) (sp_Ale hS.1) (fun H locs hP hle hfr hS => ?_)
                refine W.eq (g2 := F0 m 214 ls [.int (m_tidev (μ 1) (μ 4 (a + 1)))]) rfl ?_
                have hE9 : mW am cy (m_tide μ n (μ 4 (a + 1))) = mW am cy (m_do μ n t a) := by exact mW_eq (by simp [m_do, b2i, c_7])
                have hP : va_P D vwCl (mW am cy (m_do μ n t a)) H := by rw [← hE9]; exact hP
                exact W.iret (v := m_tidev (μ 1) (μ 4 (a + 1))) hx hb hr (fun T9 hT9 _ => ⟨congrArg (fun z9 => Outcome.returned (some (Value.int z9))) (show (m_tidev (μ 1) (μ 4 (a + 1)) : Int32) = m_doV μ n t a from (by simp [m_doV, b2i, c_7])), by rw [hT9]; exact hP, hS.F hT9⟩) hS.2.2 dX10_does_214
              · skip
                by_cases c_8 : (μ 4 a) = 74
                · refine lv_tableIn (off := 175) (tgt := 209) hx hb dX10_does_34 (by rw [c_8]; decide +kernel) (by rw [c_8]; decide +kernel) (by rw [c_8]; decide +kernel) (by decide) ?_
                  refine lv_aload_n hx hb dX10_does_209 rfl (lv_at hl 3 rfl) ?_
                  refine lv_iload_n hx hb dX10_does_210 rfl (lv_at hl 2 rfl) ?_
                  refine sp_callm (va_runV (As := [.int (μ 4 (a + 1))]) (rest := []) ⟨hx, hb, hml, hown, hts⟩ (c_X10_setsTide l D am cy μ _ hi n t (by first | exact hM | exact hi_0 | (repeat first | exact hM | exact hi_0 | refine MS.st0 ?_ | refine MS.st ?_ (by omega))) (μ 4 (a + 1))) (cwV 1 hts gX10_does_X10_setsTide rfl rfl rfl (by decide +kernel) ⟨Nat.le_of_ble_eq_true rfl, Nat.le_of_ble_eq_true rfl⟩) (sp_preVm hK hP (κ := 0) (by decide) mE_0 rfl) rfl rfl hl.1 rfl (lv_room (Nat.le_of_ble_eq_true rfl)) dX10_does_211 ⟨Nat.le_of_ble_eq_true rfl, Nat.le_of_ble_eq_true rfl⟩) hS (fun q h1 h2 => sp_Alt h1 h2) (sp_Ale hS.1) (fun H locs hP hle hfr hS => ?_)
                  refine W.eq (g2 := F0 m 214 ls [.int (m_tidev (μ 1) (μ 4 (a + 1)))]) rfl ?_
                  have hE9 : mW am cy (m_tide μ n (μ 4 (a + 1))) = mW am cy (m_do μ n t a) := by exact mW_eq (by simp [m_do, b2i, c_8])
                  have hP : va_P D vwCl (mW am cy (m_do μ n t a)) H := by rw [← hE9]; exact hP
                  exact W.iret (v := m_tidev (μ 1) (μ 4 (a + 1))) hx hb hr (fun T9 hT9 _ => ⟨congrArg (fun z9 => Outcome.returned (some (Value.int z9))) (show (m_tidev (μ 1) (μ 4 (a + 1)) : Int32) = m_doV μ n t a from (by simp [m_doV, b2i, c_8])), by rw [hT9]; exact hP, hS.F hT9⟩) hS.2.2 dX10_does_214
                · skip
                  by_cases c_9 : (μ 4 a) = 75
                  · refine lv_tableIn (off := 175) (tgt := 209) hx hb dX10_does_34 (by rw [c_9]; decide +kernel) (by rw [c_9]; decide +kernel) (by rw [c_9]; decide +kernel) (by decide) ?_
                    refine lv_aload_n hx hb dX10_does_209 rfl (lv_at hl 3 rfl) ?_
                    refine lv_iload_n hx hb dX10_does_210 rfl (lv_at hl 2 rfl) ?_
                    refine sp_callm (va_runV (As := [.int (μ 4 (a + 1))]) (rest := []) ⟨hx, hb, hml, hown, hts⟩ (c_X10_setsTide l D am cy μ _ hi n t (by first | exact hM | exact hi_0 | (repeat first | exact hM | exact hi_0 | refine MS.st0 ?_ | refine MS.st ?_ (by omega))) (μ 4 (a + 1))) (cwV 1 hts gX10_does_X10_setsTide rfl rfl rfl (by decide +kernel) ⟨Nat.le_of_ble_eq_true rfl, Nat.le_of_ble_eq_true rfl⟩) (sp_preVm hK hP (κ := 0) (by decide) mE_0 rfl) rfl rfl hl.1 rfl (lv_room (Nat.le_of_ble_eq_true rfl)) dX10_does_211 ⟨Nat.le_of_ble_eq_true rfl, Nat.le_of_ble_eq_true rfl⟩) hS (fun q h1 h2 => sp_Alt h1 h2) (sp_Ale hS.1) (fun H locs hP hle hfr hS => ?_)
                    refine W.eq (g2 := F0 m 214 ls [.int (m_tidev (μ 1) (μ 4 (a + 1)))]) rfl ?_
                    have hE9 : mW am cy (m_tide μ n (μ 4 (a + 1))) = mW am cy (m_do μ n t a) := by exact mW_eq (by simp [m_do, b2i, c_9])
                    have hP : va_P D vwCl (mW am cy (m_do μ n t a)) H := by rw [← hE9]; exact hP
                    exact W.iret (v := m_tidev (μ 1) (μ 4 (a + 1))) hx hb hr (fun T9 hT9 _ => ⟨congrArg (fun z9 => Outcome.returned (some (Value.int z9))) (show (m_tidev (μ 1) (μ 4 (a + 1)) : Int32) = m_doV μ n t a from (by simp [m_doV, b2i, c_9])), by rw [hT9]; exact hP, hS.F hT9⟩) hS.2.2 dX10_does_214
                  · skip
                    by_cases c_10 : (μ 4 a) = 76
                    · refine lv_tableIn (off := 175) (tgt := 209) hx hb dX10_does_34 (by rw [c_10]; decide +kernel) (by rw [c_10]; decide +kernel) (by rw [c_10]; decide +kernel) (by decide) ?_
                      refine lv_aload_n hx hb dX10_does_209 rfl (lv_at hl 3 rfl) ?_
                      refine lv_iload_n hx hb dX10_does_210 rfl (lv_at hl 2 rfl) ?_
                      refine sp_callm (va_runV (As := [.int (μ 4 (a + 1))]) (rest := []) ⟨hx, hb, hml, hown, hts⟩ (c_X10_setsTide l D am cy μ _ hi n t (by first | exact hM | exact hi_0 | (repeat first | exact hM | exact hi_0 | refine MS.st0 ?_ | refine MS.st ?_ (by omega))) (μ 4 (a + 1))) (cwV 1 hts gX10_does_X10_setsTide rfl rfl rfl (by decide +kernel) ⟨Nat.le_of_ble_eq_true rfl, Nat.le_of_ble_eq_true rfl⟩) (sp_preVm hK hP (κ := 0) (by decide) mE_0 rfl) rfl rfl hl.1 rfl (lv_room (Nat.le_of_ble_eq_true rfl)) dX10_does_211 ⟨Nat.le_of_ble_eq_true rfl, Nat.le_of_ble_eq_true rfl⟩) hS (fun q h1 h2 => sp_Alt h1 h2) (sp_Ale hS.1) (fun H locs hP hle hfr hS => ?_)
                      refine W.eq (g2 := F0 m 214 ls [.int (m_tidev (μ 1) (μ 4 (a + 1)))]) rfl ?_
                      have hE9 : mW am cy (m_tide μ n (μ 4 (a + 1))) = mW am cy (m_do μ n t a) := by exact mW_eq (by simp [m_do, b2i, c_10])
                      have hP : va_P D vwCl (mW am cy (m_do μ n t a)) H := by rw [← hE9]; exact hP
                      exact W.iret (v := m_tidev (μ 1) (μ 4 (a + 1))) hx hb hr (fun T9 hT9 _ => ⟨congrArg (fun z9 => Outcome.returned (some (Value.int z9))) (show (m_tidev (μ 1) (μ 4 (a + 1)) : Int32) = m_doV μ n t a from (by simp [m_doV, b2i, c_10])), by rw [hT9]; exact hP, hS.F hT9⟩) hS.2.2 dX10_does_214
                    · skip
                      by_cases c_11 : (μ 4 a) = 77
                      · refine lv_tableIn (off := 175) (tgt := 209) hx hb dX10_does_34 (by rw [c_11]; decide +kernel) (by rw [c_11]; decide +kernel) (by rw [c_11]; decide +kernel) (by decide) ?_
                        refine lv_aload_n hx hb dX10_does_209 rfl (lv_at hl 3 rfl) ?_
                        refine lv_iload_n hx hb dX10_does_210 rfl (lv_at hl 2 rfl) ?_
                        refine sp_callm (va_runV (As := [.int (μ 4 (a + 1))]) (rest := []) ⟨hx, hb, hml, hown, hts⟩ (c_X10_setsTide l D am cy μ _ hi n t (by first | exact hM | exact hi_0 | (repeat first | exact hM | exact hi_0 | refine MS.st0 ?_ | refine MS.st ?_ (by omega))) (μ 4 (a + 1))) (cwV 1 hts gX10_does_X10_setsTide rfl rfl rfl (by decide +kernel) ⟨Nat.le_of_ble_eq_true rfl, Nat.le_of_ble_eq_true rfl⟩) (sp_preVm hK hP (κ := 0) (by decide) mE_0 rfl) rfl rfl hl.1 rfl (lv_room (Nat.le_of_ble_eq_true rfl)) dX10_does_211 ⟨Nat.le_of_ble_eq_true rfl, Nat.le_of_ble_eq_true rfl⟩) hS (fun q h1 h2 => sp_Alt h1 h2) (sp_Ale hS.1) (fun H locs hP hle hfr hS => ?_)
                        refine W.eq (g2 := F0 m 214 ls [.int (m_tidev (μ 1) (μ 4 (a + 1)))]) rfl ?_
                        have hE9 : mW am cy (m_tide μ n (μ 4 (a + 1))) = mW am cy (m_do μ n t a) := by exact mW_eq (by simp [m_do, b2i, c_11])
                        have hP : va_P D vwCl (mW am cy (m_do μ n t a)) H := by rw [← hE9]; exact hP
                        exact W.iret (v := m_tidev (μ 1) (μ 4 (a + 1))) hx hb hr (fun T9 hT9 _ => ⟨congrArg (fun z9 => Outcome.returned (some (Value.int z9))) (show (m_tidev (μ 1) (μ 4 (a + 1)) : Int32) = m_doV μ n t a from (by simp [m_doV, b2i, c_11])), by rw [hT9]; exact hP, hS.F hT9⟩) hS.2.2 dX10_does_214
                      · skip
                        by_cases c_12 : (μ 4 a) = 78
                        · refine lv_tableIn (off := 175) (tgt := 209) hx hb dX10_does_34 (by rw [c_12]; decide +kernel) (by rw [c_12]; decide +kernel) (by rw [c_12]; decide +kernel) (by decide) ?_
                          refine lv_aload_n hx hb dX10_does_209 rfl (lv_at hl 3 rfl) ?_
                          refine lv_iload_n hx hb dX10_does_210 rfl (lv_at hl 2 rfl) ?_
                          refine sp_callm (va_runV (As := [.int (μ 4 (a + 1))]) (rest := []) ⟨hx, hb, hml, hown, hts⟩ (c_X10_setsTide l D am cy μ _ hi n t (by first | exact hM | exact hi_0 | (repeat first | exact hM | exact hi_0 | refine MS.st0 ?_ | refine MS.st ?_ (by omega))) (μ 4 (a + 1))) (cwV 1 hts gX10_does_X10_setsTide rfl rfl rfl (by decide +kernel) ⟨Nat.le_of_ble_eq_true rfl, Nat.le_of_ble_eq_true rfl⟩) (sp_preVm hK hP (κ := 0) (by decide) mE_0 rfl) rfl rfl hl.1 rfl (lv_room (Nat.le_of_ble_eq_true rfl)) dX10_does_211 ⟨Nat.le_of_ble_eq_true rfl, Nat.le_of_ble_eq_true rfl⟩) hS (fun q h1 h2 => sp_Alt h1 h2) (sp_Ale hS.1) (fun H locs hP hle hfr hS => ?_)
                          refine W.eq (g2 := F0 m 214 ls [.int (m_tidev (μ 1) (μ 4 (a + 1)))]) rfl ?_
                          have hE9 : mW am cy (m_tide μ n (μ 4 (a + 1))) = mW am cy (m_do μ n t a) := by exact mW_eq (by simp [m_do, b2i, c_12])
                          have hP : va_P D vwCl (mW am cy (m_do μ n t a)) H := by rw [← hE9]; exact hP
                          exact W.iret (v := m_tidev (μ 1) (μ 4 (a + 1))) hx hb hr (fun T9 hT9 _ => ⟨congrArg (fun z9 => Outcome.returned (some (Value.int z9))) (show (m_tidev (μ 1) (μ 4 (a + 1)) : Int32) = m_doV μ n t a from (by simp [m_doV, b2i, c_12])), by rw [hT9]; exact hP, hS.F hT9⟩) hS.2.2 dX10_does_214
                        · skip
                          by_cases c_13 : (μ 4 a) = 79
                          · refine lv_tableIn (off := 175) (tgt := 209) hx hb dX10_does_34 (by rw [c_13]; decide +kernel) (by rw [c_13]; decide +kernel) (by rw [c_13]; decide +kernel) (by decide) ?_
                            refine lv_aload_n hx hb dX10_does_209 rfl (lv_at hl 3 rfl) ?_
                            refine lv_iload_n hx hb dX10_does_210 rfl (lv_at hl 2 rfl) ?_
                            refine sp_callm (va_runV (As := [.int (μ 4 (a + 1))]) (rest := []) ⟨hx, hb, hml, hown, hts⟩ (c_X10_setsTide l D am cy μ _ hi n t (by first | exact hM | exact hi_0 | (repeat first | exact hM | exact hi_0 | refine MS.st0 ?_ | refine MS.st ?_ (by omega))) (μ 4 (a + 1))) (cwV 1 hts gX10_does_X10_setsTide rfl rfl rfl (by decide +kernel) ⟨Nat.le_of_ble_eq_true rfl, Nat.le_of_ble_eq_true rfl⟩) (sp_preVm hK hP (κ := 0) (by decide) mE_0 rfl) rfl rfl hl.1 rfl (lv_room (Nat.le_of_ble_eq_true rfl)) dX10_does_211 ⟨Nat.le_of_ble_eq_true rfl, Nat.le_of_ble_eq_true rfl⟩) hS (fun q h1 h2 => sp_Alt h1 h2) (sp_Ale hS.1) (fun H locs hP hle hfr hS => ?_)
                            refine W.eq (g2 := F0 m 214 ls [.int (m_tidev (μ 1) (μ 4 (a + 1)))]) rfl ?_
                            have hE9 : mW am cy (m_tide μ n (μ 4 (a + 1))) = mW am cy (m_do μ n t a) := by exact mW_eq (by simp [m_do, b2i, c_13])
                            have hP : va_P D vwCl (mW am cy (m_do μ n t a)) H := by rw [← hE9]; exact hP
                            exact W.iret (v := m_tidev (μ 1) (μ 4 (a + 1))) hx hb hr (fun T9 hT9 _ => ⟨congrArg (fun z9 => Outcome.returned (some (Value.int z9))) (show (m_tidev (μ 1) (μ 4 (a + 1)) : Int32) = m_doV μ n t a from (by simp [m_doV, b2i, c_13])), by rw [hT9]; exact hP, hS.F hT9⟩) hS.2.2 dX10_does_214
                          · skip
                            by_cases c_14 : (μ 4 a) = 80
                            · refine lv_tableIn (off := 108) (tgt := 142) hx hb dX10_does_34 (by rw [c_14]; decide +kernel) (by rw [c_14]; decide +kernel) (by rw [c_14]; decide +kernel) (by decide) ?_
                              refine lv_aload_n hx hb dX10_does_142 rfl (lv_at hl 3 rfl) ?_
                              refine lv_iload_n hx hb dX10_does_143 rfl (lv_at hl 2 rfl) ?_
                              refine lv_iload_n hx hb dX10_does_144 rfl (lv_at hl 1 rfl) ?_
                              refine lv_iload hx hb dX10_does_145 (lv_at hl 0 rfl) ?_
                              refine lv_aload_n hx hb dX10_does_147 rfl (lv_at hl 3 rfl) ?_
                              refine sp_get hx hb hts wi_X10_does_X10 hown hK hP (κ := 0) (by decide) mE_0 rfl 16 (by decide) (hts _ (List.mem_of_getElem? (i := 1) rfl)) (fun _ h => h) rfl dX10_does_148 ?_
                              refine lv_iload_n hx hb dX10_does_151 rfl (lv_at hl 4 rfl) ?_
                              refine lv_iconst (v := 4) hx hb dX10_does_152 (by decide) ?_
                              refine lv_iadd hx hb dX10_does_153 ?_
                              refine sp_iald hx hb hK hP (κ := 4) (by decide) 1 mE_4 rfl (a + 4) (nI_addE rfl rfl) (by omega) (by decide) dX10_does_154 ?_
                              refine lv_aload_n hx hb dX10_does_155 rfl (lv_at hl 3 rfl) ?_
                              refine sp_get hx hb hts wi_X10_does_X10 hown hK hP (κ := 0) (by decide) mE_0 rfl 16 (by decide) (hts _ (List.mem_of_getElem? (i := 1) rfl)) (fun _ h => h) rfl dX10_does_156 ?_
                              refine lv_iload_n hx hb dX10_does_159 rfl (lv_at hl 4 rfl) ?_
                              refine lv_iconst (v := 5) hx hb dX10_does_160 (by decide) ?_
                              refine lv_iadd hx hb dX10_does_161 ?_
                              refine sp_iald hx hb hK hP (κ := 4) (by decide) 1 mE_4 rfl (a + 5) (nI_addE rfl rfl) (by omega) (by decide) dX10_does_162 ?_
                              refine lv_aload_n hx hb dX10_does_163 rfl (lv_at hl 3 rfl) ?_
                              refine sp_get hx hb hts wi_X10_does_X10 hown hK hP (κ := 0) (by decide) mE_0 rfl 16 (by decide) (hts _ (List.mem_of_getElem? (i := 1) rfl)) (fun _ h => h) rfl dX10_does_164 ?_
                              refine lv_iload_n hx hb dX10_does_167 rfl (lv_at hl 4 rfl) ?_
                              refine lv_bipush (v := 6) hx hb dX10_does_168 (by decide) ?_
                              refine lv_iadd hx hb dX10_does_170 ?_
                              refine sp_iald hx hb hK hP (κ := 4) (by decide) 1 mE_4 rfl (a + 6) (nI_addE rfl rfl) (by omega) (by decide) dX10_does_171 ?_
                              refine sp_callm (va_runV (As := [.int (μ 4 (a + 1)), .int (μ 4 (a + 2)), .int (μ 4 (a + 3)), .int (μ 4 (a + 4)), .int (μ 4 (a + 5)), .int (μ 4 (a + 6))]) (rest := []) ⟨hx, hb, hml, hown, hts⟩ (c_X10_addsPrint l D am cy μ _ hi n t (by first | exact hM | exact hi_0 | (repeat first | exact hM | exact hi_0 | refine MS.st0 ?_ | refine MS.st ?_ (by omega))) (μ 4 (a + 1)) (μ 4 (a + 2)) (μ 4 (a + 3)) (μ 4 (a + 4)) (μ 4 (a + 5)) (μ 4 (a + 6))) (cwV 6 hts gX10_does_X10_addsPrint rfl rfl rfl (by decide +kernel) ⟨Nat.le_of_ble_eq_true rfl, Nat.le_of_ble_eq_true rfl⟩) (sp_preVm hK hP (κ := 0) (by decide) mE_0 rfl) rfl rfl hl.1 rfl (lv_room (Nat.le_of_ble_eq_true rfl)) dX10_does_172 ⟨Nat.le_of_ble_eq_true rfl, Nat.le_of_ble_eq_true rfl⟩) hS (fun q h1 h2 => sp_Alt h1 h2) (sp_Ale hS.1) (fun H locs hP hle hfr hS => ?_)
                              refine W.eq (g2 := F0 m 175 ls [.int (m_addPv (μ 1) n t (μ 4 (a + 1)) (μ 4 (a + 2)) (μ 4 (a + 3)) (μ 4 (a + 4)) (μ 4 (a + 6)))]) rfl ?_
                              have hE9 : mW am cy (m_addP μ n t (μ 4 (a + 1)) (μ 4 (a + 2)) (μ 4 (a + 3)) (μ 4 (a + 4)) (μ 4 (a + 5)) (μ 4 (a + 6))) = mW am cy (m_do μ n t a) := by exact mW_eq (by simp [m_do, b2i, c_14])
                              have hP : va_P D vwCl (mW am cy (m_do μ n t a)) H := by rw [← hE9]; exact hP
                              exact W.iret (v := m_addPv (μ 1) n t (μ 4 (a + 1)) (μ 4 (a + 2)) (μ 4 (a + 3)) (μ 4 (a + 4)) (μ 4 (a + 6))) hx hb hr (fun T9 hT9 _ => ⟨congrArg (fun z9 => Outcome.returned (some (Value.int z9))) (show (m_addPv (μ 1) n t (μ 4 (a + 1)) (μ 4 (a + 2)) (μ 4 (a + 3)) (μ 4 (a + 4)) (μ 4 (a + 6)) : Int32) = m_doV μ n t a from (by simp [m_doV, b2i, c_14])), by rw [hT9]; exact hP, hS.F hT9⟩) hS.2.2 dX10_does_175
                            · skip
                              by_cases c_15 : (μ 4 a) = 81
                              · refine lv_tableIn (off := 175) (tgt := 209) hx hb dX10_does_34 (by rw [c_15]; decide +kernel) (by rw [c_15]; decide +kernel) (by rw [c_15]; decide +kernel) (by decide) ?_
                                refine lv_aload_n hx hb dX10_does_209 rfl (lv_at hl 3 rfl) ?_
                                refine lv_iload_n hx hb dX10_does_210 rfl (lv_at hl 2 rfl) ?_
                                refine sp_callm (va_runV (As := [.int (μ 4 (a + 1))]) (rest := []) ⟨hx, hb, hml, hown, hts⟩ (c_X10_setsTide l D am cy μ _ hi n t (by first | exact hM | exact hi_0 | (repeat first | exact hM | exact hi_0 | refine MS.st0 ?_ | refine MS.st ?_ (by omega))) (μ 4 (a + 1))) (cwV 1 hts gX10_does_X10_setsTide rfl rfl rfl (by decide +kernel) ⟨Nat.le_of_ble_eq_true rfl, Nat.le_of_ble_eq_true rfl⟩) (sp_preVm hK hP (κ := 0) (by decide) mE_0 rfl) rfl rfl hl.1 rfl (lv_room (Nat.le_of_ble_eq_true rfl)) dX10_does_211 ⟨Nat.le_of_ble_eq_true rfl, Nat.le_of_ble_eq_true rfl⟩) hS (fun q h1 h2 => sp_Alt h1 h2) (sp_Ale hS.1) (fun H locs hP hle hfr hS => ?_)
                                refine W.eq (g2 := F0 m 214 ls [.int (m_tidev (μ 1) (μ 4 (a + 1)))]) rfl ?_
                                have hE9 : mW am cy (m_tide μ n (μ 4 (a + 1))) = mW am cy (m_do μ n t a) := by exact mW_eq (by simp [m_do, b2i, c_15])
                                have hP : va_P D vwCl (mW am cy (m_do μ n t a)) H := by rw [← hE9]; exact hP
                                exact W.iret (v := m_tidev (μ 1) (μ 4 (a + 1))) hx hb hr (fun T9 hT9 _ => ⟨congrArg (fun z9 => Outcome.returned (some (Value.int z9))) (show (m_tidev (μ 1) (μ 4 (a + 1)) : Int32) = m_doV μ n t a from (by simp [m_doV, b2i, c_15])), by rw [hT9]; exact hP, hS.F hT9⟩) hS.2.2 dX10_does_214
                              · skip
                                by_cases c_16 : (μ 4 a) = 82
                                · refine lv_tableIn (off := 175) (tgt := 209) hx hb dX10_does_34 (by rw [c_16]; decide +kernel) (by rw [c_16]; decide +kernel) (by rw [c_16]; decide +kernel) (by decide) ?_
                                  refine lv_aload_n hx hb dX10_does_209 rfl (lv_at hl 3 rfl) ?_
                                  refine lv_iload_n hx hb dX10_does_210 rfl (lv_at hl 2 rfl) ?_
                                  refine sp_callm (va_runV (As := [.int (μ 4 (a + 1))]) (rest := []) ⟨hx, hb, hml, hown, hts⟩ (c_X10_setsTide l D am cy μ _ hi n t (by first | exact hM | exact hi_0 | (repeat first | exact hM | exact hi_0 | refine MS.st0 ?_ | refine MS.st ?_ (by omega))) (μ 4 (a + 1))) (cwV 1 hts gX10_does_X10_setsTide rfl rfl rfl (by decide +kernel) ⟨Nat.le_of_ble_eq_true rfl, Nat.le_of_ble_eq_true rfl⟩) (sp_preVm hK hP (κ := 0) (by decide) mE_0 rfl) rfl rfl hl.1 rfl (lv_room (Nat.le_of_ble_eq_true rfl)) dX10_does_211 ⟨Nat.le_of_ble_eq_true rfl, Nat.le_of_ble_eq_true rfl⟩) hS (fun q h1 h2 => sp_Alt h1 h2) (sp_Ale hS.1) (fun H locs hP hle hfr hS => ?_)
                                  refine W.eq (g2 := F0 m 214 ls [.int (m_tidev (μ 1) (μ 4 (a + 1)))]) rfl ?_
                                  have hE9 : mW am cy (m_tide μ n (μ 4 (a + 1))) = mW am cy (m_do μ n t a) := by exact mW_eq (by simp [m_do, b2i, c_16])
                                  have hP : va_P D vwCl (mW am cy (m_do μ n t a)) H := by rw [← hE9]; exact hP
                                  exact W.iret (v := m_tidev (μ 1) (μ 4 (a + 1))) hx hb hr (fun T9 hT9 _ => ⟨congrArg (fun z9 => Outcome.returned (some (Value.int z9))) (show (m_tidev (μ 1) (μ 4 (a + 1)) : Int32) = m_doV μ n t a from (by simp [m_doV, b2i, c_16])), by rw [hT9]; exact hP, hS.F hT9⟩) hS.2.2 dX10_does_214
                                · skip
                                  by_cases c_17 : (μ 4 a) = 83
                                  · refine lv_tableIn (off := 175) (tgt := 209) hx hb dX10_does_34 (by rw [c_17]; decide +kernel) (by rw [c_17]; decide +kernel) (by rw [c_17]; decide +kernel) (by decide) ?_
                                    refine lv_aload_n hx hb dX10_does_209 rfl (lv_at hl 3 rfl) ?_
                                    refine lv_iload_n hx hb dX10_does_210 rfl (lv_at hl 2 rfl) ?_
                                    refine sp_callm (va_runV (As := [.int (μ 4 (a + 1))]) (rest := []) ⟨hx, hb, hml, hown, hts⟩ (c_X10_setsTide l D am cy μ _ hi n t (by first | exact hM | exact hi_0 | (repeat first | exact hM | exact hi_0 | refine MS.st0 ?_ | refine MS.st ?_ (by omega))) (μ 4 (a + 1))) (cwV 1 hts gX10_does_X10_setsTide rfl rfl rfl (by decide +kernel) ⟨Nat.le_of_ble_eq_true rfl, Nat.le_of_ble_eq_true rfl⟩) (sp_preVm hK hP (κ := 0) (by decide) mE_0 rfl) rfl rfl hl.1 rfl (lv_room (Nat.le_of_ble_eq_true rfl)) dX10_does_211 ⟨Nat.le_of_ble_eq_true rfl, Nat.le_of_ble_eq_true rfl⟩) hS (fun q h1 h2 => sp_Alt h1 h2) (sp_Ale hS.1) (fun H locs hP hle hfr hS => ?_)
                                    refine W.eq (g2 := F0 m 214 ls [.int (m_tidev (μ 1) (μ 4 (a + 1)))]) rfl ?_
                                    have hE9 : mW am cy (m_tide μ n (μ 4 (a + 1))) = mW am cy (m_do μ n t a) := by exact mW_eq (by simp [m_do, b2i, c_17])
                                    have hP : va_P D vwCl (mW am cy (m_do μ n t a)) H := by rw [← hE9]; exact hP
                                    exact W.iret (v := m_tidev (μ 1) (μ 4 (a + 1))) hx hb hr (fun T9 hT9 _ => ⟨congrArg (fun z9 => Outcome.returned (some (Value.int z9))) (show (m_tidev (μ 1) (μ 4 (a + 1)) : Int32) = m_doV μ n t a from (by simp [m_doV, b2i, c_17])), by rw [hT9]; exact hP, hS.F hT9⟩) hS.2.2 dX10_does_214
                                  · skip
                                    by_cases c_18 : (μ 4 a) = 84
                                    · refine lv_tableIn (off := 102) (tgt := 136) hx hb dX10_does_34 (by rw [c_18]; decide +kernel) (by rw [c_18]; decide +kernel) (by rw [c_18]; decide +kernel) (by decide) ?_
                                      refine lv_aload_n hx hb dX10_does_136 rfl (lv_at hl 3 rfl) ?_
                                      refine lv_iload_n hx hb dX10_does_137 rfl (lv_at hl 2 rfl) ?_
                                      refine sp_callm (va_runV (As := [.int (μ 4 (a + 1))]) (rest := []) ⟨hx, hb, hml, hown, hts⟩ (c_X10_addsTrack l D am cy μ _ hi n t (by first | exact hM | exact hi_0 | (repeat first | exact hM | exact hi_0 | refine MS.st0 ?_ | refine MS.st ?_ (by omega))) (μ 4 (a + 1))) (cwV 1 hts gX10_does_X10_addsTrack rfl rfl rfl (by decide +kernel) ⟨Nat.le_of_ble_eq_true rfl, Nat.le_of_ble_eq_true rfl⟩) (sp_preVm hK hP (κ := 0) (by decide) mE_0 rfl) rfl rfl hl.1 rfl (lv_room (Nat.le_of_ble_eq_true rfl)) dX10_does_138 ⟨Nat.le_of_ble_eq_true rfl, Nat.le_of_ble_eq_true rfl⟩) hS (fun q h1 h2 => sp_Alt h1 h2) (sp_Ale hS.1) (fun H locs hP hle hfr hS => ?_)
                                      refine W.eq (g2 := F0 m 141 ls [.int (m_addTv t (μ 4 (a + 1)))]) rfl ?_
                                      have hE9 : mW am cy (m_addT μ t (μ 4 (a + 1))) = mW am cy (m_do μ n t a) := by exact mW_eq (by simp [m_do, b2i, c_18])
                                      have hP : va_P D vwCl (mW am cy (m_do μ n t a)) H := by rw [← hE9]; exact hP
                                      exact W.iret (v := m_addTv t (μ 4 (a + 1))) hx hb hr (fun T9 hT9 _ => ⟨congrArg (fun z9 => Outcome.returned (some (Value.int z9))) (show (m_addTv t (μ 4 (a + 1)) : Int32) = m_doV μ n t a from (by simp [m_doV, b2i, c_18])), by rw [hT9]; exact hP, hS.F hT9⟩) hS.2.2 dX10_does_141
                                    · skip
                                      by_cases c_19 : (μ 4 a) = 85
                                      · refine lv_tableIn (off := 175) (tgt := 209) hx hb dX10_does_34 (by rw [c_19]; decide +kernel) (by rw [c_19]; decide +kernel) (by rw [c_19]; decide +kernel) (by decide) ?_
                                        refine lv_aload_n hx hb dX10_does_209 rfl (lv_at hl 3 rfl) ?_
                                        refine lv_iload_n hx hb dX10_does_210 rfl (lv_at hl 2 rfl) ?_
                                        refine sp_callm (va_runV (As := [.int (μ 4 (a + 1))]) (rest := []) ⟨hx, hb, hml, hown, hts⟩ (c_X10_setsTide l D am cy μ _ hi n t (by first | exact hM | exact hi_0 | (repeat first | exact hM | exact hi_0 | refine MS.st0 ?_ | refine MS.st ?_ (by omega))) (μ 4 (a + 1))) (cwV 1 hts gX10_does_X10_setsTide rfl rfl rfl (by decide +kernel) ⟨Nat.le_of_ble_eq_true rfl, Nat.le_of_ble_eq_true rfl⟩) (sp_preVm hK hP (κ := 0) (by decide) mE_0 rfl) rfl rfl hl.1 rfl (lv_room (Nat.le_of_ble_eq_true rfl)) dX10_does_211 ⟨Nat.le_of_ble_eq_true rfl, Nat.le_of_ble_eq_true rfl⟩) hS (fun q h1 h2 => sp_Alt h1 h2) (sp_Ale hS.1) (fun H locs hP hle hfr hS => ?_)
                                        refine W.eq (g2 := F0 m 214 ls [.int (m_tidev (μ 1) (μ 4 (a + 1)))]) rfl ?_
                                        have hE9 : mW am cy (m_tide μ n (μ 4 (a + 1))) = mW am cy (m_do μ n t a) := by exact mW_eq (by simp [m_do, b2i, c_19])
                                        have hP : va_P D vwCl (mW am cy (m_do μ n t a)) H := by rw [← hE9]; exact hP
                                        exact W.iret (v := m_tidev (μ 1) (μ 4 (a + 1))) hx hb hr (fun T9 hT9 _ => ⟨congrArg (fun z9 => Outcome.returned (some (Value.int z9))) (show (m_tidev (μ 1) (μ 4 (a + 1)) : Int32) = m_doV μ n t a from (by simp [m_doV, b2i, c_19])), by rw [hT9]; exact hP, hS.F hT9⟩) hS.2.2 dX10_does_214
                                      · skip
                                        by_cases c_20 : (μ 4 a) = 86
                                        · refine lv_tableIn (off := 175) (tgt := 209) hx hb dX10_does_34 (by rw [c_20]; decide +kernel) (by rw [c_20]; decide +kernel) (by rw [c_20]; decide +kernel) (by decide) ?_
                                          refine lv_aload_n hx hb dX10_does_209 rfl (lv_at hl 3 rfl) ?_
                                          refine lv_iload_n hx hb dX10_does_210 rfl (lv_at hl 2 rfl) ?_
                                          refine sp_callm (va_runV (As := [.int (μ 4 (a + 1))]) (rest := []) ⟨hx, hb, hml, hown, hts⟩ (c_X10_setsTide l D am cy μ _ hi n t (by first | exact hM | exact hi_0 | (repeat first | exact hM | exact hi_0 | refine MS.st0 ?_ | refine MS.st ?_ (by omega))) (μ 4 (a + 1))) (cwV 1 hts gX10_does_X10_setsTide rfl rfl rfl (by decide +kernel) ⟨Nat.le_of_ble_eq_true rfl, Nat.le_of_ble_eq_true rfl⟩) (sp_preVm hK hP (κ := 0) (by decide) mE_0 rfl) rfl rfl hl.1 rfl (lv_room (Nat.le_of_ble_eq_true rfl)) dX10_does_211 ⟨Nat.le_of_ble_eq_true rfl, Nat.le_of_ble_eq_true rfl⟩) hS (fun q h1 h2 => sp_Alt h1 h2) (sp_Ale hS.1) (fun H locs hP hle hfr hS => ?_)
                                          refine W.eq (g2 := F0 m 214 ls [.int (m_tidev (μ 1) (μ 4 (a + 1)))]) rfl ?_
                                          have hE9 : mW am cy (m_tide μ n (μ 4 (a + 1))) = mW am cy (m_do μ n t a) := by exact mW_eq (by simp [m_do, b2i, c_20])
                                          have hP : va_P D vwCl (mW am cy (m_do μ n t a)) H := by rw [← hE9]; exact hP
                                          exact W.iret (v := m_tidev (μ 1) (μ 4 (a + 1))) hx hb hr (fun T9 hT9 _ => ⟨congrArg (fun z9 => Outcome.returned (some (Value.int z9))) (show (m_tidev (μ 1) (μ 4 (a + 1)) : Int32) = m_doV μ n t a from (by simp [m_doV, b2i, c_20])), by rw [hT9]; exact hP, hS.F hT9⟩) hS.2.2 dX10_does_214
                                        · skip
                                          by_cases c_21 : (μ 4 a) = 87
                                          · refine lv_tableIn (off := 175) (tgt := 209) hx hb dX10_does_34 (by rw [c_21]; decide +kernel) (by rw [c_21]; decide +kernel) (by rw [c_21]; decide +kernel) (by decide) ?_
                                            refine lv_aload_n hx hb dX10_does_209 rfl (lv_at hl 3 rfl) ?_
                                            refine lv_iload_n hx hb dX10_does_210 rfl (lv_at hl 2 rfl) ?_
                                            refine sp_callm (va_runV (As := [.int (μ 4 (a + 1))]) (rest := []) ⟨hx, hb, hml, hown, hts⟩ (c_X10_setsTide l D am cy μ _ hi n t (by first | exact hM | exact hi_0 | (repeat first | exact hM | exact hi_0 | refine MS.st0 ?_ | refine MS.st ?_ (by omega))) (μ 4 (a + 1))) (cwV 1 hts gX10_does_X10_setsTide rfl rfl rfl (by decide +kernel) ⟨Nat.le_of_ble_eq_true rfl, Nat.le_of_ble_eq_true rfl⟩) (sp_preVm hK hP (κ := 0) (by decide) mE_0 rfl) rfl rfl hl.1 rfl (lv_room (Nat.le_of_ble_eq_true rfl)) dX10_does_211 ⟨Nat.le_of_ble_eq_true rfl, Nat.le_of_ble_eq_true rfl⟩) hS (fun q h1 h2 => sp_Alt h1 h2) (sp_Ale hS.1) (fun H locs hP hle hfr hS => ?_)
                                            refine W.eq (g2 := F0 m 214 ls [.int (m_tidev (μ 1) (μ 4 (a + 1)))]) rfl ?_
                                            have hE9 : mW am cy (m_tide μ n (μ 4 (a + 1))) = mW am cy (m_do μ n t a) := by exact mW_eq (by simp [m_do, b2i, c_21])
                                            have hP : va_P D vwCl (mW am cy (m_do μ n t a)) H := by rw [← hE9]; exact hP
                                            exact W.iret (v := m_tidev (μ 1) (μ 4 (a + 1))) hx hb hr (fun T9 hT9 _ => ⟨congrArg (fun z9 => Outcome.returned (some (Value.int z9))) (show (m_tidev (μ 1) (μ 4 (a + 1)) : Int32) = m_doV μ n t a from (by simp [m_doV, b2i, c_21])), by rw [hT9]; exact hP, hS.F hT9⟩) hS.2.2 dX10_does_214
                                          · skip
                                            by_cases c_22 : (μ 4 a) = 88
                                            · refine lv_tableIn (off := 169) (tgt := 203) hx hb dX10_does_34 (by rw [c_22]; decide +kernel) (by rw [c_22]; decide +kernel) (by rw [c_22]; decide +kernel) (by decide) ?_
                                              refine lv_aload_n hx hb dX10_does_203 rfl (lv_at hl 3 rfl) ?_
                                              refine lv_iload_n hx hb dX10_does_204 rfl (lv_at hl 2 rfl) ?_
                                              refine sp_callm (va_runV (As := [.int (μ 4 (a + 1))]) (rest := []) ⟨hx, hb, hml, hown, hts⟩ (c_X10_removesPrint l D am cy μ _ hi n t (by first | exact hM | exact hi_0 | (repeat first | exact hM | exact hi_0 | refine MS.st0 ?_ | refine MS.st ?_ (by omega))) (μ 4 (a + 1))) (cwV 1 hts gX10_does_X10_removesPrint rfl rfl rfl (by decide +kernel) ⟨Nat.le_of_ble_eq_true rfl, Nat.le_of_ble_eq_true rfl⟩) (sp_preVm hK hP (κ := 0) (by decide) mE_0 rfl) rfl rfl hl.1 rfl (lv_room (Nat.le_of_ble_eq_true rfl)) dX10_does_205 ⟨Nat.le_of_ble_eq_true rfl, Nat.le_of_ble_eq_true rfl⟩) hS (fun q h1 h2 => sp_Alt h1 h2) (sp_Ale hS.1) (fun H locs hP hle hfr hS => ?_)
                                              refine W.eq (g2 := F0 m 208 ls [.int (m_by (m_find (μ 1) n (μ 4 (a + 1))))]) rfl ?_
                                              have hE9 : mW am cy (m_rmPr μ n (μ 4 (a + 1))) = mW am cy (m_do μ n t a) := by exact mW_eq (by simp [m_do, b2i, c_22])
                                              have hP : va_P D vwCl (mW am cy (m_do μ n t a)) H := by rw [← hE9]; exact hP
                                              exact W.iret (v := m_by (m_find (μ 1) n (μ 4 (a + 1)))) hx hb hr (fun T9 hT9 _ => ⟨congrArg (fun z9 => Outcome.returned (some (Value.int z9))) (show (m_by (m_find (μ 1) n (μ 4 (a + 1))) : Int32) = m_doV μ n t a from (by simp [m_doV, b2i, c_22])), by rw [hT9]; exact hP, hS.F hT9⟩) hS.2.2 dX10_does_208
                                            · skip
                                              have c_1T := lv_neT (a := 67) c_1 (by decide +kernel)
                                              have c_2T := lv_neT (a := 68) c_2 (by decide +kernel)
                                              have c_3T := lv_neT (a := 69) c_3 (by decide +kernel)
                                              have c_4T := lv_neT (a := 70) c_4 (by decide +kernel)
                                              have c_5T := lv_neT (a := 71) c_5 (by decide +kernel)
                                              have c_6T := lv_neT (a := 72) c_6 (by decide +kernel)
                                              have c_7T := lv_neT (a := 73) c_7 (by decide +kernel)
                                              have c_8T := lv_neT (a := 74) c_8 (by decide +kernel)
                                              have c_9T := lv_neT (a := 75) c_9 (by decide +kernel)
                                              have c_10T := lv_neT (a := 76) c_10 (by decide +kernel)
                                              have c_11T := lv_neT (a := 77) c_11 (by decide +kernel)
                                              have c_12T := lv_neT (a := 78) c_12 (by decide +kernel)
                                              have c_13T := lv_neT (a := 79) c_13 (by decide +kernel)
                                              have c_14T := lv_neT (a := 80) c_14 (by decide +kernel)
                                              have c_15T := lv_neT (a := 81) c_15 (by decide +kernel)
                                              have c_16T := lv_neT (a := 82) c_16 (by decide +kernel)
                                              have c_17T := lv_neT (a := 83) c_17 (by decide +kernel)
                                              have c_18T := lv_neT (a := 84) c_18 (by decide +kernel)
                                              have c_19T := lv_neT (a := 85) c_19 (by decide +kernel)
                                              have c_20T := lv_neT (a := 86) c_20 (by decide +kernel)
                                              have c_21T := lv_neT (a := 87) c_21 (by decide +kernel)
                                              have c_22T := lv_neT (a := 88) c_22 (by decide +kernel)
                                              refine lv_tableOut (tgt := 209) hx hb dX10_does_34 (by omega) (by decide) ?_
                                              refine lv_aload_n hx hb dX10_does_209 rfl (lv_at hl 3 rfl) ?_
                                              refine lv_iload_n hx hb dX10_does_210 rfl (lv_at hl 2 rfl) ?_
                                              refine sp_callm (va_runV (As := [.int (μ 4 (a + 1))]) (rest := []) ⟨hx, hb, hml, hown, hts⟩ (c_X10_setsTide l D am cy μ _ hi n t (by first | exact hM | exact hi_0 | (repeat first | exact hM | exact hi_0 | refine MS.st0 ?_ | refine MS.st ?_ (by omega))) (μ 4 (a + 1))) (cwV 1 hts gX10_does_X10_setsTide rfl rfl rfl (by decide +kernel) ⟨Nat.le_of_ble_eq_true rfl, Nat.le_of_ble_eq_true rfl⟩) (sp_preVm hK hP (κ := 0) (by decide) mE_0 rfl) rfl rfl hl.1 rfl (lv_room (Nat.le_of_ble_eq_true rfl)) dX10_does_211 ⟨Nat.le_of_ble_eq_true rfl, Nat.le_of_ble_eq_true rfl⟩) hS (fun q h1 h2 => sp_Alt h1 h2) (sp_Ale hS.1) (fun H locs hP hle hfr hS => ?_)
                                              refine W.eq (g2 := F0 m 214 ls [.int (m_tidev (μ 1) (μ 4 (a + 1)))]) rfl ?_
                                              have hE9 : mW am cy (m_tide μ n (μ 4 (a + 1))) = mW am cy (m_do μ n t a) := by exact mW_eq (by simp [m_do, b2i, c_1, c_2, c_3, c_4, c_5, c_6, c_7, c_8, c_9, c_10, c_11, c_12, c_13, c_14, c_15, c_16, c_17, c_18, c_19, c_20, c_21, c_22])
                                              have hP : va_P D vwCl (mW am cy (m_do μ n t a)) H := by rw [← hE9]; exact hP
                                              exact W.iret (v := m_tidev (μ 1) (μ 4 (a + 1))) hx hb hr (fun T9 hT9 _ => ⟨congrArg (fun z9 => Outcome.returned (some (Value.int z9))) (show (m_tidev (μ 1) (μ 4 (a + 1)) : Int32) = m_doV μ n t a from (by simp [m_doV, b2i, c_1, c_2, c_3, c_4, c_5, c_6, c_7, c_8, c_9, c_10, c_11, c_12, c_13, c_14, c_15, c_16, c_17, c_18, c_19, c_20, c_21, c_22])), by rw [hT9]; exact hP, hS.F hT9⟩) hS.2.2 dX10_does_214

theorem wi_X10_execute_X10 : ∀ w ∈ wsX100, w ∈ wsX10_execute := by decide +kernel
set_option maxHeartbeats 4000000 in
set_option maxRecDepth 100000 in
theorem c_X10_execute (l : Launch) (D : va_G) (am : Nat → Nat) (cy : Nat → ClassId) (μ : Nat → Nat → Int32) (sz : Nat) (hi : sp_inj am 5) (n : Nat) (t : Nat) (hM : MS (μ 1) n t) (ch : Nat) (hC : μ 0 2 = nI ch) (hc8 : ch ≤ 8) (hty : MI μ) : Met l yX10_execute wsX10_execute ({ frames := 5, cells := 0, slots := 0, locals := 109 } : Room) (sp_Pm D (tyG cy) sz [.ref (am (0))] (mW am cy μ)) (sp_Q D (some (.int (m_execV μ))) (mW am cy (m_exec μ ch)) (sp_A am 5 sz)) 0 0 (sp_A am 5 sz) := by
  refine Met.ofW (cc := cX10_execute) (maxL := 3) (ret := (some .int)) (by decide) rfl ?_
  intro p e s m args below meth c s₁ B hml hv
  obtain ⟨rfl, hsz, hP, hK⟩ := hv
  have hx := B.exec
  have hb := B.bytes
  have hr := B.returns
  have hts := atoms_spec (ws := wsX10_execute) B.pre
  have hown : s.vm.findClass RX10 = some m.cls := findClass_of_methodNamed B.named
  have hlocks := B.notSynchronized
  subst hsz
  have hS : va_S (sp_A am 5 s.heap.size) s.heap s.heap [] := va_S.rf
  have hAk : ∀ k, k < 5 → (sp_A am 5 s.heap.size) (am k) := fun k hk => Or.inl ⟨k, hk, rfl⟩
  skip
  have hn30 := hM.2.1
  have ht6 := hM.2.2.2
  obtain ⟨hcn17, hcn61⟩ := m_cn_ok hty
  have hl := lv_entry ([.ref (am (0))]) (n := 3) (Nat.le_of_ble_eq_true rfl)
  refine W.eq (lg_entry_eq _ ([.ref (am (0))]) _) ?_
  generalize (lg_sl ([.ref (am (0))]) ++ List.replicate (3 - (lg_sl ([.ref (am (0))])).length) Slot.unset).toArray = ls at hl ⊢
  have hl : lv_has ls 3 [(0, .ref (am (0)))] := hl
  refine lv_aload_n hx hb dX10_execute_0 rfl (lv_at hl 0 rfl) ?_
  refine sp_callm (va_runV (As := []) (rest := []) ⟨hx, hb, hml, hown, hts⟩ (c_X10_parse l D am cy μ _ hi (by exact hty)) (cwV 0 hts gX10_execute_X10_parse rfl rfl rfl (by decide +kernel) ⟨Nat.le_of_ble_eq_true rfl, Nat.le_of_ble_eq_true rfl⟩) (sp_preVm hK hP (κ := 0) (by decide) mE_0 rfl) rfl rfl hl.1 rfl (lv_room (Nat.le_of_ble_eq_true rfl)) dX10_execute_1 ⟨Nat.le_of_ble_eq_true rfl, Nat.le_of_ble_eq_true rfl⟩) hS (fun q h1 h2 => sp_Alt h1 h2) (sp_Ale hS.1) (fun H locs hP hle hfr hS => ?_)
  refine W.eq (g2 := F0 m 4 ls []) rfl ?_
  refine lv_aload_n hx hb dX10_execute_4 rfl (lv_at hl 0 rfl) ?_
  refine lv_iconst (v := 0) hx hb dX10_execute_5 (by decide) ?_
  refine sp_put hx hb hts wi_X10_execute_X10 tyX10 tyX10_ok nmX10 hown hK hP hi hAk hS (κ := 0) (by decide) mE_0 rfl 12 (by decide) (hts _ (List.mem_of_getElem? (i := 1) rfl)) (fun _ h => h) rfl (ty := tyX10 12) (by decide +kernel) ⟨rfl, rfl⟩ (Nat.le_of_ble_eq_true rfl) (r1 := upd ((m_parse μ) 0) 12 0) (cE_of mE_0 (by simp [upd])) dX10_execute_6 (fun H locs hP hS => ?_)
  have hP : va_P D vwCl (mW am cy (sp_st (m_parse μ) 0 12 0)) H := hP
  refine lv_aload_n hx hb dX10_execute_9 rfl (lv_at hl 0 rfl) ?_
  refine sp_get hx hb hts wi_X10_execute_X10 hown hK hP (κ := 0) (by decide) mE_0 rfl 14 (by decide) (hts _ (List.mem_of_getElem? (i := 2) rfl)) (fun _ h => h) rfl dX10_execute_10 ?_
  refine W.eq (g2 := F0 m 13 ls [.int (m_parse μ 0 14)]) (by rw [sp_st_j _ _ _ _ _ _ (by decide)]) ?_
  refine lv_if_lt (tgt := 31) hx hb dX10_execute_13 (by decide) (fun c_1 => ?_) (fun c_1 => ?_)
  · skip
    have c_1d := Int32.not_le.mpr c_1
    refine lv_aload_n hx hb dX10_execute_31 rfl (lv_at hl 0 rfl) ?_
    refine sp_callm (va_runV (As := []) (rest := []) ⟨hx, hb, hml, hown, hts⟩ (c_X10_begins l D am cy (sp_st (m_parse μ) 0 12 0) _ hi ) (cwV 0 hts gX10_execute_X10_begins rfl rfl rfl (by decide +kernel) ⟨Nat.le_of_ble_eq_true rfl, Nat.le_of_ble_eq_true rfl⟩) (sp_preVm hK hP (κ := 0) (by decide) mE_0 rfl) rfl rfl hl.1 rfl (lv_room (Nat.le_of_ble_eq_true rfl)) dX10_execute_32 ⟨Nat.le_of_ble_eq_true rfl, Nat.le_of_ble_eq_true rfl⟩) hS (fun q h1 h2 => sp_Alt h1 h2) (sp_Ale hS.1) (fun H locs hP hle hfr hS => ?_)
    refine W.eq (g2 := F0 m 35 ls []) rfl ?_
    refine lv_iconst (v := 0) hx hb dX10_execute_35 (by decide) ?_
    refine lv_istore_n (lv' := [(1, .int (0)), (0, .ref (am (0)))]) hx hb dX10_execute_36 rfl hl (by decide) rfl (fun ls hl => ?_)
    refine lv_iconst (v := 0) hx hb dX10_execute_37 (by decide) ?_
    refine lv_istore_n (lv' := [(2, .int (0)), (1, .int (0)), (0, .ref (am (0)))]) hx hb dX10_execute_38 rfl hl (by decide) rfl (fun ls hl => ?_)
    have loop_39 : ∀ (fu i : Nat) (y0 : Int32) (H : Heap) (locs : List Loc), (i ≤ m_cn μ) → (m_cn μ - i < fu) → (y0 = (m_Ei μ i).1) → (fstI (m_Ep μ) (i - 1) = none) → (MSx (m_Ei μ i).2) → (va_P D vwCl (mW am cy ((m_Ei μ i).2)) H) → (va_S (sp_A am 5 s.heap.size) s.heap H locs) → ∀ ls : Array Slot, lv_has ls 3 [(2, .int (nI i)), (1, .int (y0)), (0, .ref (am (0)))] → W p l e (headSpec wsX10_execute ({ frames := 5, cells := 0, slots := 0, locals := 109 } : Room)).room s m ([.ref (am (0))] : List Value).toArray below meth c H locs 0 0 (MQ below (sp_Q D (some (.int (m_execV μ))) (mW am cy (m_exec μ ch)) (sp_A am 5 s.heap.size)) ([.ref (am (0))] : List Value).toArray s 0 0 (sp_A am 5 s.heap.size)) (F0 m 39 ls []) := by
      intro fu
      induction fu with
      | zero => intro i y0 H locs hle hlt hi_0 hi_1 hi_2 hP hS ls hl; exact absurd hlt (Nat.not_lt_zero _)
      | succ fu ih =>
        intro i y0 H locs hle hlt hi_0 hi_1 hi_2 hP hS ls hl
        refine lv_iload_n hx hb dX10_execute_39 rfl (lv_at hl 0 rfl) ?_
        refine lv_aload_n hx hb dX10_execute_40 rfl (lv_at hl 2 rfl) ?_
        refine sp_get hx hb hts wi_X10_execute_X10 hown hK hP (κ := 0) (by decide) mE_0 rfl 17 (by decide) (hts _ (List.mem_of_getElem? (i := 5) rfl)) (fun _ h => h) rfl dX10_execute_41 ?_
        refine W.eq (g2 := F0 m 44 ls [.int (nI (m_cn μ)), .int (nI i)]) (by rw [(m_Ei_17 hty)]) ?_
        refine lv_icmp_ge (tgt := 66) hx hb dX10_execute_44 (by decide) (fun c_2 => ?_) (fun c_2 => ?_)
        · skip
          have c_2d := Int32.not_lt.mpr c_2
          have hx9 : i = m_cn μ := by have := (nI_leI (a := m_cn μ) (b := i) (by omega) (by omega)).mp c_2; omega
          have hEd : m_Ed μ = i := m_Ed_eq hi_0 hi_1 (by first | exact Or.inl hx9 | exact Or.inr ⟨hb_i, c_2d⟩)
          refine lv_iload_n hx hb dX10_execute_66 rfl (lv_at hl 1 rfl) ?_
          refine lv_iconst (v := 3) hx hb dX10_execute_67 (by decide) ?_
          refine lv_icmp_ne (tgt := 100) hx hb dX10_execute_68 (by decide) (fun c_3 => ?_) (fun c_3 => ?_)
          · skip
            refine lv_aload_n hx hb dX10_execute_100 rfl (lv_at hl 2 rfl) ?_
            refine lv_aload_n hx hb dX10_execute_101 rfl (lv_at hl 2 rfl) ?_
            refine sp_get hx hb hts wi_X10_execute_X10 hown hK hP (κ := 0) (by decide) mE_0 rfl 17 (by decide) (hts _ (List.mem_of_getElem? (i := 5) rfl)) (fun _ h => h) rfl dX10_execute_102 ?_
            refine W.eq (g2 := F0 m 105 ls [.int (nI (m_cn μ)), .ref (am (0))]) (by rw [(m_Ei_17 hty)]) ?_
            refine sp_put hx hb hts wi_X10_execute_X10 tyX10 tyX10_ok nmX10 hown hK hP hi hAk hS (κ := 0) (by decide) mE_0 rfl 4 (by decide) (hts _ (List.mem_of_getElem? (i := 10) rfl)) (fun _ h => h) rfl (ty := tyX10 4) (by decide +kernel) ⟨rfl, rfl⟩ (Nat.le_of_ble_eq_true rfl) (r1 := upd (((m_Ei μ i).2) 0) 4 (nI (m_cn μ))) (cE_of mE_0 (by simp [upd])) dX10_execute_105 (fun H locs hP hS => ?_)
            have hP : va_P D vwCl (mW am cy (sp_st ((m_Ei μ i).2) 0 4 (nI (m_cn μ)))) H := hP
            refine lv_aload_n hx hb dX10_execute_108 rfl (lv_at hl 2 rfl) ?_
            refine lv_iload_n hx hb dX10_execute_109 rfl (lv_at hl 1 rfl) ?_
            refine lv_iconst (v := 2) hx hb dX10_execute_110 (by decide) ?_
            refine lv_iconst (v := 2) hx hb dX10_execute_111 (by decide) ?_
            refine lv_iconst (v := 3) hx hb dX10_execute_112 (by decide) ?_
            refine sp_callm (va_runV (As := [.int (y0), .int (2), .int (2), .int (3)]) (rest := []) ⟨hx, hb, hml, hown, hts⟩ (c_X10_ends l D am cy (sp_st ((m_Ei μ i).2) 0 4 (nI (m_cn μ))) _ hi y0 2 2 3 ch (by repeat first | exact m_Ei_2 hC | (rw [sp_st_j _ _ _ _ _ _ (by decide)])) (by omega)) (cwV 4 hts gX10_execute_X10_ends rfl rfl rfl (by decide +kernel) ⟨Nat.le_of_ble_eq_true rfl, Nat.le_of_ble_eq_true rfl⟩) (sp_preVm hK hP (κ := 0) (by decide) mE_0 rfl) rfl rfl hl.1 rfl (lv_room (Nat.le_of_ble_eq_true rfl)) dX10_execute_113 ⟨Nat.le_of_ble_eq_true rfl, Nat.le_of_ble_eq_true rfl⟩) hS (fun q h1 h2 => sp_Alt h1 h2) (sp_Ale hS.1) (fun H locs hP hle hfr hS => ?_)
            refine W.eq (g2 := F0 m 116 ls [.int (m_endr (sp_st ((m_Ei μ i).2) 0 4 (nI (m_cn μ))) y0 2 2 3)]) rfl ?_
            have hE9 : mW am cy (m_ends (sp_st ((m_Ei μ i).2) 0 4 (nI (m_cn μ))) ch y0 2 2 3) = mW am cy (m_exec μ ch) := by exact mW_eq (by simp [m_exec, b2i, c_1, c_1d, c_2, c_2d, c_3, hEd, ← hi_0, m_fin])
            have hP : va_P D vwCl (mW am cy (m_exec μ ch)) H := by rw [← hE9]; exact hP
            exact W.iret (v := m_endr (sp_st ((m_Ei μ i).2) 0 4 (nI (m_cn μ))) y0 2 2 3) hx hb hr (fun T9 hT9 _ => ⟨congrArg (fun z9 => Outcome.returned (some (Value.int z9))) (show (m_endr (sp_st ((m_Ei μ i).2) 0 4 (nI (m_cn μ))) y0 2 2 3 : Int32) = m_execV μ from (by simp [m_execV, b2i, c_1, c_1d, c_2, c_2d, c_3, hEd, ← hi_0, m_fin])), by rw [hT9]; exact hP, hS.F hT9⟩) hS.2.2 dX10_execute_116
          · skip
            refine lv_aload_n hx hb dX10_execute_71 rfl (lv_at hl 2 rfl) ?_
            refine lv_aload_n hx hb dX10_execute_72 rfl (lv_at hl 2 rfl) ?_
            refine sp_get hx hb hts wi_X10_execute_X10 hown hK hP (κ := 0) (by decide) mE_0 rfl 5 (by decide) (hts _ (List.mem_of_getElem? (i := 6) rfl)) (fun _ h => h) rfl dX10_execute_73 ?_
            refine sp_put hx hb hts wi_X10_execute_X10 tyX10 tyX10_ok nmX10 hown hK hP hi hAk hS (κ := 0) (by decide) mE_0 rfl 7 (by decide) (hts _ (List.mem_of_getElem? (i := 7) rfl)) (fun _ h => h) rfl (ty := tyX10 7) (by decide +kernel) ⟨rfl, rfl⟩ (Nat.le_of_ble_eq_true rfl) (r1 := upd (((m_Ei μ i).2) 0) 7 ((m_Ei μ i).2 0 5)) (cE_of mE_0 (by simp [upd])) dX10_execute_76 (fun H locs hP hS => ?_)
            have hP : va_P D vwCl (mW am cy (sp_st ((m_Ei μ i).2) 0 7 ((m_Ei μ i).2 0 5))) H := hP
            refine lv_aload_n hx hb dX10_execute_79 rfl (lv_at hl 2 rfl) ?_
            refine lv_aload_n hx hb dX10_execute_80 rfl (lv_at hl 2 rfl) ?_
            refine sp_get hx hb hts wi_X10_execute_X10 hown hK hP (κ := 0) (by decide) mE_0 rfl 6 (by decide) (hts _ (List.mem_of_getElem? (i := 8) rfl)) (fun _ h => h) rfl dX10_execute_81 ?_
            refine W.eq (g2 := F0 m 84 ls [.int ((m_Ei μ i).2 0 6), .ref (am (0))]) (by rw [sp_st_j _ _ _ _ _ _ (by decide)]) ?_
            refine sp_put hx hb hts wi_X10_execute_X10 tyX10 tyX10_ok nmX10 hown hK hP hi hAk hS (κ := 0) (by decide) mE_0 rfl 8 (by decide) (hts _ (List.mem_of_getElem? (i := 9) rfl)) (fun _ h => h) rfl (ty := tyX10 8) (by decide +kernel) ⟨rfl, rfl⟩ (Nat.le_of_ble_eq_true rfl) (r1 := upd ((sp_st ((m_Ei μ i).2) 0 7 ((m_Ei μ i).2 0 5)) 0) 8 ((m_Ei μ i).2 0 6)) (cE_of mE_0 (by simp [upd])) dX10_execute_84 (fun H locs hP hS => ?_)
            have hP : va_P D vwCl (mW am cy (sp_st (sp_st ((m_Ei μ i).2) 0 7 ((m_Ei μ i).2 0 5)) 0 8 ((m_Ei μ i).2 0 6))) H := hP
            refine lv_aload_n hx hb dX10_execute_87 rfl (lv_at hl 2 rfl) ?_
            refine lv_bipush (v := 10) hx hb dX10_execute_88 (by decide) ?_
            refine sp_put hx hb hts wi_X10_execute_X10 tyX10 tyX10_ok nmX10 hown hK hP hi hAk hS (κ := 0) (by decide) mE_0 rfl 5 (by decide) (hts _ (List.mem_of_getElem? (i := 6) rfl)) (fun _ h => h) rfl (ty := tyX10 5) (by decide +kernel) ⟨rfl, rfl⟩ (Nat.le_of_ble_eq_true rfl) (r1 := upd ((sp_st (sp_st ((m_Ei μ i).2) 0 7 ((m_Ei μ i).2 0 5)) 0 8 ((m_Ei μ i).2 0 6)) 0) 5 10) (cE_of mE_0 (by simp [upd])) dX10_execute_90 (fun H locs hP hS => ?_)
            have hP : va_P D vwCl (mW am cy (sp_st (sp_st (sp_st ((m_Ei μ i).2) 0 7 ((m_Ei μ i).2 0 5)) 0 8 ((m_Ei μ i).2 0 6)) 0 5 10)) H := hP
            refine lv_aload_n hx hb dX10_execute_93 rfl (lv_at hl 2 rfl) ?_
            refine lv_iload_n hx hb dX10_execute_94 rfl (lv_at hl 0 rfl) ?_
            refine lv_iconst (v := 1) hx hb dX10_execute_95 (by decide) ?_
            refine lv_isub hx hb dX10_execute_96 ?_
            refine sp_put hx hb hts wi_X10_execute_X10 tyX10 tyX10_ok nmX10 hown hK hP hi hAk hS (κ := 0) (by decide) mE_0 rfl 6 (by decide) (hts _ (List.mem_of_getElem? (i := 8) rfl)) (fun _ h => h) rfl (ty := tyX10 6) (by decide +kernel) ⟨rfl, rfl⟩ (Nat.le_of_ble_eq_true rfl) (r1 := upd ((sp_st (sp_st (sp_st ((m_Ei μ i).2) 0 7 ((m_Ei μ i).2 0 5)) 0 8 ((m_Ei μ i).2 0 6)) 0 5 10) 0) 6 ((nI i) - 1)) (cE_of mE_0 (by simp [upd])) dX10_execute_97 (fun H locs hP hS => ?_)
            have hP : va_P D vwCl (mW am cy (sp_st (sp_st (sp_st (sp_st ((m_Ei μ i).2) 0 7 ((m_Ei μ i).2 0 5)) 0 8 ((m_Ei μ i).2 0 6)) 0 5 10) 0 6 ((nI i) - 1))) H := hP
            refine lv_aload_n hx hb dX10_execute_100 rfl (lv_at hl 2 rfl) ?_
            refine lv_aload_n hx hb dX10_execute_101 rfl (lv_at hl 2 rfl) ?_
            refine sp_get hx hb hts wi_X10_execute_X10 hown hK hP (κ := 0) (by decide) mE_0 rfl 17 (by decide) (hts _ (List.mem_of_getElem? (i := 5) rfl)) (fun _ h => h) rfl dX10_execute_102 ?_
            refine W.eq (g2 := F0 m 105 ls [.int ((m_Ei μ i).2 0 17), .ref (am (0))]) (by rw [sp_st_j _ _ _ _ _ _ (by decide), sp_st_j _ _ _ _ _ _ (by decide), sp_st_j _ _ _ _ _ _ (by decide), sp_st_j _ _ _ _ _ _ (by decide)]) ?_
            refine W.eq (g2 := F0 m 105 ls [.int (nI (m_cn μ)), .ref (am (0))]) (by rw [(m_Ei_17 hty)]) ?_
            refine sp_put hx hb hts wi_X10_execute_X10 tyX10 tyX10_ok nmX10 hown hK hP hi hAk hS (κ := 0) (by decide) mE_0 rfl 4 (by decide) (hts _ (List.mem_of_getElem? (i := 10) rfl)) (fun _ h => h) rfl (ty := tyX10 4) (by decide +kernel) ⟨rfl, rfl⟩ (Nat.le_of_ble_eq_true rfl) (r1 := upd ((sp_st (sp_st (sp_st (sp_st ((m_Ei μ i).2) 0 7 ((m_Ei μ i).2 0 5)) 0 8 ((m_Ei μ i).2 0 6)) 0 5 10) 0 6 ((nI i) - 1)) 0) 4 (nI (m_cn μ))) (cE_of mE_0 (by simp [upd])) dX10_execute_105 (fun H locs hP hS => ?_)
            have hP : va_P D vwCl (mW am cy (sp_st (sp_st (sp_st (sp_st (sp_st ((m_Ei μ i).2) 0 7 ((m_Ei μ i).2 0 5)) 0 8 ((m_Ei μ i).2 0 6)) 0 5 10) 0 6 ((nI i) - 1)) 0 4 (nI (m_cn μ)))) H := hP
            refine lv_aload_n hx hb dX10_execute_108 rfl (lv_at hl 2 rfl) ?_
            refine lv_iload_n hx hb dX10_execute_109 rfl (lv_at hl 1 rfl) ?_
            refine lv_iconst (v := 2) hx hb dX10_execute_110 (by decide) ?_
            refine lv_iconst (v := 2) hx hb dX10_execute_111 (by decide) ?_
            refine lv_iconst (v := 3) hx hb dX10_execute_112 (by decide) ?_
            refine sp_callm (va_runV (As := [.int (y0), .int (2), .int (2), .int (3)]) (rest := []) ⟨hx, hb, hml, hown, hts⟩ (c_X10_ends l D am cy (sp_st (sp_st (sp_st (sp_st (sp_st ((m_Ei μ i).2) 0 7 ((m_Ei μ i).2 0 5)) 0 8 ((m_Ei μ i).2 0 6)) 0 5 10) 0 6 ((nI i) - 1)) 0 4 (nI (m_cn μ))) _ hi y0 2 2 3 ch (by repeat first | exact m_Ei_2 hC | (rw [sp_st_j _ _ _ _ _ _ (by decide)])) (by omega)) (cwV 4 hts gX10_execute_X10_ends rfl rfl rfl (by decide +kernel) ⟨Nat.le_of_ble_eq_true rfl, Nat.le_of_ble_eq_true rfl⟩) (sp_preVm hK hP (κ := 0) (by decide) mE_0 rfl) rfl rfl hl.1 rfl (lv_room (Nat.le_of_ble_eq_true rfl)) dX10_execute_113 ⟨Nat.le_of_ble_eq_true rfl, Nat.le_of_ble_eq_true rfl⟩) hS (fun q h1 h2 => sp_Alt h1 h2) (sp_Ale hS.1) (fun H locs hP hle hfr hS => ?_)
            refine W.eq (g2 := F0 m 116 ls [.int (m_endr (sp_st (sp_st (sp_st (sp_st (sp_st ((m_Ei μ i).2) 0 7 ((m_Ei μ i).2 0 5)) 0 8 ((m_Ei μ i).2 0 6)) 0 5 10) 0 6 ((nI i) - 1)) 0 4 (nI (m_cn μ))) y0 2 2 3)]) rfl ?_
            have hE9 : mW am cy (m_ends (sp_st (sp_st (sp_st (sp_st (sp_st ((m_Ei μ i).2) 0 7 ((m_Ei μ i).2 0 5)) 0 8 ((m_Ei μ i).2 0 6)) 0 5 10) 0 6 ((nI i) - 1)) 0 4 (nI (m_cn μ))) ch y0 2 2 3) = mW am cy (m_exec μ ch) := by exact mW_eq (by simp [m_exec, b2i, c_1, c_1d, c_2, c_2d, c_3, hEd, ← hi_0, m_fin])
            have hP : va_P D vwCl (mW am cy (m_exec μ ch)) H := by rw [← hE9]; exact hP
            exact W.iret (v := m_endr (sp_st (sp_st (sp_st (sp_st (sp_st ((m_Ei μ i).2) 0 7 ((m_Ei μ i).2 0 5)) 0 8 ((m_Ei μ i).2 0 6)) 0 5 10) 0 6 ((nI i) - 1)) 0 4 (nI (m_cn μ))) y0 2 2 3) hx hb hr (fun T9 hT9 _ => ⟨congrArg (fun z9 => Outcome.returned (some (Value.int z9))) (show (m_endr (sp_st (sp_st (sp_st (sp_st (sp_st ((m_Ei μ i).2) 0 7 ((m_Ei μ i).2 0 5)) 0 8 ((m_Ei μ i).2 0 6)) 0 5 10) 0 6 ((nI i) - 1)) 0 4 (nI (m_cn μ))) y0 2 2 3 : Int32) = m_execV μ from (by simp [m_execV, b2i, c_1, c_1d, c_2, c_2d, c_3, hEd, ← hi_0, m_fin])), by rw [hT9]; exact hP, hS.F hT9⟩) hS.2.2 dX10_execute_116
        · skip
          have c_2d := Int32.not_le.mp c_2
          have hb_i : i < m_cn μ := Nat.lt_of_not_le (fun z => c_2 (nI_le z (by omega)))
          refine lv_iload_n hx hb dX10_execute_47 rfl (lv_at hl 1 rfl) ?_
          refine lv_if_ne (tgt := 66) hx hb dX10_execute_48 (by decide) (fun c_4 => ?_) (fun c_4 => ?_)
          · skip
            have hEd : m_Ed μ = i := m_Ed_eq hi_0 hi_1 (by first | exact Or.inl hx9 | exact Or.inr ⟨hb_i, c_4⟩)
            refine lv_iload_n hx hb dX10_execute_66 rfl (lv_at hl 1 rfl) ?_
            refine lv_iconst (v := 3) hx hb dX10_execute_67 (by decide) ?_
            refine lv_icmp_ne (tgt := 100) hx hb dX10_execute_68 (by decide) (fun c_5 => ?_) (fun c_5 => ?_)
            · skip
              refine lv_aload_n hx hb dX10_execute_100 rfl (lv_at hl 2 rfl) ?_
              refine lv_aload_n hx hb dX10_execute_101 rfl (lv_at hl 2 rfl) ?_
              refine sp_get hx hb hts wi_X10_execute_X10 hown hK hP (κ := 0) (by decide) mE_0 rfl 17 (by decide) (hts _ (List.mem_of_getElem? (i := 5) rfl)) (fun _ h => h) rfl dX10_execute_102 ?_
              refine W.eq (g2 := F0 m 105 ls [.int (nI (m_cn μ)), .ref (am (0))]) (by rw [(m_Ei_17 hty)]) ?_
              refine sp_put hx hb hts wi_X10_execute_X10 tyX10 tyX10_ok nmX10 hown hK hP hi hAk hS (κ := 0) (by decide) mE_0 rfl 4 (by decide) (hts _ (List.mem_of_getElem? (i := 10) rfl)) (fun _ h => h) rfl (ty := tyX10 4) (by decide +kernel) ⟨rfl, rfl⟩ (Nat.le_of_ble_eq_true rfl) (r1 := upd (((m_Ei μ i).2) 0) 4 (nI (m_cn μ))) (cE_of mE_0 (by simp [upd])) dX10_execute_105 (fun H locs hP hS => ?_)
              have hP : va_P D vwCl (mW am cy (sp_st ((m_Ei μ i).2) 0 4 (nI (m_cn μ)))) H := hP
              refine lv_aload_n hx hb dX10_execute_108 rfl (lv_at hl 2 rfl) ?_
              refine lv_iload_n hx hb dX10_execute_109 rfl (lv_at hl 1 rfl) ?_
              refine lv_iconst (v := 2) hx hb dX10_execute_110 (by decide) ?_
              refine lv_iconst (v := 2) hx hb dX10_execute_111 (by decide) ?_
              refine lv_iconst (v := 3) hx hb dX10_execute_112 (by decide) ?_
              refine sp_callm (va_runV (As := [.int (y0), .int (2), .int (2), .int (3)]) (rest := []) ⟨hx, hb, hml, hown, hts⟩ (c_X10_ends l D am cy (sp_st ((m_Ei μ i).2) 0 4 (nI (m_cn μ))) _ hi y0 2 2 3 ch (by repeat first | exact m_Ei_2 hC | (rw [sp_st_j _ _ _ _ _ _ (by decide)])) (by omega)) (cwV 4 hts gX10_execute_X10_ends rfl rfl rfl (by decide +kernel) ⟨Nat.le_of_ble_eq_true rfl, Nat.le_of_ble_eq_true rfl⟩) (sp_preVm hK hP (κ := 0) (by decide) mE_0 rfl) rfl rfl hl.1 rfl (lv_room (Nat.le_of_ble_eq_true rfl)) dX10_execute_113 ⟨Nat.le_of_ble_eq_true rfl, Nat.le_of_ble_eq_true rfl⟩) hS (fun q h1 h2 => sp_Alt h1 h2) (sp_Ale hS.1) (fun H locs hP hle hfr hS => ?_)
              refine W.eq (g2 := F0 m 116 ls [.int (m_endr (sp_st ((m_Ei μ i).2) 0 4 (nI (m_cn μ))) y0 2 2 3)]) rfl ?_
              have hE9 : mW am cy (m_ends (sp_st ((m_Ei μ i).2) 0 4 (nI (m_cn μ))) ch y0 2 2 3) = mW am cy (m_exec μ ch) := by exact mW_eq (by simp [m_exec, b2i, c_1, c_1d, c_2, c_2d, c_4, c_5, hEd, ← hi_0, m_fin])
              have hP : va_P D vwCl (mW am cy (m_exec μ ch)) H := by rw [← hE9]; exact hP
              exact W.iret (v := m_endr (sp_st ((m_Ei μ i).2) 0 4 (nI (m_cn μ))) y0 2 2 3) hx hb hr (fun T9 hT9 _ => ⟨congrArg (fun z9 => Outcome.returned (some (Value.int z9))) (show (m_endr (sp_st ((m_Ei μ i).2) 0 4 (nI (m_cn μ))) y0 2 2 3 : Int32) = m_execV μ from (by simp [m_execV, b2i, c_1, c_1d, c_2, c_2d, c_4, c_5, hEd, ← hi_0, m_fin])), by rw [hT9]; exact hP, hS.F hT9⟩) hS.2.2 dX10_execute_116
            · skip
              refine lv_aload_n hx hb dX10_execute_71 rfl (lv_at hl 2 rfl) ?_
              refine lv_aload_n hx hb dX10_execute_72 rfl (lv_at hl 2 rfl) ?_
              refine sp_get hx hb hts wi_X10_execute_X10 hown hK hP (κ := 0) (by decide) mE_0 rfl 5 (by decide) (hts _ (List.mem_of_getElem? (i := 6) rfl)) (fun _ h => h) rfl dX10_execute_73 ?_
              refine sp_put hx hb hts wi_X10_execute_X10 tyX10 tyX10_ok nmX10 hown hK hP hi hAk hS (κ := 0) (by decide) mE_0 rfl 7 (by decide) (hts _ (List.mem_of_getElem? (i := 7) rfl)) (fun _ h => h) rfl (ty := tyX10 7) (by decide +kernel) ⟨rfl, rfl⟩ (Nat.le_of_ble_eq_true rfl) (r1 := upd (((m_Ei μ i).2) 0) 7 ((m_Ei μ i).2 0 5)) (cE_of mE_0 (by simp [upd])) dX10_execute_76 (fun H locs hP hS => ?_)
              have hP : va_P D vwCl (mW am cy (sp_st ((m_Ei μ i).2) 0 7 ((m_Ei μ i).2 0 5))) H := hP
              refine lv_aload_n hx hb dX10_execute_79 rfl (lv_at hl 2 rfl) ?_
              refine lv_aload_n hx hb dX10_execute_80 rfl (lv_at hl 2 rfl) ?_
              refine sp_get hx hb hts wi_X10_execute_X10 hown hK hP (κ := 0) (by decide) mE_0 rfl 6 (by decide) (hts _ (List.mem_of_getElem? (i := 8) rfl)) (fun _ h => h) rfl dX10_execute_81 ?_
              refine W.eq (g2 := F0 m 84 ls [.int ((m_Ei μ i).2 0 6), .ref (am (0))]) (by rw [sp_st_j _ _ _ _ _ _ (by decide)]) ?_
              refine sp_put hx hb hts wi_X10_execute_X10 tyX10 tyX10_ok nmX10 hown hK hP hi hAk hS (κ := 0) (by decide) mE_0 rfl 8 (by decide) (hts _ (List.mem_of_getElem? (i := 9) rfl)) (fun _ h => h) rfl (ty := tyX10 8) (by decide +kernel) ⟨rfl, rfl⟩ (Nat.le_of_ble_eq_true rfl) (r1 := upd ((sp_st ((m_Ei μ i).2) 0 7 ((m_Ei μ i).2 0 5)) 0) 8 ((m_Ei μ i).2 0 6)) (cE_of mE_0 (by simp [upd])) dX10_execute_84 (fun H locs hP hS => ?_)
              have hP : va_P D vwCl (mW am cy (sp_st (sp_st ((m_Ei μ i).2) 0 7 ((m_Ei μ i).2 0 5)) 0 8 ((m_Ei μ i).2 0 6))) H := hP
              refine lv_aload_n hx hb dX10_execute_87 rfl (lv_at hl 2 rfl) ?_
              refine lv_bipush (v := 10) hx hb dX10_execute_88 (by decide) ?_
              refine sp_put hx hb hts wi_X10_execute_X10 tyX10 tyX10_ok nmX10 hown hK hP hi hAk hS (κ := 0) (by decide) mE_0 rfl 5 (by decide) (hts _ (List.mem_of_getElem? (i := 6) rfl)) (fun _ h => h) rfl (ty := tyX10 5) (by decide +kernel) ⟨rfl, rfl⟩ (Nat.le_of_ble_eq_true rfl) (r1 := upd ((sp_st (sp_st ((m_Ei μ i).2) 0 7 ((m_Ei μ i).2 0 5)) 0 8 ((m_Ei μ i).2 0 6)) 0) 5 10) (cE_of mE_0 (by simp [upd])) dX10_execute_90 (fun H locs hP hS => ?_)
              have hP : va_P D vwCl (mW am cy (sp_st (sp_st (sp_st ((m_Ei μ i).2) 0 7 ((m_Ei μ i).2 0 5)) 0 8 ((m_Ei μ i).2 0 6)) 0 5 10)) H := hP
              refine lv_aload_n hx hb dX10_execute_93 rfl (lv_at hl 2 rfl) ?_
              refine lv_iload_n hx hb dX10_execute_94 rfl (lv_at hl 0 rfl) ?_
              refine lv_iconst (v := 1) hx hb dX10_execute_95 (by decide) ?_
              refine lv_isub hx hb dX10_execute_96 ?_
              refine sp_put hx hb hts wi_X10_execute_X10 tyX10 tyX10_ok nmX10 hown hK hP hi hAk hS (κ := 0) (by decide) mE_0 rfl 6 (by decide) (hts _ (List.mem_of_getElem? (i := 8) rfl)) (fun _ h => h) rfl (ty := tyX10 6) (by decide +kernel) ⟨rfl, rfl⟩ (Nat.le_of_ble_eq_true rfl) (r1 := upd ((sp_st (sp_st (sp_st ((m_Ei μ i).2) 0 7 ((m_Ei μ i).2 0 5)) 0 8 ((m_Ei μ i).2 0 6)) 0 5 10) 0) 6 ((nI i) - 1)) (cE_of mE_0 (by simp [upd])) dX10_execute_97 (fun H locs hP hS => ?_)
              have hP : va_P D vwCl (mW am cy (sp_st (sp_st (sp_st (sp_st ((m_Ei μ i).2) 0 7 ((m_Ei μ i).2 0 5)) 0 8 ((m_Ei μ i).2 0 6)) 0 5 10) 0 6 ((nI i) - 1))) H := hP
              refine lv_aload_n hx hb dX10_execute_100 rfl (lv_at hl 2 rfl) ?_
              refine lv_aload_n hx hb dX10_execute_101 rfl (lv_at hl 2 rfl) ?_
              refine sp_get hx hb hts wi_X10_execute_X10 hown hK hP (κ := 0) (by decide) mE_0 rfl 17 (by decide) (hts _ (List.mem_of_getElem? (i := 5) rfl)) (fun _ h => h) rfl dX10_execute_102 ?_
              refine W.eq (g2 := F0 m 105 ls [.int ((m_Ei μ i).2 0 17), .ref (am (0))]) (by rw [sp_st_j _ _ _ _ _ _ (by decide), sp_st_j _ _ _ _ _ _ (by decide), sp_st_j _ _ _ _ _ _ (by decide), sp_st_j _ _ _ _ _ _ (by decide)]) ?_
              refine W.eq (g2 := F0 m 105 ls [.int (nI (m_cn μ)), .ref (am (0))]) (by rw [(m_Ei_17 hty)]) ?_
              refine sp_put hx hb hts wi_X10_execute_X10 tyX10 tyX10_ok nmX10 hown hK hP hi hAk hS (κ := 0) (by decide) mE_0 rfl 4 (by decide) (hts _ (List.mem_of_getElem? (i := 10) rfl)) (fun _ h => h) rfl (ty := tyX10 4) (by decide +kernel) ⟨rfl, rfl⟩ (Nat.le_of_ble_eq_true rfl) (r1 := upd ((sp_st (sp_st (sp_st (sp_st ((m_Ei μ i).2) 0 7 ((m_Ei μ i).2 0 5)) 0 8 ((m_Ei μ i).2 0 6)) 0 5 10) 0 6 ((nI i) - 1)) 0) 4 (nI (m_cn μ))) (cE_of mE_0 (by simp [upd])) dX10_execute_105 (fun H locs hP hS => ?_)
              have hP : va_P D vwCl (mW am cy (sp_st (sp_st (sp_st (sp_st (sp_st ((m_Ei μ i).2) 0 7 ((m_Ei μ i).2 0 5)) 0 8 ((m_Ei μ i).2 0 6)) 0 5 10) 0 6 ((nI i) - 1)) 0 4 (nI (m_cn μ)))) H := hP
              refine lv_aload_n hx hb dX10_execute_108 rfl (lv_at hl 2 rfl) ?_
              refine lv_iload_n hx hb dX10_execute_109 rfl (lv_at hl 1 rfl) ?_
              refine lv_iconst (v := 2) hx hb dX10_execute_110 (by decide) ?_
              refine lv_iconst (v := 2) hx hb dX10_execute_111 (by decide) ?_
              refine lv_iconst (v := 3) hx hb dX10_execute_112 (by decide) ?_
              refine sp_callm (va_runV (As := [.int (y0), .int (2), .int (2), .int (3)]) (rest := []) ⟨hx, hb, hml, hown, hts⟩ (c_X10_ends l D am cy (sp_st (sp_st (sp_st (sp_st (sp_st ((m_Ei μ i).2) 0 7 ((m_Ei μ i).2 0 5)) 0 8 ((m_Ei μ i).2 0 6)) 0 5 10) 0 6 ((nI i) - 1)) 0 4 (nI (m_cn μ))) _ hi y0 2 2 3 ch (by repeat first | exact m_Ei_2 hC | (rw [sp_st_j _ _ _ _ _ _ (by decide)])) (by omega)) (cwV 4 hts gX10_execute_X10_ends rfl rfl rfl (by decide +kernel) ⟨Nat.le_of_ble_eq_true rfl, Nat.le_of_ble_eq_true rfl⟩) (sp_preVm hK hP (κ := 0) (by decide) mE_0 rfl) rfl rfl hl.1 rfl (lv_room (Nat.le_of_ble_eq_true rfl)) dX10_execute_113 ⟨Nat.le_of_ble_eq_true rfl, Nat.le_of_ble_eq_true rfl⟩) hS (fun q h1 h2 => sp_Alt h1 h2) (sp_Ale hS.1) (fun H locs hP hle hfr hS => ?_)
              refine W.eq (g2 := F0 m 116 ls [.int (m_endr (sp_st (sp_st (sp_st (sp_st (sp_st ((m_Ei μ i).2) 0 7 ((m_Ei μ i).2 0 5)) 0 8 ((m_Ei μ i).2 0 6)) 0 5 10) 0 6 ((nI i) - 1)) 0 4 (nI (m_cn μ))) y0 2 2 3)]) rfl ?_
              have hE9 : mW am cy (m_ends (sp_st (sp_st (sp_st (sp_st (sp_st ((m_Ei μ i).2) 0 7 ((m_Ei μ i).2 0 5)) 0 8 ((m_Ei μ i).2 0 6)) 0 5 10) 0 6 ((nI i) - 1)) 0 4 (nI (m_cn μ))) ch y0 2 2 3) = mW am cy (m_exec μ ch) := by exact mW_eq (by simp [m_exec, b2i, c_1, c_1d, c_2, c_2d, c_4, c_5, hEd, ← hi_0, m_fin])
              have hP : va_P D vwCl (mW am cy (m_exec μ ch)) H := by rw [← hE9]; exact hP
              exact W.iret (v := m_endr (sp_st (sp_st (sp_st (sp_st (sp_st ((m_Ei μ i).2) 0 7 ((m_Ei μ i).2 0 5)) 0 8 ((m_Ei μ i).2 0 6)) 0 5 10) 0 6 ((nI i) - 1)) 0 4 (nI (m_cn μ))) y0 2 2 3) hx hb hr (fun T9 hT9 _ => ⟨congrArg (fun z9 => Outcome.returned (some (Value.int z9))) (show (m_endr (sp_st (sp_st (sp_st (sp_st (sp_st ((m_Ei μ i).2) 0 7 ((m_Ei μ i).2 0 5)) 0 8 ((m_Ei μ i).2 0 6)) 0 5 10) 0 6 ((nI i) - 1)) 0 4 (nI (m_cn μ))) y0 2 2 3 : Int32) = m_execV μ from (by simp [m_execV, b2i, c_1, c_1d, c_2, c_2d, c_4, c_5, hEd, ← hi_0, m_fin])), by rw [hT9]; exact hP, hS.F hT9⟩) hS.2.2 dX10_execute_116
          · skip
            refine lv_aload_n hx hb dX10_execute_51 rfl (lv_at hl 2 rfl) ?_
            refine lv_bipush (v := 7) hx hb dX10_execute_52 (by decide) ?_
            refine lv_iload_n hx hb dX10_execute_54 rfl (lv_at hl 0 rfl) ?_
            refine lv_imul hx hb dX10_execute_55 ?_
            refine W.eq (g2 := F0 m 56 ls [.int (nI (7 * i)), .ref (am (0))]) (by rw [show (7 * (nI i) : Int32) = nI (7 * i) from (nI_mulE rfl rfl)]) ?_
            refine sp_callm (va_runV (As := [.int (nI (7 * i))]) (rest := []) ⟨hx, hb, hml, hown, hts⟩ (c_X10_does l D am cy ((m_Ei μ i).2) _ hi (m_nn (m_Ei μ i).2) (m_tt (m_Ei μ i).2) (by exact hi_2) (7 * i) (by omega)) (cwV 1 hts gX10_execute_X10_does rfl rfl rfl (by decide +kernel) ⟨Nat.le_of_ble_eq_true rfl, Nat.le_of_ble_eq_true rfl⟩) (sp_preVm hK hP (κ := 0) (by decide) mE_0 rfl) rfl rfl hl.1 rfl (lv_room (Nat.le_of_ble_eq_true rfl)) dX10_execute_56 ⟨Nat.le_of_ble_eq_true rfl, Nat.le_of_ble_eq_true rfl⟩) hS (fun q h1 h2 => sp_Alt h1 h2) (sp_Ale hS.1) (fun H locs hP hle hfr hS => ?_)
            refine W.eq (g2 := F0 m 59 ls [.int (m_doV ((m_Ei μ i).2) (m_nn (m_Ei μ i).2) (m_tt (m_Ei μ i).2) (7 * i))]) rfl ?_
            refine lv_istore_n (lv' := [(1, .int (m_doV ((m_Ei μ i).2) (m_nn (m_Ei μ i).2) (m_tt (m_Ei μ i).2) (7 * i))), (2, .int (nI i)), (0, .ref (am (0)))]) hx hb dX10_execute_59 rfl hl (by decide) rfl (fun ls hl => ?_)
            refine lv_iinc (v := nI (i + 1)) (lv' := [(2, .int (nI (i + 1))), (1, .int (m_doV ((m_Ei μ i).2) (m_nn (m_Ei μ i).2) (m_tt (m_Ei μ i).2) (7 * i))), (0, .ref (am (0)))]) hx hb dX10_execute_60 hl (k := 1) rfl (nI_1 _) (by decide) rfl (fun ls hl => ?_)
            refine lv_goto (tgt := 39) hx hb dX10_execute_63 (by decide) ?_
            exact ih (i + 1) (m_doV ((m_Ei μ i).2) (m_nn (m_Ei μ i).2) (m_tt (m_Ei μ i).2) (7 * i))  _ _ (by omega) (by omega) (m_Ei_s1 μ i) (m_Ep_s hi_1 (hi_0.symm.trans c_4)) (m_do_MS hi_2) ((show mW am cy (m_do ((m_Ei μ i).2) (m_nn (m_Ei μ i).2) (m_tt (m_Ei μ i).2) (7 * i)) = mW am cy ((m_Ei μ (i + 1)).2) from (by exact mW_eq rfl)) ▸ hP) hS ls (lv_sub hl [0, 1, 2] rfl)
    exact loop_39 (m_cn μ + 1) (0) (0)  _ _ (by omega) (by omega) (rfl) (rfl) (m_E0_MS hM) ((show mW am cy (m_copy (sp_st (m_parse μ) 0 12 0) 0 10) = mW am cy ((m_Ei μ 0).2) from (by exact mW_eq rfl)) ▸ hP) hS ls (lv_sub hl [0, 1, 2] rfl)
  · skip
    have c_1d := Int32.not_lt.mp c_1
    refine lv_aload_n hx hb dX10_execute_16 rfl (lv_at hl 0 rfl) ?_
    refine lv_aload_n hx hb dX10_execute_17 rfl (lv_at hl 0 rfl) ?_
    refine sp_get hx hb hts wi_X10_execute_X10 hown hK hP (κ := 0) (by decide) mE_0 rfl 14 (by decide) (hts _ (List.mem_of_getElem? (i := 2) rfl)) (fun _ h => h) rfl dX10_execute_18 ?_
    refine W.eq (g2 := F0 m 21 ls [.int (m_parse μ 0 14), .ref (am (0))]) (by rw [sp_st_j _ _ _ _ _ _ (by decide)]) ?_
    refine sp_put hx hb hts wi_X10_execute_X10 tyX10 tyX10_ok nmX10 hown hK hP hi hAk hS (κ := 0) (by decide) mE_0 rfl 15 (by decide) (hts _ (List.mem_of_getElem? (i := 3) rfl)) (fun _ h => h) rfl (ty := tyX10 15) (by decide +kernel) ⟨rfl, rfl⟩ (Nat.le_of_ble_eq_true rfl) (r1 := upd ((sp_st (m_parse μ) 0 12 0) 0) 15 (m_parse μ 0 14)) (cE_of mE_0 (by simp [upd])) dX10_execute_21 (fun H locs hP hS => ?_)
    have hP : va_P D vwCl (mW am cy (sp_st (sp_st (m_parse μ) 0 12 0) 0 15 (m_parse μ 0 14))) H := hP
    refine lv_aload_n hx hb dX10_execute_24 rfl (lv_at hl 0 rfl) ?_
    refine lv_iconst (v := 1) hx hb dX10_execute_25 (by decide) ?_
    refine sp_put hx hb hts wi_X10_execute_X10 tyX10 tyX10_ok nmX10 hown hK hP hi hAk hS (κ := 0) (by decide) mE_0 rfl 0 (by decide) (hts _ (List.mem_of_getElem? (i := 4) rfl)) (fun _ h => h) rfl (ty := tyX10 0) (by decide +kernel) ⟨rfl, rfl⟩ (Nat.le_of_ble_eq_true rfl) (r1 := upd ((sp_st (sp_st (m_parse μ) 0 12 0) 0 15 (m_parse μ 0 14)) 0) 0 1) (cE_of mE_0 (by simp [upd])) dX10_execute_26 (fun H locs hP hS => ?_)
    have hP : va_P D vwCl (mW am cy (sp_st (sp_st (sp_st (m_parse μ) 0 12 0) 0 15 (m_parse μ 0 14)) 0 0 1)) H := hP
    refine lv_iconst (v := 0) hx hb dX10_execute_29 (by decide) ?_
    have hE9 : mW am cy (sp_st (sp_st (sp_st (m_parse μ) 0 12 0) 0 15 (m_parse μ 0 14)) 0 0 1) = mW am cy (m_exec μ ch) := by exact mW_eq (by simp [m_exec, b2i, c_1, c_1d])
    have hP : va_P D vwCl (mW am cy (m_exec μ ch)) H := by rw [← hE9]; exact hP
    exact W.iret (v := 0) hx hb hr (fun T9 hT9 _ => ⟨congrArg (fun z9 => Outcome.returned (some (Value.int z9))) (show (0 : Int32) = m_execV μ from (by simp [m_execV, b2i, c_1, c_1d])), by rw [hT9]; exact hP, hS.F hT9⟩) hS.2.2 dX10_execute_30

