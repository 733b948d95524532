/-! PARSING: the whole input -/
section PAW
variable {σ μ τ ρ : Nat → Nat → Int32} {i : Nat}
theorem stp_iff (hp : PT τ (m_pl μ i)) (h : OKs τ (m_pl μ i) ∨ ERs τ (m_pl μ i)) : m_stp μ i = false ↔ (τ 433 4 = 0 ∧ f_signI τ (τ 433 3) = 59) := by
  have hs := hp.sign.eq (x := 59) (by decide) (by decide)
  unfold m_stp
  rcases h with ⟨o1, o2⟩ | ⟨e1, e2⟩
  · rw [o2, show decide ((-1 : Int32) < 0) = true by decide, Bool.true_and]
    exact ⟨fun z => ⟨o1, hs.mpr (by simpa using z)⟩, fun z => by simpa using hs.mp z.2⟩
  · have hn : ¬ m_pl μ i 0 14 < 0 := by rw [e2]; exact Int32.not_lt.mpr hp.2.2
    rw [decide_eq_false hn, Bool.false_and]
    exact ⟨fun z => absurd z (by decide), fun z => absurd z.1 e1⟩
theorem PV.next (h : PV i σ μ τ) (hi : i < 20) (hs : m_stp μ i = false) : S_parse (1, τ) i = (1, sp_st (sp_st (f_rdCmd τ i) 433 2 (f_rdCmd τ i 433 2 + 1)) 433 3 (f_rdCmd τ i 433 3 + 1)) ∧ PV (i + 1) σ μ (sp_st (sp_st (f_rdCmd τ i) 433 2 (f_rdCmd τ i 433 2 + 1)) 433 3 (f_rdCmd τ i 433 3 + 1)) := by
  obtain ⟨c1, c2, c3, c4⟩ := h.step hi
  have h9 := (stp_iff c1 (c4.imp (fun z => z.1) id)).mp hs
  have hS : S_parse (1, τ) i = (1, sp_st (sp_st (f_rdCmd τ i) 433 2 (f_rdCmd τ i 433 2 + 1)) 433 3 (f_rdCmd τ i 433 3 + 1)) := by
    unfold S_parse
    rw [if_neg (show ¬ (1, τ).1 = (0 : Int32) from (show ¬ (1 : Int32) = 0 by decide)), if_pos h9]
  refine ⟨hS, ?_⟩
  have hok : OKs (f_rdCmd τ i) (m_pl μ i) ∧ 3 * i + 2 ≤ tn (m_pl μ i 0 13) ∧ ∀ c, c < i + 1 → CE (f_rdCmd τ i) (m_pl μ i) c := by
    rcases c4 with z | z
    · exact z
    · exact absurd h9.1 z.1
  obtain ⟨⟨o1, o2⟩, hw, hce⟩ := hok
  have h59 : m_sign (m_pl μ i) = 59 := (c1.sign.eq (by decide) (by decide)).mp h9.2
  have hm := MG_step (c1.1.mi c1.2.2) (by rw [h59]; decide)
  have h60 : tn (m_pl μ i 0 13) < 60 := m_here_lt (c1.1.mi c1.2.2) (m_sign_lt (by rw [h59]; decide))
  have hm0 : 0 ≤ m_pl μ i 0 13 + 1 := by have := hm.1.1; rw [sp_st_s] at this; exact this
  have hr : ∀ k j, ¬ (k = 0 ∧ j = 13) → m_pb μ (i + 1) k j = m_pl μ i k j := fun k j q => by
    show sp_st (m_pl μ i) 0 13 (m_pl μ i 0 13 + 1) k j = _
    rw [sp_st_at, if_neg q]
  have hr13 : m_pb μ (i + 1) 0 13 = m_pl μ i 0 13 + 1 := sp_st_s _ _ _ _
  have hc : ∀ k j, ¬ (k = 433 ∧ (j = 2 ∨ j = 3)) → sp_st (sp_st (f_rdCmd τ i) 433 2 (f_rdCmd τ i 433 2 + 1)) 433 3 (f_rdCmd τ i 433 3 + 1) k j = f_rdCmd τ i k j := fun k j q => by
    rw [sp_st_at, if_neg (by omega), sp_st_at, if_neg (by omega)]
  refine ⟨⟨c1.1.congr (hr 0 12 (by decide)) (fun j => hr 3 j (by omega)) (hc 434 1 (by omega)) (fun j => hc 435 j (by omega)), by rw [sp_st_s, hr13, c1.2.1], by rw [hr13]; exact hm0⟩, ⟨by rw [hc 433 4 (by omega)]; exact o1, by rw [hr 0 14 (by decide)]; exact o2⟩, by rw [sp_st_j _ _ _ _ _ _ (by decide), sp_st_s, c2]; exact nI_1 i, by rw [hr13, tn_add1 c1.2.2 h60]; omega, fun c hc9 => (hce c hc9).congr (fun j => hc _ j (by omega)) (fun j hj => hr 4 _ (by omega)), fun k j q1 q2 => by rw [hc k j (by omega)]; exact c3 k j q1 q2⟩
theorem PV.all (h : RI σ μ) : ∀ i : Nat, i ≤ 20 → fstI (m_stp μ) i = none → ∃ τ, foldI S_parse (1, f_par0 σ) i = (1, τ) ∧ PV i σ μ τ
  | 0, _, _ => ⟨f_par0 σ, rfl, PV.start h⟩
  | i + 1, hi, hn => by
    have h0 : fstI (m_stp μ) i = none := fstI_none.mpr fun j hj => fstI_none.mp hn j (by omega)
    obtain ⟨τ, e, hv⟩ := PV.all h i (by omega) h0
    obtain ⟨s1, s2⟩ := hv.next (by omega) (fstI_none.mp hn i (by omega))
    exact ⟨_, by rw [foldI_succ, e]; exact s1, s2⟩
/-- the class's and the reference's reading of the input -/
def PE9 (σ μ : Nat → Nat → Int32) : Prop := (f_parseV σ ≠ -1 ∧ 0 ≤ m_parse μ 0 14 ∧ f_parseV σ = m_parse μ 0 14) ∨ (f_parseV σ = -1 ∧ ¬ 0 ≤ m_parse μ 0 14 ∧ m_cn μ ≤ 20 ∧ f_parse σ 433 2 = nI (m_cn μ) ∧ ∀ c, c < m_cn μ → CE (f_parse σ) (m_parse μ) c)
theorem ge_n1 {x : Int32} (h : 0 ≤ x) : x ≠ -1 := fun z => by rw [z] at h; exact absurd h (by decide)
theorem pend_err (h : 0 ≤ ρ 0 14) : m_pend ρ = ρ := by
  unfold m_pend
  rw [if_neg (fun z => absurd z.1 (Int32.not_lt.mpr h))]
theorem par_ok (h : RI σ μ) (h0 : 0 ≤ μ 0 13) : PE9 σ μ ∧ (∀ k j, k ≠ 433 → ¬ (439 ≤ k ∧ k < 459) → f_parse σ k j = σ k j) ∧ 0 ≤ m_parse μ 0 13 := by
  obtain ⟨i, hi, hi61⟩ := m_stp_some (h.mi h0)
  have hn : fstI (m_stp μ) i = none := fstI_none.mpr (fstI_some hi).2.2
  have hst : m_stp μ i = true := (fstI_some hi).2.1
  have hi20 : i ≤ 20 := by
    rcases Nat.lt_or_ge 20 i with q | q
    · exfalso
      have hn2 : fstI (m_stp μ) 20 = none := fstI_none.mpr fun j hj => fstI_none.mp hn j (by omega)
      obtain ⟨τ, e, hp, ho, -, hw, -⟩ := PV.all h 20 (by decide) hn2
      have hs : m_sign (m_pb μ 20) = -1 := by
        by_cases z : m_sign (m_pb μ 20) = -1
        · exact z
        · have := m_here_lt (hp.1.mi hp.2.2) (m_sign_lt z); omega
      obtain ⟨⟨d1, d2, -⟩, d3⟩ := cmd_bad (i := 20) hp ho (by rw [hs]; decide)
      have h9 : m_stp μ 20 = false := fstI_none.mp hn 20 q
      rw [← m_pl_pb] at d1 d3
      have := (stp_iff d1 (Or.inr d3)).mp h9
      exact d3.1 this.1
    · exact q
  have hmp : m_parse μ = m_pend (m_pl μ i) := by unfold m_parse; rw [hi]; rfl
  have hcn : m_cn μ = i + 1 := by unfold m_cn; rw [hi]; rfl
  obtain ⟨τ, e, hv⟩ := PV.all h i hi20 hn
  rcases Nat.lt_or_ge i 20 with q | q
  · obtain ⟨c1, c2, c3, c4⟩ := hv.step q
    have hno : ¬ (f_rdCmd τ i 433 4 = 0 ∧ f_signI (f_rdCmd τ i) (f_rdCmd τ i 433 3) = 59) := fun z => by
      have := (stp_iff c1 (c4.imp (fun z => z.1) id)).mpr z
      rw [this] at hst; exact absurd hst (by decide)
    have hS : foldI S_parse (1, f_par0 σ) (i + 1) = (0, sp_st (sp_st (f_rdCmd τ i) 433 2 (f_rdCmd τ i 433 2 + 1)) 433 3 (f_rdCmd τ i 433 3 + 0)) := by
      rw [foldI_succ, e]
      unfold S_parse
      rw [if_neg (show ¬ (1, τ).1 = (0 : Int32) from (show ¬ (1 : Int32) = 0 by decide)), if_neg hno]
    have hE := par_stay hS.symm rfl (by omega)
    have hc : ∀ k j, ¬ (k = 433 ∧ (j = 2 ∨ j = 3)) → sp_st (sp_st (f_rdCmd τ i) 433 2 (f_rdCmd τ i 433 2 + 1)) 433 3 (f_rdCmd τ i 433 3 + 0) k j = f_rdCmd τ i k j := fun k j q => by
      rw [sp_st_at, if_neg (by omega), sp_st_at, if_neg (by omega)]
    have hc3 : sp_st (sp_st (f_rdCmd τ i) 433 2 (f_rdCmd τ i 433 2 + 1)) 433 3 (f_rdCmd τ i 433 3 + 0) 433 3 = m_pl μ i 0 13 := by
      rw [sp_st_s, Int32.add_zero]; exact c1.2.1
    have hc2 : sp_st (sp_st (f_rdCmd τ i) 433 2 (f_rdCmd τ i 433 2 + 1)) 433 3 (f_rdCmd τ i 433 3 + 0) 433 2 = nI (i + 1) := by
      rw [sp_st_j _ _ _ _ _ _ (by decide), sp_st_s, c2]; exact nI_1 i
    have hfp : f_parse σ = sp_st (sp_st (f_rdCmd τ i) 433 2 (f_rdCmd τ i 433 2 + 1)) 433 3 (f_rdCmd τ i 433 3 + 0) := by unfold f_parse; rw [← hE]
    refine ⟨?_, fun k j q1 q2 => by rw [hfp, hc k j (by omega)]; exact c3 k j q1 q2, ?_⟩
    · unfold PE9 f_parseV
      rw [← hE, hmp, hfp]
      show (((if ¬ sp_st (sp_st (f_rdCmd τ i) 433 2 (f_rdCmd τ i 433 2 + 1)) 433 3 (f_rdCmd τ i 433 3 + 0) 433 4 = 0 ∨ ¬ (0 : Int32) = 0 ∨ sp_st (sp_st (f_rdCmd τ i) 433 2 (f_rdCmd τ i 433 2 + 1)) 433 3 (f_rdCmd τ i 433 3 + 0) 433 3 < sp_st (sp_st (f_rdCmd τ i) 433 2 (f_rdCmd τ i 433 2 + 1)) 433 3 (f_rdCmd τ i 433 3 + 0) 434 1 then sp_st (sp_st (f_rdCmd τ i) 433 2 (f_rdCmd τ i 433 2 + 1)) 433 3 (f_rdCmd τ i 433 3 + 0) 433 3 else -1) ≠ -1 ∧ 0 ≤ m_pend (m_pl μ i) 0 14 ∧ (if ¬ sp_st (sp_st (f_rdCmd τ i) 433 2 (f_rdCmd τ i 433 2 + 1)) 433 3 (f_rdCmd τ i 433 3 + 0) 433 4 = 0 ∨ ¬ (0 : Int32) = 0 ∨ sp_st (sp_st (f_rdCmd τ i) 433 2 (f_rdCmd τ i 433 2 + 1)) 433 3 (f_rdCmd τ i 433 3 + 0) 433 3 < sp_st (sp_st (f_rdCmd τ i) 433 2 (f_rdCmd τ i 433 2 + 1)) 433 3 (f_rdCmd τ i 433 3 + 0) 434 1 then sp_st (sp_st (f_rdCmd τ i) 433 2 (f_rdCmd τ i 433 2 + 1)) 433 3 (f_rdCmd τ i 433 3 + 0) 433 3 else -1) = m_pend (m_pl μ i) 0 14) ∨ ((if ¬ sp_st (sp_st (f_rdCmd τ i) 433 2 (f_rdCmd τ i 433 2 + 1)) 433 3 (f_rdCmd τ i 433 3 + 0) 433 4 = 0 ∨ ¬ (0 : Int32) = 0 ∨ sp_st (sp_st (f_rdCmd τ i) 433 2 (f_rdCmd τ i 433 2 + 1)) 433 3 (f_rdCmd τ i 433 3 + 0) 433 3 < sp_st (sp_st (f_rdCmd τ i) 433 2 (f_rdCmd τ i 433 2 + 1)) 433 3 (f_rdCmd τ i 433 3 + 0) 434 1 then sp_st (sp_st (f_rdCmd τ i) 433 2 (f_rdCmd τ i 433 2 + 1)) 433 3 (f_rdCmd τ i 433 3 + 0) 433 3 else -1) = -1 ∧ _))
      rw [hc3, hc2, hc 433 4 (by omega), hc 434 1 (by omega)]
      rcases c4 with ⟨⟨o1, o2⟩, hw, hce⟩ | ⟨e1, e2⟩
      · obtain ⟨ty, t1, t2, t3, t4⟩ := c1.1
        by_cases q2 : m_pl μ i 0 13 < m_pl μ i 0 12
        · have hpe : m_pend (m_pl μ i) 0 14 = m_pl μ i 0 13 := by
            unfold m_pend
            rw [if_pos ⟨by rw [o2]; decide, q2⟩, sp_st_s]
          rw [if_pos (Or.inr (Or.inr (by rw [t3, ← t2]; exact q2))), hpe]
          exact Or.inl ⟨ge_n1 c1.2.2, c1.2.2, rfl⟩
        · have hpe : m_pend (m_pl μ i) = m_pl μ i := by
            unfold m_pend
            rw [if_neg (fun z => q2 z.2)]
          rw [if_neg (fun z => z.elim (fun z => z o1) (fun z => z.elim (fun z => z rfl) (fun z => q2 (by rw [t2, ← t3]; exact z)))), hpe, o2, hcn]
          exact Or.inr ⟨rfl, by decide, by omega, rfl, fun c hc9 => (hce c hc9).congr (fun j => hc _ j (by omega)) (fun j _ => rfl)⟩
      · rw [if_pos (Or.inl e1), pend_err (by rw [e2]; exact c1.2.2), e2]
        exact Or.inl ⟨ge_n1 c1.2.2, c1.2.2, rfl⟩
    · rw [hmp]
      unfold m_pend
      split
      · rw [sp_st_j _ _ _ _ _ _ (by decide)]; exact c1.2.2
      · exact c1.2.2
  · have e20 : i = 20 := by omega
    subst e20
    obtain ⟨hp, ho, v3, hw, v5, v6⟩ := hv
    have hs : m_sign (m_pb μ 20) = -1 := by
      by_cases z : m_sign (m_pb μ 20) = -1
      · exact z
      · have := m_here_lt (hp.1.mi hp.2.2) (m_sign_lt z); omega
    have hmc : m_pl μ 20 = sp_st (m_clr (sp_st (m_pb μ 20) 0 17 (nI 20 + 1)) 20 7) 0 14 (m_pb μ 20 0 13) := by
      rw [m_pl_pb]
      unfold m_cmd
      rw [m_sign_17, hs, if_neg (by decide)]
    have h14 : m_pl μ 20 0 14 = m_pb μ 20 0 13 := by rw [hmc, sp_st_s]
    have h13 : m_pl μ 20 0 13 = m_pb μ 20 0 13 := by rw [hmc, sp_st_j _ _ _ _ _ _ (by decide), m_clr_at (by decide), sp_st_j _ _ _ _ _ _ (by decide)]
    have hfp : f_parse σ = τ := by unfold f_parse; rw [e]
    refine ⟨?_, fun k j q1 q2 => by rw [hfp]; exact v6 k j q1 q2, ?_⟩
    · refine Or.inl ?_
      have hV : f_parseV σ = τ 433 3 := by
        unfold f_parseV
        rw [e, if_pos (Or.inr (Or.inl (show ¬ (1, τ).1 = (0 : Int32) from (show ¬ (1 : Int32) = 0 by decide))))]
      rw [hV, hmp, pend_err (by rw [h14]; exact hp.2.2), h14, hp.2.1]
      exact ⟨ge_n1 hp.2.2, hp.2.2, rfl⟩
    · rw [hmp, pend_err (by rw [h14]; exact hp.2.2), h13]; exact hp.2.2
end PAW
