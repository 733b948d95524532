/-! EXECUTING: all commands -/
section EXE
variable {σ ς μ ω : Nat → Nat → Int32} {B ch i : Nat} {pm : Nat → Nat} {rc rc' : Option RC}
theorem RR.cut (h : RR B σ pm rc μ) (hB : B < 1000000) (hc : ∀ k j, (k < 351 ∨ 390 ≤ k) → k ≠ 433 → ¬ (439 ≤ k ∧ k < 459) → ¬ (k = 434 ∧ j = 1) → ¬ (k = 429 ∧ j = 9) → ς k j = σ k j) (ht : ς 434 1 = 0) (h1 : ∀ j, j < 2890 → ω 1 j = μ 1 j) (h02 : ω 0 2 = μ 0 2) (h03 : ω 0 3 = μ 0 3) (h10 : ω 0 10 = μ 0 10) (h2 : ∀ j, ω 2 j = μ 2 j) (h12 : ω 0 12 = 0) (hj : RJ rc' ω) (he : ω 0 15 = ς 429 9) (hh : 0 ≤ ω 0 13) : RR B ς pm rc' ω := by
  obtain ⟨a, ⟨⟨ch2, c1, c2, c3, c4⟩, p1, p2⟩, ⟨s1, s2⟩, _, o, _, _, _⟩ := h
  refine ⟨a.congr (fun k j hk => hc k j (by omega) (by omega) (by omega) (by omega) (by omega)) (fun j hj => h1 j (by omega)) (Nat.le_refl B) hB, ⟨⟨ch2, c1, by rw [h02]; exact c2, by rw [hc 431 1 (by omega) (by decide) (by decide) (by decide) (by decide)]; exact c3, fun j hj9 => ?_⟩, p1, p2⟩, ⟨by rw [h03, hc 429 5 (by omega) (by decide) (by decide) (by decide) (by decide)]; exact s1, fun z => ?_⟩, hj, o.congr h10 h2 (hc 436 1 (by omega) (by decide) (by decide) (by decide) (by decide)) (fun j => hc 437 j (by omega) (by decide) (by decide) (by omega) (by omega)), ⟨0, by decide, h12, ht, fun j hj9 => absurd hj9 (by omega)⟩, he, hh⟩
  · have hb9 := p1 j (by omega)
    exact (c4 j hj9).congr (fun k j2 hk => hc _ j2 (by omega) (by omega) (by omega) (by omega) (by omega)) (fun y hy => h1 _ (by omega)) (Nat.le_refl B) hB
  · rw [h03] at z
    exact (s2 z).congr (fun k j2 hk => hc _ j2 (by omega) (by omega) (by omega) (by omega) (by omega)) (fun y hy => h1 _ (by omega)) (Nat.le_refl B) hB
/-- the commands behind which none was refused -/
def IV (B : Nat) (σ μ : Nat → Nat → Int32) (i : Nat) : Prop := BE (f_exeF σ i) ((m_Ei μ i).2 1) (B + i) ∧ (∀ c, c < m_cn μ → CE (f_exeF σ i) (m_Ei μ i).2 c) ∧ (∀ k j, 39 ≤ k → ¬ (351 ≤ k ∧ k < 390) → k ≠ 433 → ¬ (439 ≤ k ∧ k < 459) → ¬ (k = 434 ∧ j = 1) → f_exeF σ i k j = σ k j) ∧ (∀ k j, k < 39 → f_exeF σ i (351 + k) j = σ k j) ∧ f_exeF σ i 434 1 = 0 ∧ f_exeF σ i 433 2 = nI (m_cn μ) ∧ (∀ j, 289 ≤ j → (m_Ei μ i).2 1 j = m_copy μ 0 10 1 j) ∧ (∀ j, 5 ≤ j → j ≤ 8 → (m_Ei μ i).2 0 j = μ 0 j) ∧ (m_Ei μ i).1 = 0 ∧ fstI (P_exe σ) i = none ∧ fstI (m_Ep μ) (i - 1) = none
theorem IV.start (a : BE σ (μ 1) B) (hB : B < 1000000) (hp : ∀ k j, k ≠ 433 → ¬ (439 ≤ k ∧ k < 459) → f_parse σ k j = σ k j) (hn : f_parse σ 433 2 = nI (m_cn μ)) (hce : ∀ c, c < m_cn μ → CE (f_parse σ) (m_parse μ) c) (hcn : m_cn μ ≤ 20) : IV B σ μ 0 := by
  have e0 : f_exeF σ 0 = f_copyB (sp_st (f_parse σ) 434 1 0) 9 0 := (exe_0 σ).symm
  have em : (m_Ei μ 0).2 = m_copy (sp_st (m_parse μ) 0 12 0) 0 10 := rfl
  have hc : ∀ k j, ¬ (351 ≤ k ∧ k < 390) → ¬ (k = 434 ∧ j = 1) → f_exeF σ 0 k j = f_parse σ k j := fun k j q1 q2 => by
    rw [e0]
    unfold f_copyB
    rw [if_neg (by omega), sp_st_at, if_neg q2]
  have h1 : ∀ j, (m_Ei μ 0).2 1 j = m_copy μ 0 10 1 j := fun j => by
    rw [em]
    unfold m_copy m_cp
    by_cases q : (1 : Nat) = 1 ∧ 289 * 10 ≤ j ∧ j < 289 * 10 + 289
    · rw [if_pos q, if_pos q, sp_st_k _ _ _ _ _ _ (by decide), PF_parse μ 1 _ (by unfold pfx; omega)]
    · rw [if_neg q, if_neg q, sp_st_k _ _ _ _ _ _ (by decide), PF_parse μ 1 _ (by unfold pfx; omega)]
  refine ⟨a.congr (fun k j hk => by rw [hc k j (by omega) (by omega)]; exact hp k j (by omega) (by omega)) (fun j hj => by rw [h1 j]; exact m_copy1 (by omega)) (by omega) hB, fun c hc9 => (hce c hc9).congr (fun j => hc _ j (by omega) (by omega)) (fun j hj => by rw [em, m_copy_k (by decide), sp_st_k _ _ _ _ _ _ (by decide)]), fun k j q1 q2 q3 q4 q5 => by rw [hc k j q2 q5]; exact hp k j q3 q4, fun k j hk => ?_, ?_, by rw [hc 433 2 (by omega) (by decide)]; exact hn, fun j _ => h1 j, fun j q1 q2 => by rw [em, m_copy_k (by decide), sp_st_j _ _ _ _ _ _ (by omega), PF_parse μ 0 j (by unfold pfx; omega)], rfl, rfl, rfl⟩
  · rw [e0]
    unfold f_copyB
    rw [if_pos (by omega), sp_st_k _ _ _ _ _ _ (by omega), hp _ j (by omega) (by omega)]
    exact congrArg (fun x => σ x j) (by omega)
  · rw [e0]
    unfold f_copyB
    rw [if_neg (by omega), sp_st_s]
theorem IV.do (h : IV B σ μ i) (hB : B + 20 < 1000000) (hi : i < m_cn μ) (hcn : m_cn μ ≤ 20) : DOK (B + i) (f_exeF σ i) (m_Ei μ i).2 (f_runOn (f_exeF σ i) i) (m_Ei μ (i + 1)).2 (f_xRun (f_exeF σ i) i (nI i)) (m_Ei μ (i + 1)).1 (nI i) := by
  obtain ⟨⟨n, t, pi, ro, hb⟩, hce, -⟩ := h
  have h9 := do_ok (z := nI i) (c := i) hb (by omega) (hce i hi)
  have h1 : m_nn (m_Ei μ i).2 = n := by unfold m_nn; rw [hb.1.1, tn_nI (by have := hb.n30; omega)]
  have h2 : m_tt (m_Ei μ i).2 = t := by unfold m_tt; rw [hb.1.2.2.1, tn_nI (by have := hb.t6; omega)]
  rw [m_Ei_s2, ← m_Ei_s1, h1, h2]
  exact h9
theorem IV.more (h : IV B σ μ i) (hi : i < m_cn μ) (hcn : m_cn μ ≤ 20) : ¬ f_exeF σ i 433 2 ≤ nI i := by
  rw [h.2.2.2.2.2.1]
  exact Int32.not_le.mpr (nI_lt hi (by omega))
theorem IV.next (h : IV B σ μ i) (hB : B + 20 < 1000000) (hi : i < m_cn μ) (hcn : m_cn μ ≤ 20) (hv : (m_Ei μ (i + 1)).1 = 0) : IV B σ μ (i + 1) := by
  have hd := h.do hB hi hcn
  have hm := h.more hi hcn
  obtain ⟨a, hce, f1, f2, f3, f4, m1, m2, m3, x1, x2⟩ := h
  obtain ⟨d0, d⟩ := hd
  rcases d with ⟨-, d2, d3, d4, d5⟩ | ⟨d1, -⟩ | ⟨d1, -⟩
  · have e1 : f_runOn (f_exeF σ i) i = f_exeF σ (i + 1) := exe_s hm
    rw [e1] at d3 d4
    refine ⟨d3, fun c hc9 => (hce c hc9).congr (fun j => d4 _ j (by omega)) (fun j hj => ?_), fun k j q1 q2 q3 q4 q5 => by rw [d4 k j q1]; exact f1 k j q1 q2 q3 q4 q5, fun k j hk => by rw [d4 _ j (by omega)]; exact f2 k j hk, by rw [d4 434 1 (by decide)]; exact f3, by rw [d4 433 2 (by decide)]; exact f4, fun j hj => by rw [d0 j hj]; exact m1 j hj, fun j q1 q2 => by rw [d5 j q1 q2]; exact m2 j q1 q2, hv, ?_, ?_⟩
    · rw [m_Ei_s2]
      exact MF_do _ _ _ _ 4 _ (by unfold mfx; omega)
    · refine fstI_succ_no x1 ?_
      unfold P_exe f_xStep
      rw [if_neg hm, d2]; rfl
    · exact m_Ep_s x2 m3
  · rw [hv] at d1; rcases d1 with d1 | d1 <;> exact absurd d1 (by decide)
  · rw [hv] at d1; exact absurd d1 (by decide)
/-- all done, or one refused -/
theorem IV.all (h0 : IV B σ μ 0) (hB : B + 20 < 1000000) (hcn : m_cn μ ≤ 20) : ∀ i : Nat, i ≤ m_cn μ → IV B σ μ i ∨ ∃ k, k < i ∧ IV B σ μ k ∧ (m_Ei μ (k + 1)).1 ≠ 0
  | 0, _ => Or.inl h0
  | i + 1, hi => by
    rcases IV.all h0 hB hcn i (by omega) with h | ⟨k, hk, h, e⟩
    · by_cases q : (m_Ei μ (i + 1)).1 = 0
      · exact Or.inl (h.next hB (by omega) hcn q)
      · exact Or.inr ⟨i, by omega, h, q⟩
    · exact Or.inr ⟨k, by omega, h, e⟩
theorem m_fin_k {y : Int32} {τ : Nat → Nat → Int32} {cm k j : Nat} (h : ¬ (k = 0 ∧ 4 ≤ j ∧ j ≤ 8)) : m_fin y τ i cm k j = τ k j := by
  unfold m_fin
  rw [sp_st_at, if_neg (by omega)]
  split
  · rw [sp_st_at, if_neg (by omega), sp_st_at, if_neg (by omega), sp_st_at, if_neg (by omega), sp_st_at, if_neg (by omega)]
  · rfl
theorem m_Ei_k {k j : Nat} (h : k ≠ 1) (h2 : ¬ (k = 0 ∧ ((4 ≤ j ∧ j ≤ 7) ∨ (12 ≤ j ∧ j ≤ 14) ∨ j = 17))) (h4 : k ≠ 4) : (m_Ei μ i).2 k j = μ k j := by
  rw [MF_Ei μ i k j (by unfold mfx; omega), sp_st_at, if_neg (by omega), PF_parse μ k j (by unfold pfx; omega)]
theorem ch_exe (h : RR B σ pm rc μ) (hch : μ 0 2 = nI ch) (hc : ch ≤ 8) (hB : B + 20 < 1000000) : m_exec μ ch 0 0 = kC [eIAE, eISE, eUOE] (f_xExe σ) ∧ (f_xExe σ = none → f_exeF σ 20 433 2 = m_execV μ ∧ RR (B + 20) (f_push (f_exeF σ 20) pm 9) (pm_push pm) rc (m_exec μ ch)) ∧ ∀ E r, f_xExe σ = some (E, r) → RR B (f_exeX σ) pm (r.or rc) (m_exec μ ch) := by
  have hall := h
  obtain ⟨a, ⟨⟨ch2, c1, c2, c3, c4⟩, p1, p2⟩, ⟨s1, s2⟩, hj, ho, hi9, he, hh⟩ := h
  obtain ⟨hpe, hpf, hp13⟩ := par_ok hi9 hh
  unfold m_exec m_execV
  rcases hpe with ⟨v1, v2, v3⟩ | ⟨v1, v2, v3, v4, v5⟩
  · rw [if_pos v2, if_pos v2]
    have hx : f_xExe σ = some (eIAE, none) := by unfold f_xExe; rw [if_neg v1]
    have hX : f_exeX σ = sp_st (sp_st (f_parse σ) 434 1 0) 429 9 (f_parseV σ) := by unfold f_exeX; rw [if_neg v1]
    rw [hx, hX]
    refine ⟨(sp_st_s _ _ _ _).trans kC_1.symm, fun z => by (cases z), fun E r z => ?_⟩
    cases z
    have hm : ∀ k j, k ≠ 4 → ¬ (k = 0 ∧ (j = 0 ∨ j = 12 ∨ j = 13 ∨ j = 14 ∨ j = 15 ∨ j = 17)) → sp_st (sp_st (sp_st (m_parse μ) 0 12 0) 0 15 (m_parse μ 0 14)) 0 0 1 k j = μ k j := fun k j q1 q2 => by
      rw [sp_st_at, if_neg (by omega), sp_st_at, if_neg (by omega), sp_st_at, if_neg (by omega), PF_parse μ k j (by unfold pfx; omega)]
    exact hall.cut (by omega) (fun k j q1 q2 q3 q4 q5 => by rw [sp_st_at, if_neg q5, sp_st_at, if_neg q4]; exact hpf k j q2 q3) (by rw [sp_st_k _ _ _ _ _ _ (by decide), sp_st_s]) (fun j _ => hm 1 j (by decide) (by omega)) (hm 0 2 (by decide) (by decide)) (hm 0 3 (by decide) (by decide)) (hm 0 10 (by decide) (by decide)) (fun j => hm 2 j (by decide) (by omega)) (by rw [sp_st_j _ _ _ _ _ _ (by decide), sp_st_j _ _ _ _ _ _ (by decide), sp_st_s]) (hj.congr (fun j q1 q2 => hm 0 j (by decide) (by omega))) (by rw [sp_st_j _ _ _ _ _ _ (by decide), sp_st_s, sp_st_s, v3]) (by rw [sp_st_j _ _ _ _ _ _ (by decide), sp_st_j _ _ _ _ _ _ (by decide), sp_st_j _ _ _ _ _ _ (by decide)]; exact hp13)
  · rw [if_neg v2, if_neg v2]
    have h0 := IV.start a (by omega) hpf v4 v5 v3
    rcases IV.all h0 hB v3 (m_cn μ) (Nat.le_refl _) with hI | ⟨k, hk, hI, hne⟩
    · obtain ⟨b, hce, f1, f2, f3, f4, m1, m2, m3, x1, x2⟩ := hI
      have e20 : f_exeF σ (m_cn μ) = f_exeF σ 20 := exe_stay (by rw [f4]; exact Int32.le_refl _) v3
      have hx : f_xExe σ = none := by
        unfold f_xExe
        rw [if_pos v1, exe_none x1 (by rw [f4]; exact Int32.le_refl _) v3]
        rfl
      have hEd : m_Ed μ = m_cn μ := m_Ed_eq rfl x2 (Or.inl rfl)
      rw [hx, hEd, m3, ← e20]
      have hend : ∀ x, m_ends x ch 0 2 2 3 = m_done (sp_st x 0 0 0) ch := fun x => by unfold m_ends; rw [show m_endv 0 2 2 3 = 0 by decide, if_pos rfl]
      have hfk : ∀ x j, ¬ (x = 0 ∧ 4 ≤ j ∧ j ≤ 8) → m_fin 0 (m_Ei μ (m_cn μ)).2 (m_cn μ) (m_cn μ) x j = (m_Ei μ (m_cn μ)).2 x j := fun x j q => m_fin_k q
      have hf5 : ∀ j, 5 ≤ j → j ≤ 8 → m_fin 0 (m_Ei μ (m_cn μ)).2 (m_cn μ) (m_cn μ) 0 j = μ 0 j := fun j q1 q2 => by
        unfold m_fin
        rw [sp_st_j _ _ _ _ _ _ (by omega), if_neg (by decide)]; exact m2 j q1 q2
      have h7 := p1 7 (by decide)
      refine ⟨by rw [m_ends_0 hc]; rfl, fun _ => ⟨?_, ?_⟩, fun E r z => by (cases z)⟩
      · unfold m_endr
        rw [if_pos (by decide), f4]
        unfold m_fin
        exact (sp_st_s _ _ _ _).symm
      · rw [hend]
        have b2 : BE (f_push (f_exeF σ (m_cn μ)) pm 9) (m_fin 0 (m_Ei μ (m_cn μ)).2 (m_cn μ) (m_cn μ) 1) (B + 20) := b.congr (fun k j hk => push_0 h7.1 hk) (fun j _ => hfk 1 j (by omega)) (by omega) hB
        refine RR.done hall hch hc (by omega) hB b2 (fun j hj9 => by rw [hfk 0 j (by omega), m_Ei_k (by decide) (by omega) (by decide)]) (fun j hj9 => by rw [hfk 1 j (by omega)]; exact m1 j hj9) (by rw [push_c, f1 431 1 (by decide) (by decide) (by decide) (by decide) (by decide)]) (fun k j hk9 => by rw [push_old h7.2 hk9]; exact f2 k j hk9) (fun b k j hb1 hb2 hb3 hk9 => by rw [push_keep hb3 (by omega) hk9, f1 _ j (by omega) (by omega) (by omega) (by omega) (by omega)]) (by rw [push_k h7.2 (by decide) (by decide), f1 429 5 (by decide) (by decide) (by decide) (by decide) (by decide)]) (hj.congr hf5) (ho.congr (by rw [hfk 0 10 (by decide), m_Ei_k (by decide) (by decide) (by decide)]) (fun j => by rw [hfk 2 j (by omega), m_Ei_k (by decide) (by omega) (by decide)]) (by rw [push_k h7.2 (by decide) (by decide), f1 436 1 (by decide) (by decide) (by decide) (by decide) (by decide)]) (fun j => by rw [push_k h7.2 (by decide) (by omega), f1 437 j (by decide) (by decide) (by decide) (by decide) (by omega)])) ⟨0, by decide, ?_, by rw [push_k h7.2 (by decide) (by decide)]; exact f3, fun j hj9 => absurd hj9 (by omega)⟩ ?_ ?_
        · rw [hfk 0 12 (by decide), MF_Ei μ _ 0 12 (by unfold mfx; omega), sp_st_s]; rfl
        · rw [hfk 0 15 (by decide), m_Ei_k (by decide) (by decide) (by decide), push_k h7.2 (by decide) (by decide), f1 429 9 (by decide) (by decide) (by decide) (by decide) (by decide)]; exact he
        · rw [hfk 0 13 (by decide), MF_Ei μ _ 0 13 (by unfold mfx; omega), sp_st_j _ _ _ _ _ _ (by decide)]; exact hp13
    · have hd := hI.do hB hk v3
      have hm := hI.more hk v3
      obtain ⟨b, hce, f1, f2, f3, f4, m1, m2, m3, x1, x2⟩ := hI
      have hEd : m_Ed μ = k + 1 := m_Ed_eq rfl (m_Ep_s x2 m3) (by
        rcases Nat.lt_or_ge (k + 1) (m_cn μ) with q | q
        · exact Or.inr ⟨q, hne⟩
        · exact Or.inl (by omega))
      rw [hEd]
      generalize hv : (m_Ei μ (k + 1)).1 = v at hd hne ⊢
      have hmk : ∀ x j, ¬ (x = 0 ∧ 4 ≤ j ∧ j ≤ 8) → m_fin v (m_Ei μ (k + 1)).2 (k + 1) (m_cn μ) x j = (m_Ei μ (k + 1)).2 x j := fun x j q => m_fin_k q
      have key : ∀ (E : String) (r : Option RC) (v' : Int32), f_xRun (f_exeF σ k) k (nI k) = some (E, r) → m_endv v 2 2 3 = v' → v' ≠ 0 → RJ (r.or rc) (m_fin v (m_Ei μ (k + 1)).2 (k + 1) (m_cn μ)) → kC [eIAE, eISE, eUOE] (some (E, r)) = v' → m_ends (m_fin v (m_Ei μ (k + 1)).2 (k + 1) (m_cn μ)) ch v 2 2 3 0 0 = kC [eIAE, eISE, eUOE] (f_xExe σ) ∧ (f_xExe σ = none → f_exeF σ 20 433 2 = m_endr (m_fin v (m_Ei μ (k + 1)).2 (k + 1) (m_cn μ)) v 2 2 3 ∧ RR (B + 20) (f_push (f_exeF σ 20) pm 9) (pm_push pm) rc (m_ends (m_fin v (m_Ei μ (k + 1)).2 (k + 1) (m_cn μ)) ch v 2 2 3)) ∧ ∀ E r, f_xExe σ = some (E, r) → RR B (f_exeX σ) pm (r.or rc) (m_ends (m_fin v (m_Ei μ (k + 1)).2 (k + 1) (m_cn μ)) ch v 2 2 3) := fun E r v' hx hv' hn hrj hkc => by
        obtain ⟨X1, X2⟩ := exe_x v1 x1 (by omega) hm hx
        rw [X1, X2]
        refine ⟨by rw [m_ends_0 hc, hv', hkc], fun z => by (cases z), fun E9 r9 z => ?_⟩
        cases z
        unfold m_ends
        rw [hv', if_neg hn]
        have hk9 : ∀ x j, x ≠ 1 → ¬ (x = 0 ∧ j = 0) → m_copy (sp_st (m_fin v (m_Ei μ (k + 1)).2 (k + 1) (m_cn μ)) 0 0 v') 10 0 x j = m_fin v (m_Ei μ (k + 1)).2 (k + 1) (m_cn μ) x j := fun x j q1 q2 => by rw [m_copy_k q1, sp_st_at, if_neg (by omega)]
        refine hall.cut (by omega) (fun x j q1 q2 q3 q4 q5 => ?_) ?_ (fun j hj9 => ?_) ?_ ?_ ?_ (fun j => ?_) ?_ (hrj.congr (fun j q1 q2 => hk9 0 j (by decide) (by omega))) ?_ ?_
        · unfold f_copyB
          by_cases q : x < 39
          · rw [if_pos (by omega)]
            have := f2 x j q
            rw [← this]
            exact congrArg (fun y => f_exeF σ k y j) (by omega)
          · rw [if_neg (by omega)]; exact f1 x j (by omega) (by omega) q2 q3 q4
        · unfold f_copyB
          rw [if_neg (by omega)]; exact f3
        · by_cases q : j < 289
          · rw [m_copy_at (by omega), sp_st_k _ _ _ _ _ _ (by decide), hmk 1 _ (by omega), hd.1 _ (by omega), m1 _ (by omega), m_copy_at (by omega)]
            exact congrArg _ (by omega)
          · rw [m_copy_hi (by omega), sp_st_k _ _ _ _ _ _ (by decide), hmk 1 j (by omega), hd.1 j (by omega), m1 j (by omega), m_copy1 (by omega)]
        · rw [hk9 0 2 (by decide) (by decide), hmk 0 2 (by decide), m_Ei_k (by decide) (by decide) (by decide)]
        · rw [hk9 0 3 (by decide) (by decide), hmk 0 3 (by decide), m_Ei_k (by decide) (by decide) (by decide)]
        · rw [hk9 0 10 (by decide) (by decide), hmk 0 10 (by decide), m_Ei_k (by decide) (by decide) (by decide)]
        · rw [hk9 2 j (by decide) (by omega), hmk 2 j (by omega), m_Ei_k (by decide) (by omega) (by decide)]
        · rw [hk9 0 12 (by decide) (by decide), hmk 0 12 (by decide), MF_Ei μ _ 0 12 (by unfold mfx; omega), sp_st_s]
        · rw [hk9 0 15 (by decide) (by decide), hmk 0 15 (by decide), m_Ei_k (by decide) (by decide) (by decide)]
          unfold f_copyB
          rw [if_neg (by omega), f1 429 9 (by decide) (by decide) (by decide) (by decide) (by decide)]; exact he
        · rw [hk9 0 13 (by decide) (by decide), hmk 0 13 (by decide), MF_Ei μ _ 0 13 (by unfold mfx; omega), sp_st_j _ _ _ _ _ _ (by decide)]; exact hp13
      obtain ⟨d0, d⟩ := hd
      rcases d with ⟨d1, -⟩ | ⟨d1, d2, d3⟩ | ⟨d1, y1, y2, hy, d3, d4, d5⟩
      · exact absurd d1 hne
      · have h3 : v ≠ 3 := by rcases d1 with rfl | rfl <;> decide
        refine key eISE none 2 d2 ?_ (by decide) ?_ (kC_2 ne_SA)
        · rcases d1 with rfl | rfl <;> decide
        · refine hj.congr fun j q1 q2 => ?_
          unfold m_fin
          rw [if_neg h3, sp_st_j _ _ _ _ _ _ (by omega), d3 j q1 q2, m2 j q1 q2]
      · subst d1
        refine key eUOE (some (10, nI k, some (y1, y2))) 3 d3 (by decide) (by decide) ?_ (kC_3 ne_UA ne_US)
        show m_fin 3 (m_Ei μ (k + 1)).2 (k + 1) (m_cn μ) 0 5 = 10 ∧ (10 : Int32) ≠ 0 ∧ m_fin 3 (m_Ei μ (k + 1)).2 (k + 1) (m_cn μ) 0 6 = nI k ∧ m_fin 3 (m_Ei μ (k + 1)).2 (k + 1) (m_cn μ) 0 7 = y1 ∧ y1 ≠ 0 ∧ m_fin 3 (m_Ei μ (k + 1)).2 (k + 1) (m_cn μ) 0 8 = y2
        unfold m_fin
        rw [if_pos rfl]
        refine ⟨?_, by decide, ?_, ?_, hy, ?_⟩
        · rw [sp_st_j _ _ _ _ _ _ (by decide), sp_st_j _ _ _ _ _ _ (by decide), sp_st_s]
        · rw [sp_st_j _ _ _ _ _ _ (by decide), sp_st_s]
          exact nI_subE (a := k + 1) (b := 1) rfl rfl (by omega)
        · rw [sp_st_j _ _ _ _ _ _ (by decide), sp_st_j _ _ _ _ _ _ (by decide), sp_st_j _ _ _ _ _ _ (by decide), sp_st_j _ _ _ _ _ _ (by decide), sp_st_s, d4]
        · rw [sp_st_j _ _ _ _ _ _ (by decide), sp_st_j _ _ _ _ _ _ (by decide), sp_st_j _ _ _ _ _ _ (by decide), sp_st_s, d5]
end EXE
