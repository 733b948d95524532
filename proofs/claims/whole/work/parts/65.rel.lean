/-! PARSING: each command -/
section PAC
variable {σ μ τ ρ : Nat → Nat → Int32} {i F : Nat}
theorem rdNum_0 {d f : Nat} {v : Int32} (hf : f ≠ 0) : sp_st (f_rdNum τ d) (439 + i) f v (439 + i) 0 = τ (439 + i) 0 := by
  unfold f_rdNum
  rw [sp_st_j _ _ _ _ _ _ (Ne.symm hf), sp_st_k _ _ _ _ _ _ (by omega), sp_st_k _ _ _ _ _ _ (by omega)]
theorem rdSign_0 {x : Int32} : f_rdSign τ x (439 + i) 0 = τ (439 + i) 0 := by
  unfold f_rdSign
  split
  · rw [sp_st_k _ _ _ _ _ _ (by omega), sp_st_k _ _ _ _ _ _ (by omega)]
  · rw [sp_st_k _ _ _ _ _ _ (by omega), sp_st_k _ _ _ _ _ _ (by omega)]
theorem rdPart_0 {x : Int32} : f_rdPart τ x i (439 + i) 0 = τ (439 + i) 0 := by
  unfold f_rdPart
  split
  · exact rdNum_0 (by decide)
  · split
    · exact rdNum_0 (by decide)
    · split
      · split
        · rw [rdSign_0, sp_st_j _ _ _ _ _ _ (by decide)]
        · rw [rdSign_0, sp_st_j _ _ _ _ _ _ (by decide)]
      · split
        · exact rdNum_0 (by decide)
        · split
          · exact rdNum_0 (by decide)
          · split
            · exact rdNum_0 (by decide)
            · exact rdSign_0
theorem let0 {K : Int32} : ∀ j : Nat, foldI (S_cmd F i) (c_st σ i K) j (439 + i) 0 = K
  | 0 => by
    show c_st σ i K (439 + i) 0 = K
    unfold c_st
    rw [sp_st_k _ _ _ _ _ _ (by omega), sp_st_k _ _ _ _ _ _ (by omega), sp_st_s]
  | j + 1 => by
    rw [foldI_succ]
    unfold S_cmd
    split
    · rw [rdPart_0]; exact let0 j
    · exact let0 j
theorem CE.mk {K : Int32} (h0 : τ (439 + i) 0 = K) (h1 : τ (439 + i) 0 = ρ 4 (7 * i + 0)) (h : ((K = 84 ∨ K = 87) ∧ τ (439 + i) 6 = ρ 4 (7 * i + 1)) ∨ (K = 80 ∧ τ (439 + i) 1 = ρ 4 (7 * i + 1) ∧ τ (439 + i) 2 = ρ 4 (7 * i + 2) ∧ τ (439 + i) 3 = ρ 4 (7 * i + 3) ∧ τ (439 + i) 4 = ρ 4 (7 * i + 4) ∧ τ (439 + i) 5 = ρ 4 (7 * i + 5) ∧ τ (439 + i) 6 = ρ 4 (7 * i + 6) ∧ (ρ 4 (7 * i + 5) = 0 ∨ ρ 4 (7 * i + 5) = 1)) ∨ (K = 72 ∧ τ (439 + i) 1 = ρ 4 (7 * i + 1) ∧ τ (439 + i) 3 = ρ 4 (7 * i + 2) ∧ τ (439 + i) 4 = ρ 4 (7 * i + 3)) ∨ ((K = 70 ∨ K = 68 ∨ K = 67 ∨ K = 88) ∧ τ (439 + i) 1 = ρ 4 (7 * i + 1))) : CE τ ρ i :=
  ⟨K, h0, h1.symm.trans h0, h⟩
theorem nums_4 {d j : Nat} : m_nums ρ d 4 j = ρ 4 j := by
  unfold m_nums
  split
  · rfl
  · split
    · exact sp_st_k _ _ _ _ _ _ (by decide)
    · exact sp_st_k _ _ _ _ _ _ (by decide)
theorem ft_01 {a b d : Nat} (h : a ≠ b) : m_sn (m_sf ρ a) b d 4 a = 0 ∨ m_sn (m_sf ρ a) b d 4 a = 1 := by
  unfold m_sn
  rw [sp_st_j _ _ _ _ _ _ h, nums_4]
  unfold m_sf
  rw [sp_st_s]
  unfold m_ftv
  split
  · exact Or.inl rfl
  · split
    · exact Or.inr rfl
    · exact Or.inl rfl
theorem cq_1 (hp : PT σ μ) (ho : OKs σ μ) {K : Int32} (hK : m_sign μ = K) (h : K = 84 ∨ K = 87) : CO i σ μ (f_rdCmd σ i) (m_cmd μ i) := by
  have hK1 : K ≠ -1 := by rcases h with rfl | rfl <;> decide
  have hc := hp.sign.val (by rw [hK]; exact hK1)
  have hF : f_parts K = 0 := by rcases h with rfl | rfl <;> decide
  rw [rdCmd_F (hc.trans hK) hF (by decide), m_cmd_K hK (by rcases h with rfl | rfl <;> decide), if_pos h]
  have hk : ∀ x, m_cmdK K x i = x := fun x => by unfold m_cmdK; rcases h with rfl | rfl <;> rfl
  rw [hk]
  have s0 : CS i [(0, 0)] (tn (μ 0 13) + 1) σ μ (foldI (S_cmd 0 i) (c_st σ i K) 0) (r_st μ i K) := CS.start hp ho hK hK1
  have s1 := s0.num (a := 1) (fun ς => rd_d (by decide)) (by decide) (by decide) (by decide)
  exact CO.of s1 (Nat.le_refl _) fun _ hL => CE.mk (let0 _) (hL (0, 0) (by decide)) (Or.inl ⟨h, hL (6, 1) (by decide)⟩)
theorem cq_3 (hp : PT σ μ) (ho : OKs σ μ) {K : Int32} (hK : m_sign μ = K) (h : K = 70 ∨ K = 68 ∨ K = 67 ∨ K = 88) : CO i σ μ (f_rdCmd σ i) (m_cmd μ i) := by
  have hK1 : K ≠ -1 := by rcases h with rfl | rfl | rfl | rfl <;> decide
  have hc := hp.sign.val (by rw [hK]; exact hK1)
  have hF : f_parts K = 3 := by rcases h with rfl | rfl | rfl | rfl <;> decide
  rw [rdCmd_F (hc.trans hK) hF (by decide), m_cmd_K hK (by rcases h with rfl | rfl | rfl | rfl <;> decide), if_neg (by rcases h with rfl | rfl | rfl | rfl <;> decide)]
  have hk : ∀ x, m_cmdK K x i = x := fun x => by unfold m_cmdK; rcases h with rfl | rfl | rfl | rfl <;> rfl
  rw [hk]
  have s0 : CS i [(0, 0)] (tn (μ 0 13) + 1) σ μ (foldI (S_cmd 3 i) (c_st σ i K) 0) (r_st μ i K) := CS.start hp ho hK hK1
  have s1 := s0.num (a := 1) (fun ς => rd_i (by decide)) (by decide) (by decide) (by decide)
  exact CO.of s1 (Nat.le_refl _) fun _ hL => CE.mk (let0 _) (hL (0, 0) (by decide)) (Or.inr (Or.inr (Or.inr ⟨h, hL (1, 1) (by decide)⟩)))
theorem cq_H (hp : PT σ μ) (ho : OKs σ μ) (hK : m_sign μ = 72) : CO i σ μ (f_rdCmd σ i) (m_cmd μ i) := by
  have hc := hp.sign.val (by rw [hK]; decide)
  rw [rdCmd_F (hc.trans hK) (F := 2) (by decide) (by decide), m_cmd_K hK (by decide), if_neg (by decide)]
  have hk : ∀ x, m_cmdK 72 x i = m_sn (m_needs (m_sn (m_needs x 58) (7 * i + 2) 3) 44) (7 * i + 3) 3 := fun x => by unfold m_cmdK; rw [if_pos rfl]; rfl
  rw [hk]
  have s0 : CS i [(0, 0)] (tn (μ 0 13) + 1) σ μ (foldI (S_cmd 2 i) (c_st σ i 72) 0) (r_st μ i 72) := CS.start hp ho hK (by decide)
  have s1 := s0.num (a := 1) (fun ς => rd_i (by decide)) (by decide) (by decide) (by decide)
  have s2 := s1.sg1 (x := 58) (fun ς => rd_x (by decide) (by decide)) (by decide) (by decide)
  have s3 := s2.num (a := 2) (fun ς => rd_r (by decide)) (by decide) (by decide) (by decide)
  have s4 := s3.sg1 (x := 44) (fun ς => rd_x (by decide) (by decide)) (by decide) (by decide)
  have s5 := s4.num (a := 3) (fun ς => rd_c (by decide)) (by decide) (by decide) (by decide)
  exact CO.of s5 (by omega) fun _ hL => CE.mk (let0 _) (hL (0, 0) (by decide)) (Or.inr (Or.inr (Or.inl ⟨rfl, hL (1, 1) (by decide), hL (3, 2) (by decide), hL (4, 3) (by decide)⟩)))
theorem cq_P (hp : PT σ μ) (ho : OKs σ μ) (hK : m_sign μ = 80) : CO i σ μ (f_rdCmd σ i) (m_cmd μ i) := by
  have hc := hp.sign.val (by rw [hK]; decide)
  rw [rdCmd_F (hc.trans hK) (F := 1) (by decide) (by decide), m_cmd_K hK (by decide), if_neg (by decide)]
  have hk : ∀ x, m_cmdK 80 x i = m_sn (m_sf (m_sn (m_needs (m_sn (m_needs (m_sn (m_needs x 64) (7 * i + 2) 3) 58) (7 * i + 3) 3) 44) (7 * i + 4) 3) (7 * i + 5)) (7 * i + 6) 1 := fun x => by unfold m_cmdK; rw [if_neg (by decide), if_pos rfl]; rfl
  rw [hk]
  have s0 : CS i [(0, 0)] (tn (μ 0 13) + 1) σ μ (foldI (S_cmd 1 i) (c_st σ i 80) 0) (r_st μ i 80) := CS.start hp ho hK (by decide)
  have s1 := s0.num (a := 1) (fun ς => rd_i (by decide)) (by decide) (by decide) (by decide)
  have s2 := s1.sg1 (x := 64) (fun ς => rd_x (by decide) (by decide)) (by decide) (by decide)
  have s3 := s2.num (a := 2) (fun ς => rd_t (by decide)) (by decide) (by decide) (by decide)
  have s4 := s3.sg1 (x := 58) (fun ς => rd_x (by decide) (by decide)) (by decide) (by decide)
  have s5 := s4.num (a := 3) (fun ς => rd_r (by decide)) (by decide) (by decide) (by decide)
  have s6 := s5.sg1 (x := 44) (fun ς => rd_x (by decide) (by decide)) (by decide) (by decide)
  have s7 := s6.num (a := 4) (fun ς => rd_c (by decide)) (by decide) (by decide) (by decide)
  have s8 := s7.foot (by decide) (by decide)
  have s9 := s8.num (a := 6) (fun ς => rd_d (by decide)) (by decide) (by decide) (by decide)
  exact CO.of s9 (by omega) fun _ hL => CE.mk (let0 _) (hL (0, 0) (by decide)) (Or.inr (Or.inl ⟨rfl, hL (1, 1) (by decide), hL (2, 2) (by decide), hL (3, 3) (by decide), hL (4, 4) (by decide), hL (5, 5) (by decide), hL (6, 6) (by decide), ft_01 (by omega)⟩))
/-- each command, read well or not -/
def CF (i : Nat) (σ μ τ ρ : Nat → Nat → Int32) : Prop := PT τ ρ ∧ ((OKs τ ρ ∧ tn (μ 0 13) + 2 ≤ tn (ρ 0 13) ∧ CE τ ρ i) ∨ ERs τ ρ) ∧ (∀ k j, k ≠ 439 + i → ¬ (k = 433 ∧ (j = 3 ∨ j = 4)) → τ k j = σ k j) ∧ (∀ k j, ¬ (k = 0 ∧ (j = 13 ∨ j = 14 ∨ j = 17)) → ¬ (k = 4 ∧ 7 * i ≤ j ∧ j < 7 * i + 7) → ρ k j = μ k j)
theorem CO.fin (h : CO i σ μ τ ρ) : CF i σ μ τ ρ := by
  obtain ⟨L, w, hw, ⟨h1, h2, h3, h4⟩, h5⟩ := h
  refine ⟨h1, ?_, h3, h4⟩
  rcases h2 with ⟨z1, z2, -⟩ | z
  · exact Or.inl ⟨z1, by omega, h5 z1⟩
  · exact Or.inr z
theorem cmd_ok (hp : PT σ μ) (ho : OKs σ μ) (i : Nat) : CF i σ μ (f_rdCmd σ i) (m_cmd μ i) := by
  by_cases q : m_sign μ = 84 ∨ m_sign μ = 80 ∨ m_sign μ = 72 ∨ m_sign μ = 70 ∨ m_sign μ = 68 ∨ m_sign μ = 67 ∨ m_sign μ = 88 ∨ m_sign μ = 87
  · refine CO.fin ?_
    rcases q with q | q | q | q | q | q | q | q
    · exact cq_1 hp ho q (by decide)
    · exact cq_P hp ho q
    · exact cq_H hp ho q
    · exact cq_3 hp ho q (by decide)
    · exact cq_3 hp ho q (by decide)
    · exact cq_3 hp ho q (by decide)
    · exact cq_3 hp ho q (by decide)
    · exact cq_1 hp ho q (by decide)
  · obtain ⟨⟨h1, h2, h3, h4⟩, h5⟩ := cmd_bad (i := i) hp ho q
    exact ⟨h1, Or.inr h5, h3, h4⟩
/-! all commands -/
def m_pb (μ : Nat → Nat → Int32) : Nat → Nat → Nat → Int32
  | 0 => sp_st (sp_st (sp_st μ 0 13 0) 0 14 (-1)) 0 17 0
  | i + 1 => sp_st (m_pl μ i) 0 13 (m_pl μ i 0 13 + 1)
theorem m_pl_pb (μ : Nat → Nat → Int32) : ∀ i : Nat, m_pl μ i = m_cmd (m_pb μ i) i
  | 0 => rfl
  | _ + 1 => rfl
def PV (i : Nat) (σ μ τ : Nat → Nat → Int32) : Prop := PT τ (m_pb μ i) ∧ OKs τ (m_pb μ i) ∧ τ 433 2 = nI i ∧ 3 * i ≤ tn (m_pb μ i 0 13) ∧ (∀ c, c < i → CE τ (m_pb μ i) c) ∧ ∀ k j, k ≠ 433 → ¬ (439 ≤ k ∧ k < 459) → τ k j = σ k j
theorem PV.start (h : RI σ μ) : PV 0 σ μ (f_par0 σ) := by
  have h1 : ∀ k j, k ≠ 433 → f_par0 σ k j = σ k j := fun k j q => by
    unfold f_par0; rw [sp_st_k _ _ _ _ _ _ q, sp_st_k _ _ _ _ _ _ q, sp_st_k _ _ _ _ _ _ q]
  have h2 : ∀ k j, ¬ (k = 0 ∧ (j = 13 ∨ j = 14 ∨ j = 17)) → m_pb μ 0 k j = μ k j := fun k j q => by
    show sp_st (sp_st (sp_st μ 0 13 0) 0 14 (-1)) 0 17 0 k j = μ k j
    rw [sp_st_at, if_neg (by omega), sp_st_at, if_neg (by omega), sp_st_at, if_neg (by omega)]
  have h3 : m_pb μ 0 0 13 = 0 := by
    show sp_st (sp_st (sp_st μ 0 13 0) 0 14 (-1)) 0 17 0 0 13 = 0
    rw [sp_st_j _ _ _ _ _ _ (by decide), sp_st_j _ _ _ _ _ _ (by decide), sp_st_s]
  have h4 : m_pb μ 0 0 14 = -1 := by
    show sp_st (sp_st (sp_st μ 0 13 0) 0 14 (-1)) 0 17 0 0 14 = -1
    rw [sp_st_j _ _ _ _ _ _ (by decide), sp_st_s]
  refine ⟨⟨h.congr (h2 0 12 (by decide)) (fun j => h2 3 j (by omega)) (h1 434 1 (by decide)) (fun j => h1 435 j (by decide)), ?_, by rw [h3]; decide⟩, ⟨?_, h4⟩, sp_st_s _ _ _ _, Nat.zero_le _, fun c hc => absurd hc (by omega), fun k j q _ => h1 k j q⟩
  · rw [h3]; unfold f_par0
    rw [sp_st_j _ _ _ _ _ _ (by decide), sp_st_j _ _ _ _ _ _ (by decide), sp_st_s]
  · unfold f_par0
    rw [sp_st_j _ _ _ _ _ _ (by decide), sp_st_s]
/-- behind a command: well and going on, or the end -/
theorem PV.step (h : PV i σ μ τ) (hi : i < 20) : PT (f_rdCmd τ i) (m_pl μ i) ∧ f_rdCmd τ i 433 2 = nI i ∧ (∀ k j, k ≠ 433 → ¬ (439 ≤ k ∧ k < 459) → f_rdCmd τ i k j = σ k j) ∧ ((OKs (f_rdCmd τ i) (m_pl μ i) ∧ 3 * i + 2 ≤ tn (m_pl μ i 0 13) ∧ ∀ c, c < i + 1 → CE (f_rdCmd τ i) (m_pl μ i) c) ∨ ERs (f_rdCmd τ i) (m_pl μ i)) := by
  obtain ⟨h1, h2, h3, h4, h5, h6⟩ := h
  rw [m_pl_pb]
  obtain ⟨c1, c2, c3, c4⟩ := cmd_ok h1 h2 i
  refine ⟨c1, by rw [c3 433 2 (by omega) (by omega)]; exact h3, fun k j q1 q2 => by rw [c3 k j (by omega) (by omega)]; exact h6 k j q1 q2, ?_⟩
  rcases c2 with ⟨z1, z2, z3⟩ | z
  · refine Or.inl ⟨z1, by omega, fun c hc => ?_⟩
    by_cases q : c = i
    · subst q; exact z3
    · exact (h5 c (by omega)).congr (fun j => c3 _ j (by omega) (by omega)) (fun j hj => c4 4 _ (by omega) (by omega))
  · exact Or.inr z
end PAC
