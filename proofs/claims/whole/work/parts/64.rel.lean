/-! PARSING: a command, and all of them -/
section PAS
variable {σ μ τ ρ : Nat → Nat → Int32} {i j w d f a F : Nat} {L : List (Nat × Nat)}
theorem CS.st5 (h : CS i L w σ μ τ ρ) (v : Int32) (hL : ∀ p, p ∈ L → p.1 ≠ 5) : CS i L w σ μ (sp_st τ (439 + i) 5 v) ρ := by
  obtain ⟨hp, hs, f1, f2⟩ := h
  have h4 : sp_st τ (439 + i) 5 v 433 4 = τ 433 4 := sp_st_k _ _ _ _ _ _ (by omega)
  refine ⟨⟨hp.1.congr rfl (fun _ => rfl) (sp_st_k _ _ _ _ _ _ (by omega)) (fun j => sp_st_k _ _ _ _ _ _ (by omega)), by rw [sp_st_k _ _ _ _ _ _ (by omega)]; exact hp.2.1, hp.2.2⟩, ?_, fun k j q1 q2 => by rw [sp_st_k _ _ _ _ _ _ q1]; exact f1 k j q1 q2, f2⟩
  rcases hs with ⟨⟨o1, o2⟩, hw, hLv⟩ | ⟨e1, e2⟩
  · exact Or.inl ⟨⟨h4.trans o1, o2⟩, hw, fun p hp9 => by rw [sp_st_j _ _ _ _ _ _ (hL p hp9)]; exact hLv p hp9⟩
  · exact Or.inr ⟨by rw [h4]; exact e1, e2⟩
/-- a field told on both sides -/
theorem CS.tell (h : CS i L w σ μ τ ρ) (ha : a < 7) (hL : ∀ p, p ∈ L → p.2 ≠ a) {v : Int32} (hv : τ 433 4 = 0 → τ (439 + i) f = v) : CS i ((f, a) :: L) w σ μ τ (sp_st ρ 4 (7 * i + a) v) := by
  obtain ⟨hp, hs, f1, f2⟩ := h
  refine ⟨⟨hp.1.congr (sp_st_k _ _ _ _ _ _ (by decide)) (fun j => sp_st_k _ _ _ _ _ _ (by decide)) rfl (fun _ => rfl), by rw [sp_st_k _ _ _ _ _ _ (by decide)]; exact hp.2.1, by rw [sp_st_k _ _ _ _ _ _ (by decide)]; exact hp.2.2⟩, ?_, f1, fun k j q1 q2 => by rw [sp_st_at, if_neg (by omega)]; exact f2 k j q1 q2⟩
  rcases hs with ⟨⟨o1, o2⟩, hw, hLv⟩ | ⟨e1, e2⟩
  · refine Or.inl ⟨⟨o1, by rw [sp_st_k _ _ _ _ _ _ (by decide)]; exact o2⟩, by rw [sp_st_k _ _ _ _ _ _ (by decide)]; exact hw, fun p hp9 => ?_⟩
    rcases List.mem_cons.mp hp9 with z | z
    · rw [z, sp_st_s]; exact hv o1
    · rw [sp_st_j _ _ _ _ _ _ (by have := hL p z; omega)]; exact hLv p z
  · exact Or.inr ⟨e1, by rw [sp_st_k _ _ _ _ _ _ (by decide), sp_st_k _ _ _ _ _ _ (by decide)]; exact e2⟩
theorem rdSign_5 {x : Int32} : f_rdSign τ x (439 + i) 5 = τ (439 + i) 5 := by
  unfold f_rdSign
  split
  · rw [sp_st_k _ _ _ _ _ _ (by omega), sp_st_k _ _ _ _ _ _ (by omega)]
  · rw [sp_st_k _ _ _ _ _ _ (by omega), sp_st_k _ _ _ _ _ _ (by omega)]
theorem m_fts_L (h : m_sign ρ = 76) : m_fts ρ = m_needs ρ 76 := by
  unfold m_fts m_needs
  by_cases q : 0 ≤ ρ 0 14
  · rw [if_pos q, if_pos q]
  · rw [if_neg q, if_neg q, if_pos (Or.inl h), if_pos h]
theorem m_fts_R (h : m_sign ρ ≠ 76) : m_fts ρ = m_needs ρ 82 := by
  unfold m_fts m_needs
  by_cases q : 0 ≤ ρ 0 14
  · rw [if_pos q, if_pos q]
  · rw [if_neg q, if_neg q]
    by_cases q2 : m_sign ρ = 82
    · rw [if_pos (Or.inr q2), if_pos q2]
    · rw [if_neg (fun z => z.elim h q2), if_neg q2]
theorem CS.foot0 (h : CS i L w σ μ τ ρ) (hL : ∀ p, p ∈ L → p.1 ≠ 5 ∧ p.2 ≠ 5) : CS i ((5, 5) :: L) (w + 1) σ μ (if τ 433 4 = 0 then (if f_signI τ (τ 433 3) = 76 then f_rdSign (sp_st τ (439 + i) 5 1) 76 else f_rdSign (sp_st τ (439 + i) 5 0) 82) else τ) (m_sf ρ (7 * i + 5)) := by
  have hp := h.1
  have hsg := hp.sign.eq (x := 76) (by decide) (by decide)
  unfold m_sf
  by_cases q : τ 433 4 = 0
  · have hn : ¬ 0 ≤ ρ 0 14 := by
      rcases h.2.1 with ⟨⟨o1, o2⟩, -⟩ | ⟨e1, e2⟩
      · rw [o2]; decide
      · exact absurd q e1
    rw [if_pos q]
    have h4 : ∀ v, sp_st τ (439 + i) 5 v 433 4 = 0 := fun v => (sp_st_k _ _ _ _ _ _ (by omega)).trans q
    have hv : m_ftv ρ = if m_sign ρ = 76 then 1 else 0 := by unfold m_ftv; rw [if_neg hn]
    by_cases q2 : m_sign ρ = 76
    · rw [if_pos (hsg.mpr q2), hv, if_pos q2, m_fts_L q2]
      have h9 := (h.st5 1 (fun p hp9 => (hL p hp9).1)).sign (x := 76) (by decide) (by decide)
      rw [if_pos (h4 1)] at h9
      exact h9.tell (by decide) (fun p hp9 => (hL p hp9).2) (fun _ => by rw [rdSign_5, sp_st_s])
    · rw [if_neg (fun z => q2 (hsg.mp z)), hv, if_neg q2, m_fts_R q2]
      have h9 := (h.st5 0 (fun p hp9 => (hL p hp9).1)).sign (x := 82) (by decide) (by decide)
      rw [if_pos (h4 0)] at h9
      exact h9.tell (by decide) (fun p hp9 => (hL p hp9).2) (fun _ => by rw [rdSign_5, sp_st_s])
  · rw [if_neg q]
    have hn : 0 ≤ ρ 0 14 := by
      rcases h.2.1 with ⟨⟨o1, o2⟩, -⟩ | e
      · exact absurd o1 q
      · exact ER.n0 hp e
    have hf : m_fts ρ = ρ := by unfold m_fts; rw [if_pos hn]
    rw [hf]
    obtain ⟨hp, hs, f1, f2⟩ := h
    have h9 : CS i L (w + 1) σ μ τ ρ := ⟨hp, Or.inr (hs.elim (fun z => absurd z.1.1 q) id), f1, f2⟩
    exact h9.tell (by decide) (fun p hp9 => (hL p hp9).2) (fun z => absurd z q)
theorem CS.num (h : CS i L w σ μ (foldI (S_cmd F i) τ j) ρ) (hr : ∀ ς, f_rdPart ς (exC F j) i = sp_st (f_rdNum ς d) (439 + i) f (f_rdNumV ς d)) (hd : 1 ≤ d ∧ d ≤ 9) (hL : ∀ p, p ∈ L → p.1 ≠ f ∧ p.2 ≠ a) (ha : a < 7) : CS i ((f, a) :: L) (w + 1) σ μ (foldI (S_cmd F i) τ (j + 1)) (m_sn ρ (7 * i + a) d) := by
  have h9 := h.num0 hd hL ha
  rw [foldI_succ]
  unfold S_cmd at h9 ⊢
  rw [hr]
  exact h9
theorem CS.sg1 (h : CS i L w σ μ (foldI (S_cmd F i) τ j) ρ) {x : Int32} (hr : ∀ ς, f_rdPart ς (exC F j) i = f_rdSign ς x) (hx0 : x ≠ 0) (hx1 : x ≠ -1) : CS i L (w + 1) σ μ (foldI (S_cmd F i) τ (j + 1)) (m_needs ρ x) := by
  have h9 := h.sign hx0 hx1
  rw [foldI_succ]
  unfold S_cmd at h9 ⊢
  rw [hr]
  exact h9
theorem rd_c {x : Int32} (h : x = 99) : f_rdPart τ x i = sp_st (f_rdNum τ 3) (439 + i) 4 (f_rdNumV τ 3) := by subst h; rfl
theorem rd_d {x : Int32} (h : x = 100) : f_rdPart τ x i = sp_st (f_rdNum τ 1) (439 + i) 6 (f_rdNumV τ 1) := by subst h; rfl
theorem rd_i {x : Int32} (h : x = 105) : f_rdPart τ x i = sp_st (f_rdNum τ 3) (439 + i) 1 (f_rdNumV τ 3) := by subst h; rfl
theorem rd_r {x : Int32} (h : x = 114) : f_rdPart τ x i = sp_st (f_rdNum τ 3) (439 + i) 3 (f_rdNumV τ 3) := by subst h; rfl
theorem rd_t {x : Int32} (h : x = 116) : f_rdPart τ x i = sp_st (f_rdNum τ 3) (439 + i) 2 (f_rdNumV τ 3) := by subst h; rfl
theorem rd_x {x y : Int32} (h : x = y) (hy : y = 64 ∨ y = 58 ∨ y = 44) : f_rdPart τ x i = f_rdSign τ y := by
  subst h
  rcases hy with rfl | rfl | rfl <;> rfl
theorem rd_f {x : Int32} (h : x = 102) : f_rdPart τ x i = (if f_signI τ (τ 433 3) = 76 then f_rdSign (sp_st τ (439 + i) 5 1) 76 else f_rdSign (sp_st τ (439 + i) 5 0) 82) := by
  subst h
  unfold f_rdPart
  rw [if_neg (by decide), if_neg (by decide), if_pos rfl]
theorem CS.foot (h : CS i L w σ μ (foldI (S_cmd F i) τ j) ρ) (hr : exC F j = 102) (hL : ∀ p, p ∈ L → p.1 ≠ 5 ∧ p.2 ≠ 5) : CS i ((5, 5) :: L) (w + 1) σ μ (foldI (S_cmd F i) τ (j + 1)) (m_sf ρ (7 * i + 5)) := by
  have h9 := h.foot0 hL
  rw [foldI_succ]
  unfold S_cmd at h9 ⊢
  rw [rd_f hr]
  exact h9
/-- a command read alike -/
def CE (τ ρ : Nat → Nat → Int32) (i : Nat) : Prop := ∃ K : Int32, τ (439 + i) 0 = K ∧ ρ 4 (7 * i) = K ∧ (((K = 84 ∨ K = 87) ∧ τ (439 + i) 6 = ρ 4 (7 * i + 1)) ∨ (K = 80 ∧ τ (439 + i) 1 = ρ 4 (7 * i + 1) ∧ τ (439 + i) 2 = ρ 4 (7 * i + 2) ∧ τ (439 + i) 3 = ρ 4 (7 * i + 3) ∧ τ (439 + i) 4 = ρ 4 (7 * i + 4) ∧ τ (439 + i) 5 = ρ 4 (7 * i + 5) ∧ τ (439 + i) 6 = ρ 4 (7 * i + 6) ∧ (ρ 4 (7 * i + 5) = 0 ∨ ρ 4 (7 * i + 5) = 1)) ∨ (K = 72 ∧ τ (439 + i) 1 = ρ 4 (7 * i + 1) ∧ τ (439 + i) 3 = ρ 4 (7 * i + 2) ∧ τ (439 + i) 4 = ρ 4 (7 * i + 3)) ∨ ((K = 70 ∨ K = 68 ∨ K = 67 ∨ K = 88) ∧ τ (439 + i) 1 = ρ 4 (7 * i + 1)))
theorem CE.congr {τ' ρ' : Nat → Nat → Int32} (h : CE τ ρ i) (h1 : ∀ j, τ' (439 + i) j = τ (439 + i) j) (h2 : ∀ j, j < 7 → ρ' 4 (7 * i + j) = ρ 4 (7 * i + j)) : CE τ' ρ' i := by
  obtain ⟨K, a, b, c⟩ := h
  have h20 := h2 0 (by decide)
  rw [Nat.add_zero] at h20
  refine ⟨K, by rw [h1]; exact a, by rw [h20]; exact b, ?_⟩
  rw [h1, h1, h1, h1, h1, h1, h2 1 (by decide), h2 2 (by decide), h2 3 (by decide), h2 4 (by decide), h2 5 (by decide), h2 6 (by decide)]
  exact c
/-- the first sign of a command -/
def c_st (σ : Nat → Nat → Int32) (i : Nat) (K : Int32) : Nat → Nat → Int32 := sp_st (sp_st (sp_st σ (439 + i) 0 K) 433 4 0) 433 3 (σ 433 3 + 1)
def r_st (μ : Nat → Nat → Int32) (i : Nat) (K : Int32) : Nat → Nat → Int32 := sp_st (sp_st (m_clr (sp_st μ 0 17 (nI i + 1)) i 7) 0 13 (μ 0 13 + 1)) 4 (7 * i) K
theorem CS.start (hp : PT σ μ) (ho : OKs σ μ) {K : Int32} (hK : m_sign μ = K) (hK1 : K ≠ -1) : CS i [(0, 0)] (tn (μ 0 13) + 1) σ μ (c_st σ i K) (r_st μ i K) := by
  have hm := MG_step (hp.1.mi hp.2.2) (by rw [hK]; exact hK1)
  have h60 : tn (μ 0 13) < 60 := m_here_lt (hp.1.mi hp.2.2) (m_sign_lt (by rw [hK]; exact hK1))
  have hm0 : 0 ≤ μ 0 13 + 1 := by have := hm.1.1; rw [sp_st_s] at this; exact this
  unfold c_st r_st
  have hr : ∀ k j, k ≠ 4 → ¬ (k = 0 ∧ (j = 13 ∨ j = 17)) → sp_st (sp_st (m_clr (sp_st μ 0 17 (nI i + 1)) i 7) 0 13 (μ 0 13 + 1)) 4 (7 * i) K k j = μ k j := fun k j q1 q2 => by
    rw [sp_st_k _ _ _ _ _ _ q1, sp_st_at, if_neg (by omega), m_clr_at q1, sp_st_at, if_neg (by omega)]
  have hc : ∀ k j, k ≠ 439 + i → ¬ (k = 433 ∧ (j = 3 ∨ j = 4)) → sp_st (sp_st (sp_st σ (439 + i) 0 K) 433 4 0) 433 3 (σ 433 3 + 1) k j = σ k j := fun k j q1 q2 => by
    rw [sp_st_at, if_neg (by omega), sp_st_at, if_neg (by omega), sp_st_k _ _ _ _ _ _ q1]
  refine ⟨⟨hp.1.congr (hr 0 12 (by decide) (by decide)) (fun j => hr 3 j (by decide) (by omega)) (hc 434 1 (by omega) (by decide)) (fun j => hc 435 j (by omega) (by omega)), by rw [sp_st_s, sp_st_k _ _ _ _ _ _ (by decide), sp_st_s, hp.2.1], by rw [sp_st_k _ _ _ _ _ _ (by decide), sp_st_s]; exact hm0⟩, Or.inl ⟨⟨?_, ?_⟩, ?_, fun p hp9 => ?_⟩, hc, fun k j q1 q2 => ?_⟩
  · rw [sp_st_j _ _ _ _ _ _ (by decide), sp_st_s]
  · rw [hr 0 14 (by decide) (by decide)]; exact ho.2
  · rw [sp_st_k _ _ _ _ _ _ (by decide), sp_st_s, tn_add1 hp.2.2 h60]; exact Nat.le_refl _
  · rw [List.mem_singleton] at hp9
    subst hp9
    rw [sp_st_k _ _ _ _ _ _ (by omega), sp_st_k _ _ _ _ _ _ (by omega), sp_st_s]
    exact (sp_st_s _ _ _ _).symm
  · by_cases q4 : k = 4
    · subst q4
      rw [sp_st_j _ _ _ _ _ _ (by omega), sp_st_k _ _ _ _ _ _ (by decide)]
      unfold m_clr
      rw [if_neg (by omega), sp_st_k _ _ _ _ _ _ (by decide)]
    · exact hr k j q4 (by omega)
theorem rdCmd_F {K : Int32} (hK : f_signI σ (σ 433 3) = K) (hF : f_parts K = F) (hN : exL.getD F 0 ≠ 0) : f_rdCmd σ i = foldI (S_cmd F i) (c_st σ i K) (exL.getD F 0) := by
  unfold f_rdCmd f_cmdF f_cmd0
  rw [hK, hF, if_neg hN]
  have hb : b2i (exL.getD F 0 == 0) = 0 := by rw [beq_eq_false_iff_ne.mpr hN]; rfl
  rw [hb]
  rfl
theorem cmd_bad (hp : PT σ μ) (ho : OKs σ μ) (h : ¬ (m_sign μ = 84 ∨ m_sign μ = 80 ∨ m_sign μ = 72 ∨ m_sign μ = 70 ∨ m_sign μ = 68 ∨ m_sign μ = 67 ∨ m_sign μ = 88 ∨ m_sign μ = 87)) : CS i [] 0 σ μ (f_rdCmd σ i) (m_cmd μ i) ∧ ERs (f_rdCmd σ i) (m_cmd μ i) := by
  have hs := hp.sign
  have hF : f_parts (f_signI σ (σ 433 3)) = 4 := by
    unfold f_parts
    have e : ∀ x : Int32, x ≠ 0 → x ≠ -1 → m_sign μ ≠ x → f_signI σ (σ 433 3) ≠ x := fun x x0 x1 hx z => hx ((hs.eq x0 x1).mp z)
    have e1 := e 84 (by decide) (by decide) (fun z => h (by simp [z]))
    have e2 := e 80 (by decide) (by decide) (fun z => h (by simp [z]))
    have e3 := e 72 (by decide) (by decide) (fun z => h (by simp [z]))
    have e4 := e 70 (by decide) (by decide) (fun z => h (by simp [z]))
    have e5 := e 68 (by decide) (by decide) (fun z => h (by simp [z]))
    have e6 := e 67 (by decide) (by decide) (fun z => h (by simp [z]))
    have e7 := e 88 (by decide) (by decide) (fun z => h (by simp [z]))
    have e8 := e 87 (by decide) (by decide) (fun z => h (by simp [z]))
    rw [if_neg (fun z => z.elim e1 e8), if_neg e2, if_neg e3, if_neg (fun z => z.elim e6 (fun z => z.elim e5 (fun z => z.elim e4 e7)))]
  have hc : f_rdCmd σ i = sp_st (sp_st (sp_st σ (439 + i) 0 (f_signI σ (σ 433 3))) 433 4 1) 433 3 (σ 433 3 + 0) := by
    unfold f_rdCmd f_cmdF f_cmd0
    rw [hF]
    rfl
  have hr : m_cmd μ i = sp_st (m_clr (sp_st μ 0 17 (nI i + 1)) i 7) 0 14 (μ 0 13) := by
    unfold m_cmd
    rw [m_sign_17, if_neg h]
  rw [hc, hr]
  have hr9 : ∀ k j, k ≠ 4 → ¬ (k = 0 ∧ (j = 14 ∨ j = 17)) → sp_st (m_clr (sp_st μ 0 17 (nI i + 1)) i 7) 0 14 (μ 0 13) k j = μ k j := fun k j q1 q2 => by
    rw [sp_st_at, if_neg (by omega), m_clr_at q1, sp_st_at, if_neg (by omega)]
  have hc9 : ∀ k j, k ≠ 439 + i → ¬ (k = 433 ∧ (j = 3 ∨ j = 4)) → sp_st (sp_st (sp_st σ (439 + i) 0 (f_signI σ (σ 433 3))) 433 4 1) 433 3 (σ 433 3 + 0) k j = σ k j := fun k j q1 q2 => by
    rw [sp_st_at, if_neg (by omega), sp_st_at, if_neg (by omega), sp_st_k _ _ _ _ _ _ q1]
  have he : ERs (sp_st (sp_st (sp_st σ (439 + i) 0 (f_signI σ (σ 433 3))) 433 4 1) 433 3 (σ 433 3 + 0)) (sp_st (m_clr (sp_st μ 0 17 (nI i + 1)) i 7) 0 14 (μ 0 13)) := ⟨by rw [sp_st_j _ _ _ _ _ _ (by decide), sp_st_s]; decide, by rw [sp_st_s, hr9 0 13 (by decide) (by decide)]⟩
  refine ⟨⟨⟨hp.1.congr (hr9 0 12 (by decide) (by decide)) (fun j => hr9 3 j (by decide) (by omega)) (hc9 434 1 (by omega) (by decide)) (fun j => hc9 435 j (by omega) (by omega)), by rw [sp_st_s, hr9 0 13 (by decide) (by decide), Int32.add_zero, hp.2.1], by rw [hr9 0 13 (by decide) (by decide)]; exact hp.2.2⟩, Or.inr he, hc9, fun k j q1 q2 => ?_⟩, he⟩
  by_cases q4 : k = 4
  · subst q4
    rw [sp_st_k _ _ _ _ _ _ (by decide)]
    unfold m_clr
    rw [if_neg (by omega), sp_st_k _ _ _ _ _ _ (by decide)]
  · exact hr9 k j q4 (by omega)
theorem m_cmd_K {K : Int32} (hK : m_sign μ = K) (h : K = 84 ∨ K = 80 ∨ K = 72 ∨ K = 70 ∨ K = 68 ∨ K = 67 ∨ K = 88 ∨ K = 87) : m_cmd μ i = m_cmdK K (m_sn (r_st μ i K) (7 * i + 1) (if K = 84 ∨ K = 87 then 1 else 3)) i := by
  unfold m_cmd r_st
  rw [m_sign_17, hK, if_pos h]
/-- what a command leaves -/
def CO (i : Nat) (σ μ τ ρ : Nat → Nat → Int32) : Prop := ∃ L w, tn (μ 0 13) + 2 ≤ w ∧ CS i L w σ μ τ ρ ∧ ((OKs τ ρ → CE τ ρ i))
theorem CO.of {L : List (Nat × Nat)} (h : CS i L w σ μ τ ρ) (hw : tn (μ 0 13) + 2 ≤ w) (hL : OKs τ ρ → (∀ p, p ∈ L → τ (439 + i) p.1 = ρ 4 (7 * i + p.2)) → CE τ ρ i) : CO i σ μ τ ρ := by
  refine ⟨L, w, hw, h, fun ho => hL ho ?_⟩
  rcases h.2.1 with ⟨_, _, z⟩ | z
  · exact z
  · exact absurd ho.1 z.1
theorem foldI_1s {x : Nat → Nat → Int32} : foldI (S_cmd F i) x 0 = x := rfl
end PAS
