/-! PARSING: the class's and the reference's, sign by sign -/
def sg (a b : Int32) : Prop := a = b ∨ (a = 0 ∧ b = -1)
theorem sg.eq {a b x : Int32} (h : sg a b) (h0 : x ≠ 0) (h1 : x ≠ -1) : a = x ↔ b = x := by
  rcases h with h | ⟨h2, h3⟩
  · rw [h]
  · rw [h2, h3]; exact ⟨fun z => absurd z.symm h0, fun z => absurd z.symm h1⟩
theorem sg.dig {a b : Int32} (h : sg a b) : (48 ≤ a ∧ a ≤ 57) ↔ m_in b 48 57 = true := by
  rcases h with h | ⟨h2, h3⟩
  · rw [h]; unfold m_in; rw [Bool.and_eq_true, decide_eq_true_eq, decide_eq_true_eq]
  · rw [h2, h3]; decide
theorem sg.val {a b : Int32} (h : sg a b) (hb : b ≠ -1) : a = b := h.elim id (fun z => absurd z.2 hb)
theorem i_as (a b : Int32) : a + b - 48 = a + (b - 48) := by rw [Int32.sub_eq_add_neg, Int32.sub_eq_add_neg, Int32.add_assoc]
section PAR
variable {σ μ τ ρ : Nat → Nat → Int32} {i j w d f a F : Nat} {L : List (Nat × Nat)}
theorem sign_at (h : RI τ ρ) {p : Int32} (h0 : 0 ≤ p) : sg (f_signI τ p) (m_sign (sp_st ρ 0 13 p)) := by
  obtain ⟨ty, t1, t2, t3, t4⟩ := h
  unfold f_signI f_reachI m_sign
  rw [sp_st_s, sp_st_j _ _ _ _ _ _ (by decide), sp_st_k _ _ _ _ _ _ (by decide), t2, t3]
  by_cases q : p < nI ty
  · have htn : tn p < ty := tn_lt h0 (by omega) q
    have q6 : p < 60 := Int32.lt_of_lt_of_le q (nI_le (a := ty) (b := 60) t1 (by decide))
    rw [if_pos q, if_pos (by rw [decide_eq_true h0, decide_eq_true q, decide_eq_true q6]; rfl)]
    exact Or.inl (t4 _ htn).symm
  · rw [if_neg q, if_neg (by rw [decide_eq_false q, Bool.and_false, Bool.false_and]; decide)]
    exact Or.inr ⟨rfl, rfl⟩
def PT (τ ρ : Nat → Nat → Int32) : Prop := RI τ ρ ∧ τ 433 3 = ρ 0 13 ∧ 0 ≤ ρ 0 13
def OKs (τ ρ : Nat → Nat → Int32) : Prop := τ 433 4 = 0 ∧ ρ 0 14 = -1
def ERs (τ ρ : Nat → Nat → Int32) : Prop := τ 433 4 ≠ 0 ∧ ρ 0 14 = ρ 0 13
theorem PT.sign (h : PT τ ρ) : sg (f_signI τ (τ 433 3)) (m_sign ρ) := by
  have := sign_at h.1 h.2.2
  rw [sp_st_self] at this
  rw [h.2.1]; exact this
theorem RI.mi (h : RI τ ρ) (h0 : 0 ≤ ρ 0 13) : MI ρ := by
  obtain ⟨ty, t1, t2, t3, t4⟩ := h
  exact ⟨h0, by rw [t2]; exact nI_le (a := ty) (b := 60) t1 (by decide)⟩
/-- how a command stands -/
def CS (i : Nat) (L : List (Nat × Nat)) (w : Nat) (σ μ τ ρ : Nat → Nat → Int32) : Prop := PT τ ρ ∧ ((OKs τ ρ ∧ w ≤ tn (ρ 0 13) ∧ ∀ p, p ∈ L → τ (439 + i) p.1 = ρ 4 (7 * i + p.2)) ∨ ERs τ ρ) ∧ (∀ k j, k ≠ 439 + i → ¬ (k = 433 ∧ (j = 3 ∨ j = 4)) → τ k j = σ k j) ∧ (∀ k j, ¬ (k = 0 ∧ (j = 13 ∨ j = 14 ∨ j = 17)) → ¬ (k = 4 ∧ 7 * i ≤ j ∧ j < 7 * i + 7) → ρ k j = μ k j)
theorem ER.n0 (h : PT τ ρ) (e : ERs τ ρ) : 0 ≤ ρ 0 14 := by rw [e.2]; exact h.2.2
theorem CS.sign (h : CS i L w σ μ τ ρ) {x : Int32} (hx0 : x ≠ 0) (hx1 : x ≠ -1) : CS i L (w + 1) σ μ (if τ 433 4 = 0 then f_rdSign τ x else τ) (m_needs ρ x) := by
  obtain ⟨hp, hs, f1, f2⟩ := h
  rcases hs with ⟨⟨o1, o2⟩, hw, hL⟩ | e
  · have hsg := hp.sign.eq hx0 hx1
    unfold f_rdSign m_needs
    rw [if_pos o1, if_neg (show ¬ 0 ≤ ρ 0 14 by rw [o2]; decide)]
    by_cases q : m_sign ρ = x
    · rw [if_pos (hsg.mpr q), if_pos q]
      have hm := MG_step (hp.1.mi hp.2.2) (by rw [q]; exact hx1)
      have h60 : tn (ρ 0 13) < 60 := m_here_lt (hp.1.mi hp.2.2) (m_sign_lt (by rw [q]; exact hx1))
      have hm0 : 0 ≤ ρ 0 13 + 1 := by have := hm.1.1; rw [sp_st_s] at this; exact this
      refine ⟨⟨hp.1.congr (sp_st_j _ _ _ _ _ _ (by decide)) (fun j => sp_st_k _ _ _ _ _ _ (by decide)) (by rw [sp_st_k _ _ _ _ _ _ (by decide), sp_st_k _ _ _ _ _ _ (by decide)]) (fun j => by rw [sp_st_k _ _ _ _ _ _ (by decide), sp_st_k _ _ _ _ _ _ (by decide)]), by rw [sp_st_s, sp_st_s, hp.2.1], by rw [sp_st_s]; exact hm0⟩, Or.inl ⟨⟨?_, ?_⟩, ?_, fun p hp9 => ?_⟩, fun k j q1 q2 => ?_, fun k j q1 q2 => ?_⟩
      · rw [sp_st_j _ _ _ _ _ _ (by decide), sp_st_s]
      · rw [sp_st_j _ _ _ _ _ _ (by decide)]; exact o2
      · rw [sp_st_s, tn_add1 hp.2.2 h60]; omega
      · rw [sp_st_k _ _ _ _ _ _ (by omega), sp_st_k _ _ _ _ _ _ (by omega), sp_st_k _ _ _ _ _ _ (by decide)]; exact hL p hp9
      · rw [sp_st_at, if_neg (by omega), sp_st_at, if_neg (by omega)]; exact f1 k j q1 q2
      · rw [sp_st_at, if_neg (by omega)]; exact f2 k j q1 q2
    · rw [if_neg (fun z => q (hsg.mp z)), if_neg q]
      refine ⟨⟨hp.1.congr (sp_st_j _ _ _ _ _ _ (by decide)) (fun j => sp_st_k _ _ _ _ _ _ (by decide)) (by rw [sp_st_k _ _ _ _ _ _ (by decide), sp_st_k _ _ _ _ _ _ (by decide)]) (fun j => by rw [sp_st_k _ _ _ _ _ _ (by decide), sp_st_k _ _ _ _ _ _ (by decide)]), by rw [sp_st_s, sp_st_j _ _ _ _ _ _ (by decide), Int32.add_zero, hp.2.1], by rw [sp_st_j _ _ _ _ _ _ (by decide)]; exact hp.2.2⟩, Or.inr ⟨?_, ?_⟩, fun k j q1 q2 => ?_, fun k j q1 q2 => ?_⟩
      · rw [sp_st_j _ _ _ _ _ _ (by decide), sp_st_s]; decide
      · rw [sp_st_s, sp_st_j _ _ _ _ _ _ (by decide)]
      · rw [sp_st_at, if_neg (by omega), sp_st_at, if_neg (by omega)]; exact f1 k j q1 q2
      · rw [sp_st_at, if_neg (by omega)]; exact f2 k j q1 q2
  · unfold m_needs
    rw [if_neg e.1, if_pos (ER.n0 hp e)]
    exact ⟨hp, Or.inr e, f1, f2⟩
/-- the digits -/
theorem num_ok (hp : PT τ ρ) {n : Nat} (hn : n ≤ 9) : ∀ i : Nat, i ≤ n → ∃ k y h, foldI (S_num τ) (0, 0, τ 433 3) i = (y, nI k, h) ∧ k ≤ i ∧ MI (sp_st ρ 0 13 h) ∧ tn h = tn (ρ 0 13) + k ∧ (0 < i → (k = 0 ↔ ¬ m_in (m_sign ρ) 48 57 = true)) ∧ ((k = i ∧ m_nl ρ n 0 (ρ 0 13) = m_nl ρ (n - i) y h) ∨ (k < i ∧ m_nl ρ n 0 (ρ 0 13) = (y, h)))
  | 0, _ => ⟨0, 0, ρ 0 13, by rw [← hp.2.1]; rfl, Nat.le_refl 0, by rw [sp_st_self]; exact hp.1.mi hp.2.2, rfl, fun z => absurd z (by decide), Or.inl ⟨rfl, rfl⟩⟩
  | i + 1, hi => by
    obtain ⟨k, y, h, e, hk, hm, ht, h0, hc⟩ := num_ok hp hn i (by omega)
    have hs : foldI (S_num τ) (0, 0, τ 433 3) (i + 1) = S_num τ (y, nI k, h) i := by rw [foldI_succ, e]
    rw [hs]
    have hh0 : 0 ≤ h := by have := hm.1; rw [sp_st_s] at this; exact this
    have hsg := sign_at hp.1 hh0
    unfold S_num
    rcases hc with ⟨hc1, hc2⟩ | ⟨hc1, hc2⟩
    · subst hc1
      by_cases q : m_in (m_sign (sp_st ρ 0 13 h)) 48 57 = true
      · have q2 := hsg.dig.mpr q
        have qv := hsg.val (dig_n1 q)
        have qn : ¬ m_in (m_sign (sp_st ρ 0 13 h)) 48 57 = false := by rw [q]; decide
        have h60 : tn h < 60 := by have := m_here_lt hm (m_sign_lt (dig_n1 q)); rw [sp_st_s] at this; exact this
        refine ⟨k + 1, 10 * y + (f_signI τ h - 48), h + 1, by rw [if_pos ⟨rfl, q2.1, q2.2⟩]; exact congrArg (fun v => (10 * y + (f_signI τ h - 48), v, h + 1)) (nI_1 k), by omega, MI_dig hm qn, by rw [tn_add1 hh0 h60]; omega, fun _ => ⟨fun z => absurd z (by omega), fun z => ?_⟩, Or.inl ⟨rfl, ?_⟩⟩
        · rcases Nat.eq_zero_or_pos k with hk0 | hk0
          · subst hk0
            have : (0, ρ 0 13) = (y, h) := by
              have e2 : foldI (S_num τ) (0, 0, τ 433 3) 0 = (0, 0, τ 433 3) := rfl
              rw [e2, hp.2.1] at e
              have e3 := congrArg (fun v : Int32 × Int32 × Int32 => (v.1, v.2.2)) e
              exact e3
            have e4 := congrArg Prod.snd this
            have e5 : ρ 0 13 = h := e4
            rw [← e5, sp_st_self] at q
            exact absurd q z
          · exact absurd ((h0 hk0).mpr z) (by omega)
        · rw [hc2, m_nl_s (by omega) qn, qv, i_as]
      · have q2 : ¬ (48 ≤ f_signI τ h ∧ f_signI τ h ≤ 57) := fun z => q (hsg.dig.mp z)
        refine ⟨k, y, h, by rw [if_neg (fun z => q2 ⟨z.2.1, z.2.2⟩)], by omega, hm, ht, fun _ => ?_, Or.inr ⟨by omega, ?_⟩⟩
        · rcases Nat.eq_zero_or_pos k with hk0 | hk0
          · subst hk0
            have e2 : foldI (S_num τ) (0, 0, τ 433 3) 0 = (0, 0, τ 433 3) := rfl
            rw [e2, hp.2.1] at e
            have e5 : ρ 0 13 = h := congrArg (fun v : Int32 × Int32 × Int32 => v.2.2) e
            rw [← e5, sp_st_self] at q
            exact ⟨fun _ => q, fun _ => rfl⟩
          · exact h0 hk0
        · rw [hc2]
          exact (m_nl_end rfl (Or.inr (by simpa using q))).symm
    · refine ⟨k, y, h, by rw [if_neg (fun z => by have := (nI_eq (by omega) (by omega)).mp z.1; omega)], by omega, hm, ht, fun _ => h0 (by omega), Or.inr ⟨by omega, hc2⟩⟩
theorem CS.num0 (h : CS i L w σ μ τ ρ) (hd : 1 ≤ d ∧ d ≤ 9) (hL : ∀ p, p ∈ L → p.1 ≠ f ∧ p.2 ≠ a) (ha : a < 7) : CS i ((f, a) :: L) (w + 1) σ μ (if τ 433 4 = 0 then sp_st (f_rdNum τ d) (439 + i) f (f_rdNumV τ d) else τ) (m_sn ρ (7 * i + a) d) := by
  obtain ⟨hp, hs, f1, f2⟩ := h
  unfold m_sn
  rcases hs with ⟨⟨o1, o2⟩, hw, hLv⟩ | e
  · obtain ⟨k, y, h, e, hk, hm, ht, h0, hc⟩ := num_ok hp hd.2 d (Nat.le_refl d)
    have hy : m_nl ρ d 0 (ρ 0 13) = (y, h) := by
      rcases hc with ⟨_, hc⟩ | ⟨_, hc⟩
      · rw [hc, Nat.sub_self]; rfl
      · exact hc
    have h00 := h0 (by omega)
    have hh0 : 0 ≤ h := by have := hm.1; rw [sp_st_s] at this; exact this
    unfold f_rdNum f_rdNumV m_nums m_numv
    rw [if_pos o1, e, if_neg (show ¬ 0 ≤ ρ 0 14 by rw [o2]; decide), if_neg (show ¬ 0 ≤ ρ 0 14 by rw [o2]; decide), hy]
    show CS i ((f, a) :: L) (w + 1) σ μ (sp_st (sp_st (sp_st τ 433 3 h) 433 4 (b2i (nI k == 0))) (439 + i) f y) (sp_st (if m_in (m_sign ρ) 48 57 = true then sp_st ρ 0 13 h else sp_st ρ 0 14 (ρ 0 13)) 4 (7 * i + a) (if m_in (m_sign ρ) 48 57 = true then y else 0))
    by_cases q : m_in (m_sign ρ) 48 57 = true
    · rw [if_pos q, if_pos q]
      have hk1 : k ≠ 0 := fun z => (h00.mp z) q
      have hkb : b2i (nI k == 0) = 0 := by
        rw [show (nI k == 0) = false from beq_eq_false_iff_ne.mpr (fun z => hk1 ((nI_eq (a := k) (b := 0) (by have h9 := tn_31 h; omega) (by decide)).mp z))]
        rfl
      rw [hkb]
      refine ⟨⟨hp.1.congr (by rw [sp_st_k _ _ _ _ _ _ (by decide), sp_st_j _ _ _ _ _ _ (by decide)]) (fun j => by rw [sp_st_k _ _ _ _ _ _ (by decide), sp_st_k _ _ _ _ _ _ (by decide)]) (by rw [sp_st_k _ _ _ _ _ _ (by omega), sp_st_k _ _ _ _ _ _ (by decide), sp_st_k _ _ _ _ _ _ (by decide)]) (fun j => by rw [sp_st_k _ _ _ _ _ _ (by omega), sp_st_k _ _ _ _ _ _ (by decide), sp_st_k _ _ _ _ _ _ (by decide)]), by rw [sp_st_k _ _ _ _ _ _ (by omega), sp_st_j _ _ _ _ _ _ (by decide), sp_st_s, sp_st_k _ _ _ _ _ _ (by decide), sp_st_s], by rw [sp_st_k _ _ _ _ _ _ (by decide), sp_st_s]; exact hh0⟩, Or.inl ⟨⟨?_, ?_⟩, ?_, fun p hp9 => ?_⟩, fun k2 j q1 q2 => ?_, fun k2 j q1 q2 => ?_⟩
      · rw [sp_st_k _ _ _ _ _ _ (by omega), sp_st_s]
      · rw [sp_st_k _ _ _ _ _ _ (by decide), sp_st_j _ _ _ _ _ _ (by decide)]; exact o2
      · rw [sp_st_k _ _ _ _ _ _ (by decide), sp_st_s]; omega
      · rcases List.mem_cons.mp hp9 with z | z
        · rw [z, sp_st_s, sp_st_s]
        · have hz := hL p z
          rw [sp_st_j _ _ _ _ _ _ hz.1, sp_st_k _ _ _ _ _ _ (by omega), sp_st_k _ _ _ _ _ _ (by omega), sp_st_j _ _ _ _ _ _ (by omega), sp_st_k _ _ _ _ _ _ (by decide)]
          exact hLv p z
      · rw [sp_st_k _ _ _ _ _ _ q1, sp_st_at, if_neg (by omega), sp_st_at, if_neg (by omega)]; exact f1 k2 j q1 q2
      · rw [sp_st_at, if_neg (by omega), sp_st_at, if_neg (by omega)]; exact f2 k2 j q1 q2
    · rw [if_neg q, if_neg q]
      have hk1 : k = 0 := h00.mpr q
      have hh : h = ρ 0 13 := by
        rw [hk1, Nat.add_zero] at ht
        rw [← nI_tn hh0, ht, nI_tn hp.2.2]
      subst hk1
      rw [show b2i (nI 0 == 0) = 1 by decide, hh]
      refine ⟨⟨hp.1.congr (by rw [sp_st_k _ _ _ _ _ _ (by decide), sp_st_j _ _ _ _ _ _ (by decide)]) (fun j => by rw [sp_st_k _ _ _ _ _ _ (by decide), sp_st_k _ _ _ _ _ _ (by decide)]) (by rw [sp_st_k _ _ _ _ _ _ (by omega), sp_st_k _ _ _ _ _ _ (by decide), sp_st_k _ _ _ _ _ _ (by decide)]) (fun j => by rw [sp_st_k _ _ _ _ _ _ (by omega), sp_st_k _ _ _ _ _ _ (by decide), sp_st_k _ _ _ _ _ _ (by decide)]), by rw [sp_st_k _ _ _ _ _ _ (by omega), sp_st_j _ _ _ _ _ _ (by decide), sp_st_s, sp_st_k _ _ _ _ _ _ (by decide), sp_st_j _ _ _ _ _ _ (by decide)], by rw [sp_st_k _ _ _ _ _ _ (by decide), sp_st_j _ _ _ _ _ _ (by decide)]; exact hp.2.2⟩, Or.inr ⟨?_, ?_⟩, fun k2 j q1 q2 => ?_, fun k2 j q1 q2 => ?_⟩
      · rw [sp_st_k _ _ _ _ _ _ (by omega), sp_st_s]; decide
      · rw [sp_st_k _ 4 _ _ 0 14 (by decide), sp_st_s, sp_st_k _ _ _ _ _ _ (by decide), sp_st_j _ _ _ _ _ _ (by decide)]
      · rw [sp_st_k _ _ _ _ _ _ q1, sp_st_at, if_neg (by omega), sp_st_at, if_neg (by omega)]; exact f1 k2 j q1 q2
      · rw [sp_st_at, if_neg (by omega), sp_st_at, if_neg (by omega)]; exact f2 k2 j q1 q2
  · unfold m_nums
    rw [if_neg e.1, if_pos (ER.n0 hp e)]
    refine ⟨⟨hp.1.congr (sp_st_k _ _ _ _ _ _ (by decide)) (fun j => sp_st_k _ _ _ _ _ _ (by decide)) rfl (fun _ => rfl), by rw [sp_st_k _ _ _ _ _ _ (by decide)]; exact hp.2.1, by rw [sp_st_k _ _ _ _ _ _ (by decide)]; exact hp.2.2⟩, Or.inr ⟨e.1, by rw [sp_st_k _ _ _ _ _ _ (by decide), sp_st_k _ _ _ _ _ _ (by decide)]; exact e.2⟩, f1, fun k2 j q1 q2 => ?_⟩
    rw [sp_st_at, if_neg (by omega)]; exact f2 k2 j q1 q2
end PAR
