/-! the snapshot back; readers; writing and typing -/
section CHV
variable {σ μ τ ρ : Nat → Nat → Int32} {B n t ch os : Nat} {pi ro pm : Nat → Nat} {rc : Option RC}
theorem ch_restore (h : RR B σ pm rc μ) (hB : B < 1000000) : (if (μ 0 3 != 0) = true then sp_st (m_copy (sp_st μ 0 0 (b2i (!(μ 0 3 != 0)))) 9 0) 0 2 0 else sp_st μ 0 0 (b2i (!(μ 0 3 != 0)))) 0 0 = kC [eISE] (f_xIs (σ 429 5 == 0)) ∧ (f_xIs (σ 429 5 == 0) = none → f_countPrintsInRows (sp_st (f_copyB σ 0 10) 431 1 0) 0 10 = (if (μ 0 3 != 0) = true then μ 1 2602 else 0) ∧ RR B (sp_st (f_copyB σ 0 10) 431 1 0) pm rc (if (μ 0 3 != 0) = true then sp_st (m_copy (sp_st μ 0 0 (b2i (!(μ 0 3 != 0)))) 9 0) 0 2 0 else sp_st μ 0 0 (b2i (!(μ 0 3 != 0))))) ∧ ∀ E r, f_xIs (σ 429 5 == 0) = some (E, r) → RR B σ pm (r.or rc) (if (μ 0 3 != 0) = true then sp_st (m_copy (sp_st μ 0 0 (b2i (!(μ 0 3 != 0)))) 9 0) 0 2 0 else sp_st μ 0 0 (b2i (!(μ 0 3 != 0)))) := by
  have hall := h
  obtain ⟨a, ⟨⟨ch2, c1, c2, c3, c4⟩, p1, p2⟩, ⟨s1, s2⟩, hj, ho, hi, he, hh⟩ := h
  unfold f_xIs
  by_cases q : μ 0 3 = 0
  · have q2 : σ 429 5 = 0 := bz_eq0.mp (s1 ▸ bz_eq0.mpr q)
    have z1 : (μ 0 3 != 0) = false := by rw [q]; rfl
    have z2 : (σ 429 5 == 0) = true := by rw [q2]; rfl
    rw [z1, z2]
    exact ⟨by rw [if_neg (by decide), sp_st_s, if_pos rfl]; exact kC_1.symm, fun z => by (rw [if_pos rfl] at z; cases z), fun E r z => by (rw [if_pos rfl] at z; cases z; rw [if_neg (by decide)]; exact hall.thrown hB _)⟩
  · have q2 : σ 429 5 ≠ 0 := fun z => q (bz_eq0.mp (s1.trans (bz_eq0.mpr z)))
    have z1 : (μ 0 3 != 0) = true := bne_iff_ne.mpr q
    have z2 : (σ 429 5 == 0) = false := beq_eq_false_iff_ne.mpr q2
    rw [z1, z2]
    simp only [if_pos]
    have s3 := s2 q
    obtain ⟨n9, t9, pi9, ro9, h9⟩ := s3
    have hk : ∀ k j, k ≠ 1 → ¬ (k = 0 ∧ (j = 2 ∨ j = 0)) → sp_st (m_copy (sp_st μ 0 0 (b2i (!true))) 9 0) 0 2 0 k j = μ k j := fun k j q1 q2 => by
      rw [sp_st_at, if_neg (by omega), m_copy_k q1, sp_st_at, if_neg (by omega)]
    have hb : ∀ v j, j < 289 → v ≤ 10 → sp_st (m_copy (sp_st μ 0 0 (b2i (!true))) 9 0) 0 2 0 1 (289 * v + j) = if v = 0 then μ 1 (289 * 9 + j) else μ 1 (289 * v + j) := fun v j hj9 hv => by
      rw [sp_st_k _ _ _ _ _ _ (by decide)]
      by_cases q3 : v = 0
      · rw [if_pos q3, m_copy_at (by omega), sp_st_k _ _ _ _ _ _ (by decide)]
        exact congrArg _ (by omega)
      · rw [if_neg q3, m_copy_hi (by omega), sp_st_k _ _ _ _ _ _ (by decide)]
    have hg : ∀ k j, 39 ≤ k → ¬ (k = 431 ∧ j = 1) → sp_st (f_copyB σ 0 10) 431 1 0 k j = σ k j := fun k j q1 q2 => by
      unfold f_copyB
      rw [sp_st_at, if_neg q2, if_neg (by omega)]
    have hg0 : ∀ k j, k < 39 → sp_st (f_copyB σ 0 10) 431 1 0 k j = σ (39 * 10 + k) j := fun k j q1 => by
      unfold f_copyB
      rw [sp_st_at, if_neg (by omega), if_pos (by omega)]
      exact congrArg (fun x => σ x j) (by omega)
    refine ⟨by rw [sp_st_j _ _ _ _ _ _ (by decide), m_copy_k (by decide), sp_st_s]; rfl, fun _ => ⟨?_, ?_⟩, fun E r z => by cases z⟩
    · have h8 : BR (sp_st (f_copyB σ 0 10) 431 1 0) (mB μ 9) B n9 t9 pi9 ro9 := h9.congr (fun k j hk9 => hg0 k j hk9) (fun _ _ => rfl) (Nat.le_refl B) hB
      rw [h8.all]
      exact h9.1.1.symm
    · refine ⟨?_, ⟨⟨0, by decide, sp_st_s _ _ _ _, sp_st_s _ _ _ _, fun j hj9 => absurd hj9 (by omega)⟩, p1, p2⟩, ⟨?_, fun z => ?_⟩, hj.congr (fun j q1 q2 => hk 0 j (by decide) (by omega)), ho.congr (hk 0 10 (by decide) (by decide)) (fun j => hk 2 j (by decide) (by omega)) (hg _ _ (by decide) (by decide)) (fun j => hg _ _ (by decide) (by omega)), hi.congr (hk 0 12 (by decide) (by decide)) (fun j => hk 3 j (by decide) (by omega)) (hg _ _ (by decide) (by decide)) (fun j => hg _ _ (by decide) (by omega)), ?_, ?_⟩
      · refine BE.congr ⟨n9, t9, pi9, ro9, h9⟩ (fun k j hk9 => hg0 k j hk9) (fun j hj9 => ?_) (Nat.le_refl B) hB
        have h9 := hb 0 j hj9 (by decide)
        rw [if_pos rfl, show 289 * 0 + j = j by omega] at h9
        exact h9
      · rw [hk 0 3 (by decide) (by decide), hg _ _ (by decide) (by decide)]; exact s1
      · refine BE.congr ⟨n9, t9, pi9, ro9, h9⟩ (fun k j hk9 => hg _ _ (by omega) (by omega)) (fun j hj9 => ?_) (Nat.le_refl B) hB
        have h9 := hb 9 j hj9 (by decide)
        rw [if_neg (by decide)] at h9
        exact h9
      · rw [hk 0 15 (by decide) (by decide), hg _ _ (by decide) (by decide)]; exact he
      · rw [hk 0 13 (by decide) (by decide)]; exact hh
/-! the rejection kept -/
theorem ag_rj (h : RJ rc μ) {v : RC → Int32} (ok : Prop) (hok : ∀ x, rc = some x → μ 0 5 ≠ 0 → ok) : AG [eNSE] (f_xRj rc) (if μ 0 5 = 0 then 1 else 0) ok := by
  rcases rc with _ | ⟨r, d, _ | ⟨y1, y2⟩⟩
  · rw [if_pos h.1]; exact AG.thr kC_1
  · have h5 : μ 0 5 ≠ 0 := by rw [h.1]; exact h.2.1
    rw [if_neg h5]; exact AG.ok (hok _ rfl h5)
  · have h5 : μ 0 5 ≠ 0 := by rw [h.1]; exact h.2.1
    rw [if_neg h5]; exact AG.ok (hok _ rfl h5)
theorem RJ.fst {x : RC} (h : RJ (some x) μ) : μ 0 5 = x.1 ∧ μ 0 6 = x.2.1 := by
  obtain ⟨r, d, _ | ⟨y1, y2⟩⟩ := x
  · exact ⟨h.1, h.2.2.1⟩
  · exact ⟨h.1, h.2.2.1⟩
theorem ag_rr (h : RJ rc μ) : AG [eNSE] (f_xRj rc) (if μ 0 5 = 0 then 1 else 0) (f_rjR rc = if μ 0 5 = 0 then 0 else μ 0 5) :=
  ag_rj (v := fun x => x.1) h _ fun x e q => by (subst e; rw [if_neg q]; exact h.fst.1.symm)
theorem ag_rd (h : RJ rc μ) : AG [eNSE] (f_xRj rc) (if μ 0 5 = 0 then 1 else 0) (f_rjD rc = if μ 0 5 = 0 then 0 else μ 0 6) :=
  ag_rj (v := fun x => x.1) h _ fun x e q => by (subst e; rw [if_neg q]; exact h.fst.2.symm)
theorem ag_cr (h : RJ rc μ) : AG [eNSE] (f_xRjC rc) (if μ 0 7 = 0 then 1 else 0) (f_rjCR rc = if μ 0 7 = 0 then 0 else μ 0 7) ∧ AG [eNSE] (f_xRjC rc) (if μ 0 7 = 0 then 1 else 0) (f_rjCD rc = if μ 0 7 = 0 then 0 else μ 0 8) := by
  rcases rc with _ | ⟨r, d, _ | ⟨y1, y2⟩⟩
  · rw [if_pos h.2]; exact ⟨AG.thr kC_1, AG.thr kC_1⟩
  · rw [if_pos (show μ 0 7 = 0 from h.2.2.2)]; exact ⟨AG.thr kC_1, AG.thr kC_1⟩
  · have q : μ 0 7 ≠ 0 := by rw [h.2.2.2.1]; exact h.2.2.2.2.1
    rw [if_neg q, if_neg q, if_neg q]
    exact ⟨AG.ok h.2.2.2.1.symm, AG.ok h.2.2.2.2.2.symm⟩
theorem ag_syn (h : RR B σ pm rc μ) : AG [eNSE] (f_xFound (if σ 429 9 = -1 then none else some 0)) (if μ 0 15 = -1 then 1 else 0) (σ 429 9 = if μ 0 15 = -1 then 0 else μ 0 15) := by
  have he := h.2.2.2.2.2.2.1
  rw [← he]
  by_cases q : μ 0 15 = -1
  · rw [if_pos q, if_pos q]; exact AG.thr kC_1
  · rw [if_neg q, if_neg q, if_neg q]; exact AG.ok rfl
/-! output -/
theorem reach_ok {x : Int32} (hos : os ≤ 90) (hq : τ 436 1 = nI os) : f_reachO τ x = m_in x 0 (nI os - 1) := by
  unfold f_reachO m_in
  rw [hq]
  by_cases q0 : 0 ≤ x
  · obtain ⟨p, qp, rfl⟩ : ∃ p, p < 2147483648 ∧ x = nI p := ⟨tn x, tn_31 x, (nI_tn q0).symm⟩
    rcases Nat.eq_zero_or_pos os with z | z
    · subst z
      have w1 : ¬ nI p < nI 0 := fun w => by have := (nI_ltI (a := p) (b := 0) qp (by decide)).mp w; omega
      have w2 : ¬ nI p ≤ nI 0 - 1 := fun w => absurd (Int32.le_trans q0 w) (by decide)
      rw [decide_eq_false w1, decide_eq_false w2, Bool.and_false, Bool.false_and]
    · rw [show nI os - 1 = nI (os - 1) from nI_subE rfl rfl z]
      by_cases w : p < os
      · have w1 : nI p < nI os := (nI_ltI qp (by omega)).mpr w
        have w2 : nI p ≤ nI (os - 1) := Int32.not_lt.mp fun w => by have := (nI_ltI (a := os - 1) (b := p) (by omega) qp).mp w; omega
        have w3 : nI p < (90 : Int32) := (nI_ltI (a := p) (b := 90) qp (by decide)).mpr (by omega)
        rw [decide_eq_true w1, decide_eq_true w2, decide_eq_true w3, Bool.and_true]
      · have w1 : ¬ nI p < nI os := fun w9 => w ((nI_ltI qp (by omega)).mp w9)
        have w2 : ¬ nI p ≤ nI (os - 1) := fun w9 => absurd w9 (Int32.not_le.mpr ((nI_ltI (a := os - 1) (b := p) (by omega) qp).mpr (by omega)))
        rw [decide_eq_false w1, decide_eq_false w2, Bool.and_false, Bool.false_and]
  · rw [decide_eq_false q0, Bool.false_and, Bool.false_and, Bool.false_and]
theorem ag_out (h : RR B σ pm rc μ) (x : Int32) (hos : μ 0 10 = nI os) (ho : os ≤ 90) : AG [eIOO] (f_xOut (f_reachO σ x)) (b2i (!m_in x 0 (nI os - 1))) (f_signO σ x = if m_in x 0 (nI os - 1) = true then cz (μ 2 (tn x)) else 0) := by
  obtain ⟨os2, o1, o2, o3, o4⟩ := h.2.2.2.2.1
  have e : os2 = os := ((nI_eq (by omega) (by omega)).mp (hos.symm.trans o2)).symm
  subst e
  have hr := reach_ok (x := x) o1 o3
  unfold f_xOut f_signO
  rw [hr]
  by_cases q : m_in x 0 (nI os2 - 1) = true
  · rw [if_pos q, if_pos q, if_pos q, q]
    have q1 := q
    rw [← hr] at q1
    unfold f_reachO at q1
    rw [Bool.and_eq_true, Bool.and_eq_true, decide_eq_true_eq, decide_eq_true_eq, decide_eq_true_eq, o3] at q1
    exact AG.ok (o4 _ (tn_lt q1.1.1 (by omega) q1.1.2)).symm
  · rw [if_neg q, show m_in x 0 (nI os2 - 1) = false by simpa using q]; exact AG.thr kC_1
/-- while a line is written -/
def OW (σ μ τ ρ : Nat → Nat → Int32) (os : Nat) : Prop := τ 436 1 = nI os ∧ ρ 0 10 = nI os ∧ (∀ j, j < os → cz (ρ 2 j) = cz (τ 437 j)) ∧ (∀ k j, ¬ (k = 436 ∧ j = 1) → k ≠ 437 → τ k j = σ k j) ∧ (∀ k j, k ≠ 2 → ¬ (k = 0 ∧ (j = 0 ∨ j = 10)) → ρ k j = μ k j) ∧ ρ 0 0 = 0
theorem OW.start (σ μ : Nat → Nat → Int32) : OW σ μ (sp_st σ 436 1 0) (sp_st (sp_st μ 0 0 0) 0 10 0) 0 :=
  ⟨sp_st_s _ _ _ _, sp_st_s _ _ _ _, fun j hj => absurd hj (by omega), fun k j q1 _ => by rw [sp_st_at, if_neg q1], fun k j q1 q2 => by rw [sp_st_at, if_neg (by omega), sp_st_at, if_neg (by omega)], by rw [sp_st_j _ _ _ _ _ _ (by decide), sp_st_s]⟩
theorem OW.app (w : OW σ μ τ ρ os) (ho : os < 90) {x y : Int32} (hxy : cz x = cz y) : OW σ μ (f_appO τ y) (m_wr ρ os x) (os + 1) := by
  obtain ⟨w1, w2, w3, w4, w5, w6⟩ := w
  have hlt : τ 436 1 < 90 := by rw [w1]; exact (nI_ltI (a := os) (b := 90) (by omega) (by decide)).mpr ho
  have htn : tn (τ 436 1) = os := by rw [w1]; exact tn_nI (by omega)
  unfold f_appO m_wr
  rw [if_pos hlt, htn]
  refine ⟨by rw [sp_st_s, w1]; exact nI_1 os, by rw [sp_st_s]; exact nI_1 os, fun j hj => ?_, fun k j q1 q2 => ?_, fun k j q1 q2 => ?_, ?_⟩
  · rw [sp_st_k _ 0 10 _ 2 j (by decide), sp_st_k _ 436 1 _ 437 j (by decide), sp_st_at, sp_st_at]
    by_cases q : j = os
    · rw [if_pos ⟨rfl, q⟩, if_pos ⟨rfl, q⟩, cz_cz]; exact hxy
    · rw [if_neg (fun z => q z.2), if_neg (fun z => q z.2)]; exact w3 j (by omega)
  · rw [sp_st_at, if_neg q1, sp_st_k _ _ _ _ _ _ q2]; exact w4 k j q1 q2
  · rw [sp_st_at, if_neg (by omega), sp_st_k _ _ _ _ _ _ q1]; exact w5 k j q1 q2
  · rw [sp_st_j _ _ _ _ _ _ (by decide), sp_st_k _ _ _ _ _ _ (by decide)]; exact w6
theorem OW.br (w : OW σ μ τ ρ os) (h : BR σ (μ 1) B n t pi ro) (hB : B < 1000000) : BR τ (μ 1) B n t pi ro := h.congr (fun k j hk => w.2.2.2.1 k j (by omega) (by omega)) (fun _ _ => rfl) (Nat.le_refl B) hB
theorem RR.out (h : RR B σ pm rc μ) (hB : B < 1000000) (w : OW σ μ τ ρ os) (ho : os ≤ 90) : RR B τ pm rc ρ := by
  obtain ⟨a, ⟨⟨ch, c1, c2, c3, c4⟩, p1, p2⟩, ⟨s1, s2⟩, j, o, i, e, hh⟩ := h
  obtain ⟨w1, w2, w3, w4, w5, w6⟩ := w
  have m1 : ∀ x, ρ 1 x = μ 1 x := fun x => w5 1 x (by decide) (by omega)
  refine ⟨a.congr (fun k j2 hk => w4 k j2 (by omega) (by omega)) (fun x _ => m1 x) (Nat.le_refl B) hB, ⟨⟨ch, c1, by rw [w5 0 2 (by decide) (by decide)]; exact c2, by rw [w4 431 1 (by decide) (by decide)]; exact c3, fun x hx => ?_⟩, p1, p2⟩, ⟨by rw [w5 0 3 (by decide) (by decide), w4 429 5 (by decide) (by decide)]; exact s1, fun z => ?_⟩, j.congr (fun x q1 q2 => w5 0 x (by decide) (by omega)), ⟨os, ho, w2, w1, w3⟩, i.congr (w5 0 12 (by decide) (by decide)) (fun x => w5 3 x (by decide) (by omega)) (w4 434 1 (by decide) (by decide)) (fun x => w4 435 x (by omega) (by decide)), by rw [w5 0 15 (by decide) (by decide), w4 429 9 (by decide) (by decide)]; exact e, by rw [w5 0 13 (by decide) (by decide)]; exact hh⟩
  · have hb9 := p1 x (by omega)
    exact (c4 x hx).congr (fun k j2 hk => w4 _ j2 (by omega) (by omega)) (fun y _ => m1 _) (Nat.le_refl B) hB
  · rw [w5 0 3 (by decide) (by decide)] at z
    exact (s2 z).congr (fun k j2 hk => w4 _ j2 (by omega) (by omega)) (fun y _ => m1 _) (Nat.le_refl B) hB
/-- one print written -/
theorem OW.print (w : OW σ μ τ ρ os) (h : BR σ (μ 1) B n t pi ro) (hB : B < 1000000) (ho : os + 3 ≤ 90) {x : Int32} {i k : Nat} (hi : m_po (μ 1) n x (nI i) = some k) (hk : k < n) : OW σ μ (f_wrP τ (some (pi k))) (S_wt μ n t x (os, ρ) i).2 (S_wt μ n t x (os, ρ) i).1 := by
  unfold S_wt
  rw [hi]
  show OW σ μ (f_wrE (f_wrD (f_appO τ (if τ (9 + pi k) 6 = 0 then 82 else 76)) (pi k)) (pi k)) (if m_errs1 (μ 1) n t k ≤ 0 then (if gP (μ 1) k 7 ≤ 0 then m_w1 (os, ρ) (if gP (μ 1) k 5 = 1 then 76 else 82) else m_w1 (m_w1 (os, ρ) (if gP (μ 1) k 5 = 1 then 76 else 82)) 63) else m_w1 (if gP (μ 1) k 7 ≤ 0 then m_w1 (os, ρ) (if gP (μ 1) k 5 = 1 then 76 else 82) else m_w1 (m_w1 (os, ρ) (if gP (μ 1) k 5 = 1 then 76 else 82)) 63) 33).2 (if m_errs1 (μ 1) n t k ≤ 0 then (if gP (μ 1) k 7 ≤ 0 then m_w1 (os, ρ) (if gP (μ 1) k 5 = 1 then 76 else 82) else m_w1 (m_w1 (os, ρ) (if gP (μ 1) k 5 = 1 then 76 else 82)) 63) else m_w1 (if gP (μ 1) k 7 ≤ 0 then m_w1 (os, ρ) (if gP (μ 1) k 5 = 1 then 76 else 82) else m_w1 (m_w1 (os, ρ) (if gP (μ 1) k 5 = 1 then 76 else 82)) 63) 33).1
  have p1 : 9 + pi k < 39 := by have := h.pi30 hk; omega
  have e1 : (if τ (9 + pi k) 6 = 0 then (82 : Int32) else 76) = if gP (μ 1) k 5 = 1 then 76 else 82 := by
    rw [(h.pe hk).2.2.2.2.2.1, w.2.2.2.1 _ 6 (by omega) (by omega)]
    unfold bz
    by_cases q : σ (9 + pi k) 6 = 0
    · rw [if_pos q, if_pos q, if_neg (by decide)]
    · rw [if_neg q, if_neg q, if_pos rfl]
  rw [e1]
  generalize (if gP (μ 1) k 5 = 1 then (76 : Int32) else 82) = y
  have a1 := w.app (by omega) (x := y) (y := y) rfl
  have hd : 0 < f_appO τ y (9 + pi k) 8 ↔ ¬ gP (μ 1) k 7 ≤ 0 := by
    rw [a1.2.2.2.1 _ 8 (by omega) (by omega), ← (h.pe hk).2.2.2.2.2.2.2.1]
    exact Int32.not_le.symm
  have a2 : ∃ o2, o2 ≤ os + 2 ∧ OW σ μ (f_wrD (f_appO τ y) (pi k)) (if gP (μ 1) k 7 ≤ 0 then m_w1 (os, ρ) y else m_w1 (m_w1 (os, ρ) y) 63).2 o2 ∧ (if gP (μ 1) k 7 ≤ 0 then m_w1 (os, ρ) y else m_w1 (m_w1 (os, ρ) y) 63).1 = o2 := by
    unfold f_wrD
    by_cases q : gP (μ 1) k 7 ≤ 0
    · rw [if_pos q, if_neg (fun z => (hd.mp z) q)]
      exact ⟨os + 1, by omega, a1, rfl⟩
    · rw [if_neg q, if_pos (hd.mpr q)]
      exact ⟨os + 1 + 1, by omega, a1.app (by omega) rfl, rfl⟩
  obtain ⟨o2, ho2, a3, e2⟩ := a2
  generalize hs : (if gP (μ 1) k 7 ≤ 0 then m_w1 (os, ρ) y else m_w1 (m_w1 (os, ρ) y) 63) = s at a3 e2 ⊢
  have he : f_hasError (f_wrD (f_appO τ y) (pi k)) (pi k) = decide (0 < m_errs1 (μ 1) n t k) := (a3.br h hB).hasErr hk
  unfold f_wrE
  rw [he]
  by_cases q : m_errs1 (μ 1) n t k ≤ 0
  · rw [if_pos q, if_neg (show ¬ decide (0 < m_errs1 (μ 1) n t k) = true by rw [decide_eq_true_eq]; exact Int32.not_lt.mpr q), e2]; exact a3
  · rw [if_neg q, if_pos (show decide (0 < m_errs1 (μ 1) n t k) = true by rw [decide_eq_true_eq]; exact Int32.not_le.mp q)]
    show OW σ μ (f_appO (f_wrD (f_appO τ y) (pi k)) 33) (m_wr s.2 s.1 33) (s.1 + 1)
    rw [e2]; exact a3.app (by omega) rfl
theorem wt_ok (h : BR σ (μ 1) B n t pi ro) (hB : B < 1000000) {r cnt : Nat} (hr : r < t) (hcn : m_count (μ 1) n (gT (μ 1) r) = nI cnt) (hc : cnt ≤ 30) : ∀ i : Nat, i ≤ cnt → OW σ μ (f_wrT σ (ro r) i) (m_wt μ n t (gT (μ 1) r) i).2 (m_wt μ n t (gT (μ 1) r) i).1 ∧ (m_wt μ n t (gT (μ 1) r) i).1 ≤ 3 * i
  | 0, _ => ⟨OW.start σ μ, Nat.zero_le _⟩
  | i + 1, hi => by
    obtain ⟨w, hw⟩ := wt_ok h hB hr hcn hc i (by omega)
    refine ⟨?_, m_wt_le hw⟩
    have hcN : cntN (tA (μ 1) (gT (μ 1) r)) n = cnt := by
      rw [m_count_N] at hcn
      have := cntN_le (tA (μ 1) (gT (μ 1) r)) n
      have := h.n30
      exact (nI_eq (by omega) (by omega)).mp hcn
    obtain ⟨k, hk, hkn, -⟩ := h.vx.po h.n30 (gT (μ 1) r) (q := i) (by omega)
    rw [m_wt_s]
    have hp : f_inPlace (f_wrT σ (ro r) i) (ro r) (nI i) = some (pi k) := by rw [(w.br h hB).po hr, hk]; rfl
    rw [← f_wrT_s hp]
    exact w.print h hB (by omega) hk hkn
theorem ag_wt (h : RR B σ pm rc μ) (hbr : BR σ (μ 1) B n t pi ro) (hB : B < 1000000) (x : Int32) {cnt : Nat} (hcn : m_count (μ 1) n x = nI cnt) (hc : cnt ≤ 30) : (atO (m_ft (μ 1) t x) (sp_st μ 0 0 1) (fun _ => (m_wt μ n t x cnt).2)) 0 0 = kC [eIOO] (f_xTrack σ x) ∧ (f_xTrack σ x = none → atO (f_findTrack σ x) 0 (fun k => f_wrTn σ k 436 1) = atO (m_ft (μ 1) t x) 0 (fun _ => nI (m_wt μ n t x cnt).1) ∧ RR B (atO (f_findTrack σ x) σ (fun k => f_wrTn σ k)) pm rc (atO (m_ft (μ 1) t x) (sp_st μ 0 0 1) (fun _ => (m_wt μ n t x cnt).2))) ∧ ∀ E r, f_xTrack σ x = some (E, r) → RR B σ pm (r.or rc) (atO (m_ft (μ 1) t x) (sp_st μ 0 0 1) (fun _ => (m_wt μ n t x cnt).2)) := by
  unfold f_xTrack
  rcases hbr.ft x with ⟨e1, e2⟩ | ⟨k, hk, e1, e2, e3⟩
  · rw [e1, e2]
    exact ⟨(sp_st_s _ _ _ _).trans kC_1.symm, fun z => by (cases z), fun E r z => by (cases z; exact h.thrown hB 1)⟩
  · rw [e1, e2]
    subst e3
    obtain ⟨w, hw⟩ := wt_ok hbr hB hk hcn hc cnt (Nat.le_refl cnt)
    have hct : f_countPrints (sp_st σ 436 1 0) (ro k) = nI cnt := by rw [((OW.start σ μ).br hbr hB).count hk]; exact hcn
    have e9 : f_wrTn σ (ro k) = f_wrT σ (ro k) cnt := by unfold f_wrTn; rw [hct, tn_nI (by omega)]
    refine ⟨w.2.2.2.2.2, fun _ => ⟨?_, ?_⟩, fun E r z => by cases z⟩
    · show f_wrTn σ (ro k) 436 1 = nI (m_wt μ n t (gT (μ 1) k) cnt).1
      rw [e9]; exact w.1
    · show RR B (f_wrTn σ (ro k)) pm rc (m_wt μ n t (gT (μ 1) k) cnt).2
      rw [e9]; exact h.out hB w (by omega)
theorem wo_ok (h : BR σ (μ 1) B n t pi ro) (hB : B < 1000000) (r : Int32) : ∀ i : Nat, i ≤ 20 → OW σ μ (f_wrR σ r i) (m_wo μ n r i) i
  | 0, _ => OW.start σ μ
  | i + 1, hi => by
    have w := wo_ok h hB r i (by omega)
    rw [m_wo_s]
    show OW σ μ (f_appO (f_wrR σ r i) (f_signOf (f_wrR σ r i) r (nI i))) _ _
    refine w.app (by omega) ?_
    have hw := w.br h hB
    unfold m_sg f_signOf f_under
    rw [← hw.2.2.2.1.2.2.1, hw.cell hB]
    by_cases q : r < μ 1 4
    · rw [if_pos q, if_pos (decide_eq_true q)]
    · rw [if_neg q, if_neg (show ¬ decide (r < μ 1 4) = true by rw [decide_eq_true_eq]; exact q)]
      rcases hq : m_cell (μ 1) n r (nI i) with _ | k
      · rfl
      · show cz (48 + (gP (μ 1) k 0 - gP (μ 1) k 0 / 10 * 10)) = cz (cz (48 + (f_wrR σ r i (9 + pi k) 1 - f_wrR σ r i (9 + pi k) 1 / 10 * 10)))
        rw [cz_cz, (hw.pe (m_cell_lt hq)).1]
theorem ag_wo (h : RR B σ pm rc μ) (hbr : BR σ (μ 1) B n t pi ro) (hB : B < 1000000) (r : Int32) : (if m_in r 0 9 = true then m_wo μ n r 20 else sp_st μ 0 0 1) 0 0 = kC [eIOO] (f_xRow r) ∧ (f_xRow r = none → f_wrR σ r 20 436 1 = (if m_in r 0 9 = true then 20 else 0) ∧ RR B (f_wrR σ r 20) pm rc (if m_in r 0 9 = true then m_wo μ n r 20 else sp_st μ 0 0 1)) ∧ ∀ E r2, f_xRow r = some (E, r2) → RR B σ pm (r2.or rc) (if m_in r 0 9 = true then m_wo μ n r 20 else sp_st μ 0 0 1) := by
  unfold f_xRow
  rw [row_in]
  by_cases q : m_in r 0 9 = true
  · rw [if_pos q, if_pos q, if_pos q]
    have w := wo_ok hbr hB r 20 (Nat.le_refl 20)
    exact ⟨w.2.2.2.2.2, fun _ => ⟨w.1, h.out hB w (by decide)⟩, fun E r2 z => by cases z⟩
  · rw [if_neg q, if_neg q]
    exact ⟨(sp_st_s _ _ _ _).trans kC_1.symm, fun z => by (cases z), fun E r2 z => by (cases z; exact h.thrown hB 1)⟩
end CHV
