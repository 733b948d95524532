/-! prints turned, doubted, confirmed; the tide; back and forth -/
section CHU
variable {σ ς μ τ : Nat → Nat → Int32} {B n t ch : Nat} {pi ro pm : Nat → Nat} {rc : Option RC}
/-- one print's field written, on success -/
theorem CHG.setP {L : List String} {x : XO} {w j9 k : Nat} {v v9 z p1 p2 p3 : Int32} {ok : Prop} (h : RR B σ pm rc μ) (hch : μ 0 2 = nI ch) (hc : ch ≤ 8) (hB : B + 1 < 1000000) (hx : x = none) (hk : k < 30) (hw : w < 9) {q : Nat} (hq : q < 30) (hbe : BR (sp_st (f_push σ pm 0) (9 + q) j9 v9) (sp_st (sp_st (m_copy μ 0 10) 0 4 z) 1 (19 + 9 * k + w) v 1) B n t pi ro) (hv : m_endv 0 p1 p2 p3 = 0) (hok : ok) : CHG L x B (B + 1) σ (sp_st (f_push σ pm 0) (9 + q) j9 v9) pm rc (m_ends (sp_st (sp_st (m_copy μ 0 10) 0 4 z) 1 (19 + 9 * k + w) v) ch 0 p1 p2 p3) ok := by
  refine CHG.succ h hch hc (by omega) hB hx (fun k2 j hk2 => sp_st_k _ _ _ _ _ _ (by omega)) ?_ ((MF.rf.st (by decide)).st (Or.inl rfl)) (fun j hj => ?_) (fun j hj hj8 => ?_) hv hok
  · exact BE.congr ⟨_, _, _, _, hbe⟩ (fun _ _ _ => rfl) (fun _ _ => rfl) (by omega) hB
  · rw [sp_st_j _ _ _ _ _ _ (by omega), sp_st_k _ _ _ _ _ _ (by decide)]
  · rw [sp_st_k _ _ _ _ _ _ (by decide), sp_st_j _ _ _ _ _ _ (by omega), m_copy_k (by decide)]
theorem ch_swap (h : RR B σ pm rc μ) (hbr : BR σ (μ 1) B n t pi ro) (hch : μ 0 2 = nI ch) (hc : ch ≤ 8) (hB : B + 1 < 1000000) (x : Int32) : CHG [eIOO] (f_xPrint σ x) B (B + 1) σ (atO (f_findPrint σ x) (f_push σ pm 0) (fun k => sp_st (f_push σ pm 0) (9 + k) 6 (b2i ((f_push σ pm 0) (9 + k) 6 == 0)))) pm rc (m_ends (m_swap (m_copy μ 0 10) n x) ch (m_by (m_find (m_copy μ 0 10 1) n x)) 1 0 0) (b2i (atO (f_findPrint σ x) false (fun k => (f_push σ pm 0) (9 + k) 6 == 0)) = b2i (m_endr (m_swap (m_copy μ 0 10) n x) (m_by (m_find (m_copy μ 0 10 1) n x)) 1 0 0 == 1)) := by
  obtain ⟨hS, hp⟩ := h.brs (by omega) hbr
  unfold m_swap f_xPrint
  rcases hS.fp x with ⟨e1, e2⟩ | ⟨k, hk, e1, e2⟩
  · rw [e1, e2]
    exact CHG.fail (E := eIOO) (r := none) h (by omega) hc rfl MF.rf (fun j _ => rfl) h.rj0 (show m_endv 1 1 0 0 = 1 by decide) kC_1 (by decide)
  · rw [e1, e2]
    obtain ⟨hbe, he⟩ := hp.swap (by omega) hk
    refine CHG.setP h hch hc hB rfl (by have := hS.n30; omega) (by decide) (hp.pi30 hk) hbe (by decide) ?_
    show b2i ((f_push σ pm 0) (9 + pi k) 6 == 0) = b2i ((if m_endv 0 1 0 0 = 0 then sp_st (sp_st (m_copy μ 0 10) 0 4 (1 - gP (m_copy μ 0 10 1) k 5)) 1 (19 + 9 * k + 5) (1 - gP (m_copy μ 0 10 1) k 5) 0 4 else 0) == 1)
    rw [if_pos (by decide), sp_st_k _ _ _ _ _ _ (by decide), sp_st_s, he]
    rcases ((f_push σ pm 0) (9 + pi k) 6 == 0) with _ | _ <;> decide
theorem ch_doubt (h : RR B σ pm rc μ) (hbr : BR σ (μ 1) B n t pi ro) (hch : μ 0 2 = nI ch) (hc : ch ≤ 8) (hB : B + 1 < 1000000) (x : Int32) : CHG [eIOO, eUOE] ((f_xPrint σ x).or (atO (f_findPrint σ x) none (fun k => f_xRej (f_objDoubt σ k)))) B (B + 1) σ (atO (f_findPrint σ x) (f_push σ pm 0) (fun k => sp_st (f_push σ pm 0) (9 + k) 8 ((f_push σ pm 0) (9 + k) 8 + 1))) pm rc (m_ends (m_doub (m_copy μ 0 10) n x) ch (atO (m_find (m_copy μ 0 10 1) n x) 1 (fun k => if gP (m_copy μ 0 10 1) k 7 = 3 then 3 else 0)) 1 0 2) (atO (f_findPrint σ x) 0 (fun k => (f_push σ pm 0) (9 + k) 8 + 1) = m_endr (m_doub (m_copy μ 0 10) n x) (atO (m_find (m_copy μ 0 10 1) n x) 1 (fun k => if gP (m_copy μ 0 10 1) k 7 = 3 then 3 else 0)) 1 0 2) := by
  obtain ⟨hS, hp⟩ := h.brs (by omega) hbr
  unfold m_doub f_xPrint
  rcases hS.fp x with ⟨e1, e2⟩ | ⟨k, hk, e1, e2⟩
  · rw [e1, e2]
    exact CHG.fail (E := eIOO) (r := none) h (by omega) hc rfl MF.rf (fun j _ => rfl) h.rj0 (show m_endv 1 1 0 2 = 1 by decide) kC_1 (by decide)
  · rw [e1, e2]
    show CHG [eIOO, eUOE] (f_xRej (f_objDoubt σ (pi k))) B (B + 1) σ (sp_st (f_push σ pm 0) (9 + pi k) 8 ((f_push σ pm 0) (9 + pi k) 8 + 1)) pm rc (m_ends (if gP (m_copy μ 0 10 1) k 7 = 3 then m_rej (m_copy μ 0 10) 7 3 else sp_st (sp_st (m_copy μ 0 10) 0 4 (gP (m_copy μ 0 10 1) k 7 + 1)) 1 (19 + 9 * k + 7) (gP (m_copy μ 0 10 1) k 7 + 1)) ch (if gP (m_copy μ 0 10 1) k 7 = 3 then 3 else 0) 1 0 2) ((f_push σ pm 0) (9 + pi k) 8 + 1 = m_endr (if gP (m_copy μ 0 10 1) k 7 = 3 then m_rej (m_copy μ 0 10) 7 3 else sp_st (sp_st (m_copy μ 0 10) 0 4 (gP (m_copy μ 0 10 1) k 7 + 1)) 1 (19 + 9 * k + 7) (gP (m_copy μ 0 10 1) k 7 + 1)) (if gP (m_copy μ 0 10 1) k 7 = 3 then 3 else 0) 1 0 2)
    rw [hS.objD hk]
    by_cases q : gP (m_copy μ 0 10 1) k 7 = 3
    · rw [if_pos q, if_pos q, if_pos q]
      exact CHG.fail (E := eUOE) (r := some (7, 3, none)) h (by omega) hc rfl MF.rf.rej (fun j _ => rej_1) (rej_J (by decide)) (show m_endv 3 1 0 2 = 2 by decide) (kC_2 ne_UI) (by decide)
    · rw [if_neg q, if_neg q, if_neg q]
      refine CHG.setP h hch hc hB rfl (by have := hS.n30; omega) (by decide) (hp.pi30 hk) (hp.doubt (by omega) hk q) (by decide) ?_
      unfold m_endr
      rw [if_pos (by decide), sp_st_k _ _ _ _ _ _ (by decide), sp_st_s, (hp.pe hk).2.2.2.2.2.2.2.1]
theorem ch_conf (h : RR B σ pm rc μ) (hbr : BR σ (μ 1) B n t pi ro) (hch : μ 0 2 = nI ch) (hc : ch ≤ 8) (hB : B + 1 < 1000000) (x : Int32) : CHG [eIOO, eUOE] ((f_xPrint σ x).or (atO (f_findPrint σ x) none (fun k => f_xRej (f_objConf σ k)))) B (B + 1) σ (atO (f_findPrint σ x) (f_push σ pm 0) (fun k => sp_st (f_push σ pm 0) (9 + k) 8 0)) pm rc (m_ends (m_conf (m_copy μ 0 10) n x) ch (atO (m_find (m_copy μ 0 10 1) n x) 1 (fun k => if gP (m_copy μ 0 10 1) k 7 = 0 then 3 else 0)) 1 0 2) (atO (f_findPrint σ x) 0 (fun k => (f_push σ pm 0) (9 + k) 8) = m_endr (m_conf (m_copy μ 0 10) n x) (atO (m_find (m_copy μ 0 10 1) n x) 1 (fun k => if gP (m_copy μ 0 10 1) k 7 = 0 then 3 else 0)) 1 0 2) := by
  obtain ⟨hS, hp⟩ := h.brs (by omega) hbr
  unfold m_conf f_xPrint
  rcases hS.fp x with ⟨e1, e2⟩ | ⟨k, hk, e1, e2⟩
  · rw [e1, e2]
    exact CHG.fail (E := eIOO) (r := none) h (by omega) hc rfl MF.rf (fun j _ => rfl) h.rj0 (show m_endv 1 1 0 2 = 1 by decide) kC_1 (by decide)
  · rw [e1, e2]
    show CHG [eIOO, eUOE] (f_xRej (f_objConf σ (pi k))) B (B + 1) σ (sp_st (f_push σ pm 0) (9 + pi k) 8 0) pm rc (m_ends (if gP (m_copy μ 0 10 1) k 7 = 0 then m_rej (sp_st (m_copy μ 0 10) 0 4 (gP (m_copy μ 0 10 1) k 7)) 8 0 else sp_st (sp_st (m_copy μ 0 10) 0 4 (gP (m_copy μ 0 10 1) k 7)) 1 (19 + 9 * k + 7) 0) ch (if gP (m_copy μ 0 10 1) k 7 = 0 then 3 else 0) 1 0 2) ((f_push σ pm 0) (9 + pi k) 8 = m_endr (if gP (m_copy μ 0 10 1) k 7 = 0 then m_rej (sp_st (m_copy μ 0 10) 0 4 (gP (m_copy μ 0 10 1) k 7)) 8 0 else sp_st (sp_st (m_copy μ 0 10) 0 4 (gP (m_copy μ 0 10 1) k 7)) 1 (19 + 9 * k + 7) 0) (if gP (m_copy μ 0 10 1) k 7 = 0 then 3 else 0) 1 0 2)
    rw [hS.objC hk]
    by_cases q : gP (m_copy μ 0 10 1) k 7 = 0
    · rw [if_pos q, if_pos q, if_pos q]
      exact CHG.fail (E := eUOE) (r := some (8, 0, none)) h (by omega) hc rfl (MF.rf.st (by decide)).rej (fun j _ => by rw [rej_1, sp_st_k _ _ _ _ _ _ (by decide)]) (rej_J (by decide)) (show m_endv 3 1 0 2 = 2 by decide) (kC_2 ne_UI) (by decide)
    · rw [if_neg q, if_neg q, if_neg q]
      refine CHG.setP h hch hc hB rfl (by have := hS.n30; omega) (by decide) (hp.pi30 hk) (hp.conf (by omega) hk _) (by decide) ?_
      unfold m_endr
      rw [if_pos (by decide), sp_st_k _ _ _ _ _ _ (by decide), sp_st_s, (hp.pe hk).2.2.2.2.2.2.2.1]
theorem ch_tide (h : RR B σ pm rc μ) (hbr : BR σ (μ 1) B n t pi ro) (hch : μ 0 2 = nI ch) (hc : ch ≤ 8) (hB : B + 1 < 1000000) (v : Int32) : CHG [eIAE, eUOE] ((f_xLevel v).or (f_xRej (f_objTide σ v))) B (B + 1) σ (f_tide (f_push σ pm 0) v) pm rc (m_ends (m_tide (m_copy μ 0 10) n v) ch (m_tidev (m_copy μ 0 10 1) v) 0 1 2) (f_below (f_push σ pm 0) v = m_endr (m_tide (m_copy μ 0 10) n v) (m_tidev (m_copy μ 0 10 1) v) 0 1 2) := by
  obtain ⟨hS, hp⟩ := h.brs (by omega) hbr
  unfold m_tide m_tidev f_xLevel
  rw [in_in, hS.objW]
  by_cases q : m_in v 0 8 = true
  · rw [if_pos q, if_pos q, if_pos q]
    by_cases q2 : m_copy μ 0 10 1 4 = v
    · rw [if_pos q2, if_pos q2, if_pos q2]
      exact CHG.fail (E := eUOE) (r := some (9, v, none)) h (by omega) hc rfl MF.rf.rej (fun j _ => rej_1) (rej_J (by decide)) (show m_endv 3 0 1 2 = 2 by decide) (kC_2 ne_UA) (by decide)
    · rw [if_neg q2, if_neg q2, if_neg q2]
      have qv := q
      unfold m_in at qv
      rw [Bool.and_eq_true, decide_eq_true_eq, decide_eq_true_eq] at qv
      obtain ⟨n', pi', hbe⟩ := hp.tideS (by omega) qv
      have hms : MS (sp_st (m_copy μ 0 10) 0 4 (m_below (m_copy μ 0 10 1) n v) 1) n t := hS.1.st0
      refine CHG.succ h hch hc (by omega) hB rfl (fun k2 j hk2 => ?_) ?_ (((MF.rm (MF.rf.st (by decide))).st (Or.inl rfl)).st (Or.inl rfl)) (fun j hj => ?_) (fun j hj hj8 => ?_) (by decide) ?_
      · unfold f_tide f_tideP
        rw [sp_st_k _ _ _ _ _ _ (by omega), if_neg (by omega), sp_st_k _ _ _ _ _ _ (by omega)]
      · exact BE.congr ⟨_, _, _, _, hbe⟩ (fun _ _ _ => rfl) (fun _ _ => rfl) (by omega) hB
      · rw [sp_st_j _ _ _ _ _ _ (by omega), sp_st_j _ _ _ _ _ _ (by omega), rm_hi hms hj n (Nat.le_refl n), sp_st_k _ _ _ _ _ _ (by decide)]
      · rw [sp_st_k _ _ _ _ _ _ (by decide), sp_st_k _ _ _ _ _ _ (by decide), m_rm_out (Or.inl (by decide)), sp_st_j _ _ _ _ _ _ (by omega), m_copy_k (by decide)]
      · unfold m_endr
        rw [if_pos (by decide), sp_st_k _ _ _ _ _ _ (by decide), sp_st_k _ _ _ _ _ _ (by decide), m_rm_out (Or.inl (by decide)), sp_st_s, hp.belowT]
  · rw [if_neg q, if_neg q, if_neg q]
    exact CHG.fail (E := eIAE) (r := none) h (by omega) hc rfl MF.rf (fun j _ => rfl) h.rj0 (show m_endv 2 0 1 2 = 1 by decide) kC_1 (by decide)
/-! undo and the snapshot -/
theorem pm_pop_ok (h1 : ∀ j, j < 8 → 1 ≤ pm j ∧ pm j ≤ 8) (h2 : ∀ i j, i < 8 → j < 8 → pm i = pm j → i = j) : (∀ j, j < 8 → 1 ≤ pm_pop pm j ∧ pm_pop pm j ≤ 8) ∧ ∀ i j, i < 8 → j < 8 → pm_pop pm i = pm_pop pm j → i = j := by
  refine ⟨fun j hj => ?_, fun i j hi hj he => ?_⟩
  · unfold pm_pop
    by_cases q : j = 7
    · rw [if_pos q]; exact h1 0 (by decide)
    · rw [if_neg q, if_pos (by omega)]; exact h1 (j + 1) (by omega)
  · unfold pm_pop at he
    by_cases q : i = 7
    · by_cases q2 : j = 7
      · omega
      · rw [if_pos q, if_neg q2, if_pos (by omega)] at he
        have := h2 0 (j + 1) (by decide) (by omega) he; omega
    · by_cases q2 : j = 7
      · rw [if_neg q, if_pos (by omega), if_pos q2] at he
        have := h2 (i + 1) 0 (by omega) (by decide) he; omega
      · rw [if_neg q, if_pos (by omega), if_neg q2, if_pos (by omega)] at he
        have := h2 (i + 1) (j + 1) (by omega) (by omega) he; omega
theorem ch_undo (h : RR B σ pm rc μ) (hch : μ 0 2 = nI ch) (hc : ch ≤ 8) (hB : B < 1000000) : ((if 0 < nI ch then sp_st (m_copy (sp_st μ 0 0 0) ch 0) 0 2 (nI ch - 1) else sp_st μ 0 0 1) 0 0 = kC [eISE] (f_xIs (σ 431 1 == 0))) ∧ (f_xIs (σ 431 1 == 0) = none → imax (σ 431 1 - 1) 0 = (if 0 < nI ch then nI ch - 1 else 0) ∧ RR B (f_pop σ pm) (pm_pop pm) rc (if 0 < nI ch then sp_st (m_copy (sp_st μ 0 0 0) ch 0) 0 2 (nI ch - 1) else sp_st μ 0 0 1)) ∧ ∀ E r, f_xIs (σ 431 1 == 0) = some (E, r) → RR B σ pm (r.or rc) (if 0 < nI ch then sp_st (m_copy (sp_st μ 0 0 0) ch 0) 0 2 (nI ch - 1) else sp_st μ 0 0 1) := by
  have hall := h
  obtain ⟨a, ⟨⟨ch2, c1, c2, c3, c4⟩, p1, p2⟩, ⟨s1, s2⟩, hj, ho, hi, he, hh⟩ := h
  have hcc : ch2 = ch := by rw [hch] at c2; exact ((nI_eq (by omega) (by omega)).mp c2).symm
  subst hcc
  rw [c3]
  unfold f_xIs
  rcases Nat.eq_zero_or_pos ch2 with q | q
  · subst q
    have z0 : ¬ (0 : Int32) < nI 0 := by decide
    have z1 : (nI 0 == 0) = true := by decide
    simp only [if_neg z0, if_pos z1]
    exact ⟨by rw [sp_st_s]; exact kC_1.symm, fun z => by (cases z), fun E r z => by (cases z; exact hall.thrown hB 1)⟩
  · have hlt : (0 : Int32) < nI ch2 := nI_lt (a := 0) q (by omega)
    have hne : ¬ (nI ch2 == 0) = true := fun z => by
      rw [beq_iff_eq] at z
      rw [z] at hlt
      exact absurd hlt (by decide)
    have hm1 : nI ch2 - 1 = nI (ch2 - 1) := nI_subE rfl rfl (by omega)
    rw [if_pos hlt, if_pos hlt, if_neg hne]
    have p0 := p1 0 (by decide)
    obtain ⟨pp1, pp2⟩ := pm_pop_ok p1 p2
    have hk : ∀ k j, k ≠ 1 → ¬ (k = 0 ∧ (j = 2 ∨ j = 0)) → sp_st (m_copy (sp_st μ 0 0 0) ch2 0) 0 2 (nI ch2 - 1) k j = μ k j := fun k j q1 q2 => by
      rw [sp_st_at, if_neg (by omega), m_copy_k q1, sp_st_at, if_neg (by omega)]
    have hb : ∀ v j, j < 289 → v ≤ 10 → sp_st (m_copy (sp_st μ 0 0 0) ch2 0) 0 2 (nI ch2 - 1) 1 (289 * v + j) = if v = 0 then μ 1 (289 * ch2 + j) else μ 1 (289 * v + j) := fun v j hj9 hv => by
      rw [sp_st_k _ _ _ _ _ _ (by decide)]
      by_cases q3 : v = 0
      · rw [if_pos q3, m_copy_at (by omega), sp_st_k _ _ _ _ _ _ (by decide)]
        exact congrArg _ (by omega)
      · rw [if_neg q3, m_copy_hi (by omega), sp_st_k _ _ _ _ _ _ (by decide)]
    have hg : ∀ k j, 39 ≤ k → ¬ (k = 431 ∧ j = 1) → f_pop σ pm k j = σ k j := fun k j q1 q2 => by
      unfold f_pop f_copyB
      rw [sp_st_at, if_neg q2, if_neg (by omega)]
    have hg0 : ∀ k j, k < 39 → f_pop σ pm k j = σ (39 * pm 0 + k) j := fun k j q1 => by
      unfold f_pop f_copyB
      rw [sp_st_at, if_neg (by omega), if_pos (by omega)]
      exact congrArg (fun x => σ x j) (by omega)
    refine ⟨by rw [sp_st_j _ _ _ _ _ _ (by decide), m_copy_k (by decide), sp_st_s]; rfl, fun _ => ⟨?_, ?_⟩, fun E r z => by cases z⟩
    · rw [hm1]
      unfold imax
      rw [if_neg (nI_pos (by omega))]
    · refine ⟨?_, ⟨⟨ch2 - 1, by omega, ?_, ?_, fun j hj9 => ?_⟩, pp1, pp2⟩, ⟨?_, fun z => ?_⟩, hj.congr (fun j q1 q2 => hk 0 j (by decide) (by omega)), ho.congr (hk 0 10 (by decide) (by decide)) (fun j => hk 2 j (by decide) (by omega)) (hg _ _ (by decide) (by decide)) (fun j => hg _ _ (by decide) (by omega)), hi.congr (hk 0 12 (by decide) (by decide)) (fun j => hk 3 j (by decide) (by omega)) (hg _ _ (by decide) (by decide)) (fun j => hg _ _ (by decide) (by omega)), ?_, ?_⟩
      · refine (c4 0 q).congr (fun k j hk9 => hg0 k j hk9) (fun j hj9 => ?_) (Nat.le_refl B) hB
        have h9 := hb 0 j hj9 (by decide)
        rw [if_pos rfl, show 289 * 0 + j = j by omega] at h9
        exact h9
      · rw [sp_st_s, hm1]
      · unfold f_pop
        rw [sp_st_s, c3, hm1]
        unfold imax
        rw [if_neg (nI_pos (by omega))]
      · have hpm : pm_pop pm j = pm (j + 1) := by unfold pm_pop; rw [if_neg (by omega), if_pos (by omega)]
        have hb9 := p1 (j + 1) (by omega)
        rw [hpm]
        refine (c4 (j + 1) (by omega)).congr (fun k j2 hk9 => hg _ _ (by omega) (by omega)) (fun j2 hj2 => ?_) (Nat.le_refl B) hB
        show _ = μ 1 (289 * (ch2 - (j + 1)) + j2)
        have h9 := hb (ch2 - 1 - j) j2 hj2 (by omega)
        rw [if_neg (by omega)] at h9
        exact h9.trans (congrArg _ (by omega))
      · rw [hk 0 3 (by decide) (by decide), hg _ _ (by decide) (by decide)]; exact s1
      · rw [hk 0 3 (by decide) (by decide)] at z
        refine (s2 z).congr (fun k j hk9 => hg _ _ (by omega) (by omega)) (fun j hj9 => ?_) (Nat.le_refl B) hB
        have h9 := hb 9 j hj9 (by decide)
        rw [if_neg (by decide)] at h9
        exact h9
      · rw [hk 0 15 (by decide) (by decide), hg _ _ (by decide) (by decide)]; exact he
      · rw [hk 0 13 (by decide) (by decide)]; exact hh
theorem ch_save (h : RR B σ pm rc μ) (hbr : BR σ (μ 1) B n t pi ro) (hB : B < 1000000) : f_countPrintsInRows (sp_st (f_copyB σ 10 0) 429 5 1) 0 10 = nI n ∧ RR B (sp_st (f_copyB σ 10 0) 429 5 1) pm rc (m_copy (sp_st (sp_st μ 0 0 0) 0 3 1) 0 9) := by
  obtain ⟨a, ⟨⟨ch2, c1, c2, c3, c4⟩, p1, p2⟩, ⟨s1, s2⟩, hj, ho, hi, he, hh⟩ := h
  have hk : ∀ k j, k ≠ 1 → ¬ (k = 0 ∧ (j = 3 ∨ j = 0)) → m_copy (sp_st (sp_st μ 0 0 0) 0 3 1) 0 9 k j = μ k j := fun k j q1 q2 => by
    rw [m_copy_k q1, sp_st_at, if_neg (by omega), sp_st_at, if_neg (by omega)]
  have hb : ∀ v j, j < 289 → v ≤ 10 → m_copy (sp_st (sp_st μ 0 0 0) 0 3 1) 0 9 1 (289 * v + j) = if v = 9 then μ 1 j else μ 1 (289 * v + j) := fun v j hj9 hv => by
    by_cases q3 : v = 9
    · rw [if_pos q3, m_copy_at (by omega), sp_st_k _ _ _ _ _ _ (by decide), sp_st_k _ _ _ _ _ _ (by decide)]
      exact congrArg _ (by omega)
    · have h9 : ∀ ρ : Nat → Nat → Int32, m_copy ρ 0 9 1 (289 * v + j) = ρ 1 (289 * v + j) := fun ρ => by unfold m_copy m_cp; rw [if_neg (by omega)]
      rw [if_neg q3, h9, sp_st_k _ _ _ _ _ _ (by decide), sp_st_k _ _ _ _ _ _ (by decide)]
  have hg : ∀ k j, (k < 390 ∨ 429 ≤ k) → ¬ (k = 429 ∧ j = 5) → sp_st (f_copyB σ 10 0) 429 5 1 k j = σ k j := fun k j q1 q2 => by
    unfold f_copyB
    rw [sp_st_at, if_neg q2, if_neg (by omega)]
  refine ⟨?_, a.congr (fun k j hk9 => hg _ _ (Or.inl (by omega)) (by omega)) (fun j hj9 => ?_) (Nat.le_refl B) hB, ⟨⟨ch2, c1, ?_, ?_, fun j hj9 => ?_⟩, p1, p2⟩, ⟨?_, fun _ => ?_⟩, hj.congr (fun j q1 q2 => hk 0 j (by decide) (by omega)), ho.congr (hk 0 10 (by decide) (by decide)) (fun j => hk 2 j (by decide) (by omega)) (hg _ _ (Or.inr (by decide)) (by decide)) (fun j => hg _ _ (Or.inr (by decide)) (by omega)), hi.congr (hk 0 12 (by decide) (by decide)) (fun j => hk 3 j (by decide) (by omega)) (hg _ _ (Or.inr (by decide)) (by decide)) (fun j => hg _ _ (Or.inr (by decide)) (by omega)), ?_, ?_⟩
  · exact (hbr.congr (g' := sp_st (f_copyB σ 10 0) 429 5 1) (f' := μ 1) (fun k j hk9 => hg _ _ (Or.inl (by omega)) (by omega)) (fun _ _ => rfl) (Nat.le_refl B) hB).all
  · have h9 := hb 0 j hj9 (by decide)
    rw [if_neg (by decide), show 289 * 0 + j = j by omega] at h9
    exact h9
  · rw [hk 0 2 (by decide) (by decide)]; exact c2
  · rw [hg _ _ (Or.inr (by decide)) (by decide)]; exact c3
  · have hb9 := p1 j (by omega)
    refine (c4 j hj9).congr (fun k j2 hk9 => hg _ _ (Or.inl (by omega)) (by omega)) (fun j2 hj2 => ?_) (Nat.le_refl B) hB
    have h9 := hb (ch2 - j) j2 hj2 (by omega)
    rw [if_neg (by omega)] at h9
    exact h9
  · rw [m_copy_k (by decide), sp_st_s, sp_st_s]
  · refine a.congr (fun k j hk9 => ?_) (fun j hj9 => ?_) (Nat.le_refl B) hB
    · show sp_st (f_copyB σ 10 0) 429 5 1 (39 * 10 + k) j = σ k j
      unfold f_copyB
      rw [sp_st_at, if_neg (by omega), if_pos (by omega)]
      exact congrArg (fun x => σ x j) (by omega)
    · have h9 := hb 9 j hj9 (by decide)
      rw [if_pos rfl] at h9
      exact h9
  · rw [hk 0 15 (by decide) (by decide), hg _ _ (Or.inr (by decide)) (by decide)]; exact he
  · rw [hk 0 13 (by decide) (by decide)]; exact hh
end CHU
