/-! the other changes as calls -/
section CHT
variable {σ ς μ τ : Nat → Nat → Int32} {B n t ch : Nat} {pi ro pm : Nat → Nat} {rc : Option RC}
theorem ch_removeTrack (h : RR B σ pm rc μ) (hbr : BR σ (μ 1) B n t pi ro) (hch : μ 0 2 = nI ch) (hc : ch ≤ 8) (hB : B + 1 < 1000000) (x : Int32) : CHG [eIOO] (f_xTrack σ x) B (B + 1) σ (atO (f_findTrack σ x) (f_push σ pm 0) (fun k => sp_st (f_dropP (f_push σ pm 0) ((f_push σ pm 0) (3 + k) 1) 30) (3 + k) 0 0)) pm rc (m_ends (m_rmTr (m_copy μ 0 10) n t x) ch (m_by (m_ft (m_copy μ 0 10 1) t x)) 1 0 0) (atO (f_findTrack σ x) 0 (fun k => f_dropTv (f_push σ pm 0) k) = m_endr (m_rmTr (m_copy μ 0 10) n t x) (m_by (m_ft (m_copy μ 0 10 1) t x)) 1 0 0) := by
  obtain ⟨hS, hp⟩ := h.brs (by omega) hbr
  have ht := hbr.t6
  unfold m_rmTr f_xTrack
  rcases hS.ft x with ⟨e1, e2⟩ | ⟨k, hk, e1, e2, e3⟩
  · rw [e1, e2]
    exact CHG.fail (E := eIOO) (r := none) h (by omega) hc rfl MF.rf (fun j _ => rfl) h.rj0 (show m_endv 1 1 0 0 = 1 by decide) kC_1 (by decide)
  · rw [e1, e2, ← e3]
    show CHG [eIOO] none B (B + 1) σ (sp_st (f_dropP (f_push σ pm 0) ((f_push σ pm 0) (3 + ro k) 1) 30) (3 + ro k) 0 0) pm rc (m_ends (m_rmT (m_rm (mQ_tr (gT (m_copy μ 0 10 1) k)) n (sp_st (m_copy μ 0 10) 0 4 (m_count (m_copy μ 0 10 1) n (gT (m_copy μ 0 10 1) k))) n).2 t k) ch 0 1 0 0) (f_dropTv (f_push σ pm 0) (ro k) = m_endr (m_rmT (m_rm (mQ_tr (gT (m_copy μ 0 10 1) k)) n (sp_st (m_copy μ 0 10) 0 4 (m_count (m_copy μ 0 10 1) n (gT (m_copy μ 0 10 1) k))) n).2 t k) 0 1 0 0)
    have hk6 := hS.ro6 hk
    obtain ⟨n', pi', ro', hbe⟩ := hp.rmTrack (by omega) hk (m_count (m_copy μ 0 10 1) n (gT (m_copy μ 0 10 1) k))
    have hms : MS (sp_st (m_copy μ 0 10) 0 4 (m_count (m_copy μ 0 10 1) n (gT (m_copy μ 0 10 1) k)) 1) n t := hS.1.st0
    refine CHG.succ h hch hc (by omega) hB rfl (fun k2 j hk2 => ?_) ?_ ?_ (fun j hj => ?_) (fun j hj hj8 => ?_) (by decide) ?_
    · rw [sp_st_k _ _ _ _ _ _ (by omega)]
      unfold f_dropP
      rw [if_neg (by omega)]
    · exact BE.congr ⟨_, _, _, _, hbe⟩ (fun _ _ _ => rfl) (fun _ _ => rfl) (by omega) hB
    · exact (((MF.mv (MF.rm (MF.rf.st (by decide)))).st (Or.inl rfl)).st (Or.inl rfl)).st (Or.inl rfl)
    · unfold m_rmT
      rw [sp_st_j _ _ _ _ _ _ (by omega), sp_st_j _ _ _ _ _ _ (by omega), sp_st_j _ _ _ _ _ _ (by omega)]
      unfold m_mv
      rw [if_neg (by omega), rm_hi hms hj n (Nat.le_refl n), sp_st_k _ _ _ _ _ _ (by decide)]
    · unfold m_rmT
      rw [sp_st_k _ _ _ _ _ _ (by decide), sp_st_k _ _ _ _ _ _ (by decide), sp_st_k _ _ _ _ _ _ (by decide)]
      unfold m_mv
      rw [if_neg (by omega), m_rm_out (Or.inl (by decide)), sp_st_j _ _ _ _ _ _ (by omega), m_copy_k (by decide)]
    · unfold m_endr
      rw [if_pos (by decide), hp.onT hk]
      unfold m_rmT
      rw [sp_st_k _ _ _ _ _ _ (by decide), sp_st_k _ _ _ _ _ _ (by decide), sp_st_k _ _ _ _ _ _ (by decide)]
      unfold m_mv
      rw [if_neg (by omega), m_rm_out (Or.inl (by decide)), sp_st_s]
theorem ch_addPrint (h : RR B σ pm rc μ) (hbr : BR σ (μ 1) B n t pi ro) (hch : μ 0 2 = nI ch) (hc : ch ≤ 8) (hB : B + 1 < 1000000) (x u r c1 z : Int32) (lf : Bool) : CHG [eIOO, eIAE, eUOE] ((f_xTrack σ x).or ((f_xCell r c1).or ((f_xIn (f_in 0 999 u && f_in 1 9 z)).or (f_xRej (f_objPrint σ x u r c1))))) B (B + 1) σ (f_putP (f_push σ pm 0) x u r c1 lf z) pm rc (m_ends (m_addP (m_copy μ 0 10) n t x u r c1 (b2i lf) z) ch (m_addPv (m_copy μ 0 10 1) n t x u r c1 z) 1 2 3) (f_putPv (f_push σ pm 0) = m_endr (m_addP (m_copy μ 0 10) n t x u r c1 (b2i lf) z) (m_addPv (m_copy μ 0 10 1) n t x u r c1 z) 1 2 3) := by
  obtain ⟨hS, hp⟩ := h.brs (by omega) hbr
  have ht := hbr.t6
  unfold m_addP m_addPv f_xTrack
  rcases hS.ft x with ⟨e1, e2⟩ | ⟨k, hk, e1, e2, e3⟩
  · rw [e1, e2]
    exact CHG.fail (E := eIOO) (r := none) h (by omega) hc rfl MF.rf (fun j _ => rfl) h.rj0 (show m_endv 1 1 2 3 = 1 by decide) kC_1 (by decide)
  · rw [e1, e2, hS.objP (by omega)]
    unfold f_xCell f_xIn
    rw [cell_ok, in_in, in_in]
    show CHG [eIOO, eIAE, eUOE] ((if m_isCell r c1 = true then none else some (eIOO, none)).or ((if (m_in u 0 999 && m_in z 1 9) = true then none else some (eIAE, none)).or (f_xRej (m_objP (m_copy μ 0 10 1) n x u r c1)))) B (B + 1) σ (f_putP (f_push σ pm 0) x u r c1 lf z) pm rc (m_ends (if m_isCell r c1 = true then (if m_in u 0 999 = true ∧ m_in z 1 9 = true then m_rejO (m_copy μ 0 10) (m_objP (m_copy μ 0 10 1) n x u r c1) (m_new (m_copy μ 0 10) n x u r c1 (b2i lf) z) else m_copy μ 0 10) else m_copy μ 0 10) ch (if m_isCell r c1 = true then (if m_in u 0 999 = true ∧ m_in z 1 9 = true then (match m_objP (m_copy μ 0 10 1) n x u r c1 with | none => 0 | some _ => 3) else 2) else 1) 1 2 3) (f_putPv (f_push σ pm 0) = m_endr (if m_isCell r c1 = true then (if m_in u 0 999 = true ∧ m_in z 1 9 = true then m_rejO (m_copy μ 0 10) (m_objP (m_copy μ 0 10 1) n x u r c1) (m_new (m_copy μ 0 10) n x u r c1 (b2i lf) z) else m_copy μ 0 10) else m_copy μ 0 10) (if m_isCell r c1 = true then (if m_in u 0 999 = true ∧ m_in z 1 9 = true then (match m_objP (m_copy μ 0 10 1) n x u r c1 with | none => 0 | some _ => 3) else 2) else 1) 1 2 3)
    by_cases q : m_isCell r c1 = true
    · rw [if_pos q, if_pos q, if_pos q]
      by_cases q2 : m_in u 0 999 = true ∧ m_in z 1 9 = true
      · rw [if_pos q2, if_pos q2, if_pos (show (m_in u 0 999 && m_in z 1 9) = true by rw [q2.1, q2.2]; rfl)]
        rcases ho : m_objP (m_copy μ 0 10 1) n x u r c1 with _ | ⟨y1, y2⟩
        · have hn9 : n < 30 := by
            unfold m_objP at ho
            by_cases q3 : nI n = 30
            · rw [if_pos q3] at ho; cases ho
            · exact nI_lt30 q3 hS.n30
          obtain ⟨⟨r1, r2⟩, ⟨r3, r4⟩⟩ := cell_rng q
          have qu := q2.1
          have qz := q2.2
          unfold m_in at qu qz
          rw [Bool.and_eq_true, decide_eq_true_eq, decide_eq_true_eq] at qu qz
          obtain ⟨pi', hbe⟩ := hp.putP (lf := lf) hB hn9 ⟨k, hk, e3⟩ qu ⟨r1, r2⟩ ⟨r3, r4⟩ qz ho
          obtain ⟨i, hi, hi30, -⟩ := hp.freeP hn9
          refine CHG.succ h hch hc (by omega) hB rfl (fun k2 j hk2 => ?_) ⟨_, _, _, _, hbe⟩ (MF_new _ _ _ _ _ _ _ _) (fun j hj => ?_) (fun j hj hj8 => ?_) (by decide) ?_
          · unfold f_putP
            rw [hi]
            show sp_st (sp_st (sp_st (sp_st (sp_st (sp_st (sp_st (sp_st (sp_st (sp_st (sp_st (f_push σ pm 0) (9 + i) 0 1) (9 + i) 1 (f_push σ pm 0 0 4)) (9 + i) 2 x) (9 + i) 3 u) (9 + i) 4 r) (9 + i) 5 c1) (9 + i) 6 (b2i lf)) (9 + i) 7 z) (9 + i) 8 0) (9 + i) 9 (b2i (decide (0 < f_countPrintsBetween (f_push σ pm 0) x u 1000)))) 0 4 (f_push σ pm 0 0 4 + 1) k2 j = _
            rw [sp_st_k _ _ _ _ _ _ (by omega), sp_st_k _ _ _ _ _ _ (by omega), sp_st_k _ _ _ _ _ _ (by omega), sp_st_k _ _ _ _ _ _ (by omega), sp_st_k _ _ _ _ _ _ (by omega), sp_st_k _ _ _ _ _ _ (by omega), sp_st_k _ _ _ _ _ _ (by omega), sp_st_k _ _ _ _ _ _ (by omega), sp_st_k _ _ _ _ _ _ (by omega), sp_st_k _ _ _ _ _ _ (by omega), sp_st_k _ _ _ _ _ _ (by omega)]
          · show m_new (m_copy μ 0 10) n x u r c1 (b2i lf) z 1 j = _
            unfold m_new
            rw [sp_st_j _ _ _ _ _ _ (by omega), sp_st_j _ _ _ _ _ _ (by omega), sp_st_j _ _ _ _ _ _ (by omega), sp_st_j _ _ _ _ _ _ (by omega), sp_st_j _ _ _ _ _ _ (by omega), sp_st_j _ _ _ _ _ _ (by omega), sp_st_j _ _ _ _ _ _ (by omega), sp_st_j _ _ _ _ _ _ (by omega), sp_st_j _ _ _ _ _ _ (by omega), sp_st_j _ _ _ _ _ _ (by omega), sp_st_j _ _ _ _ _ _ (by omega), sp_st_k _ _ _ _ _ _ (by decide)]
          · show m_new (m_copy μ 0 10) n x u r c1 (b2i lf) z 0 j = _
            unfold m_new
            rw [sp_st_k _ _ _ _ _ _ (by decide), sp_st_k _ _ _ _ _ _ (by decide), sp_st_k _ _ _ _ _ _ (by decide), sp_st_k _ _ _ _ _ _ (by decide), sp_st_k _ _ _ _ _ _ (by decide), sp_st_k _ _ _ _ _ _ (by decide), sp_st_k _ _ _ _ _ _ (by decide), sp_st_k _ _ _ _ _ _ (by decide), sp_st_k _ _ _ _ _ _ (by decide), sp_st_k _ _ _ _ _ _ (by decide), sp_st_k _ _ _ _ _ _ (by decide), sp_st_j _ _ _ _ _ _ (by omega), m_copy_k (by decide)]
          · unfold f_putPv m_endr
            rw [hi, if_pos (by decide)]
            show f_push σ pm 0 0 4 = m_new (m_copy μ 0 10) n x u r c1 (b2i lf) z 0 4
            unfold m_new
            rw [sp_st_k _ _ _ _ _ _ (by decide), sp_st_k _ _ _ _ _ _ (by decide), sp_st_k _ _ _ _ _ _ (by decide), sp_st_k _ _ _ _ _ _ (by decide), sp_st_k _ _ _ _ _ _ (by decide), sp_st_k _ _ _ _ _ _ (by decide), sp_st_k _ _ _ _ _ _ (by decide), sp_st_k _ _ _ _ _ _ (by decide), sp_st_k _ _ _ _ _ _ (by decide), sp_st_k _ _ _ _ _ _ (by decide), sp_st_k _ _ _ _ _ _ (by decide), sp_st_s]
            exact hp.sx.2.1.symm
        · have hy : y1 ≠ 0 := by
            unfold m_objP at ho
            by_cases q3 : nI n = 30
            · rw [if_pos q3] at ho; cases ho; decide
            · rw [if_neg q3] at ho
              rcases hm : m_time (m_copy μ 0 10 1) n x u with _ | j
              · rw [hm] at ho
                have ho2 : (if r < m_copy μ 0 10 1 4 then some ((4 : Int32), m_copy μ 0 10 1 4) else match m_cell (m_copy μ 0 10 1) n r c1 with | none => none | some j => some (5, gP (m_copy μ 0 10 1) j 0)) = some (y1, y2) := ho
                by_cases q4 : r < m_copy μ 0 10 1 4
                · rw [if_pos q4] at ho2; cases ho2; decide
                · rw [if_neg q4] at ho2
                  rcases hm2 : m_cell (m_copy μ 0 10 1) n r c1 with _ | j
                  · rw [hm2] at ho2; cases ho2
                  · rw [hm2] at ho2; cases ho2; decide
              · rw [hm] at ho; cases ho; decide
          exact CHG.fail (E := eUOE) (r := some (y1, y2, none)) h (by omega) hc rfl MF.rf.rej (fun j _ => rej_1) (rej_J hy) (show m_endv 3 1 2 3 = 3 by decide) (kC_3 ne_UI ne_UA) (by decide)
      · rw [if_neg q2, if_neg q2, if_neg (fun w => q2 (by rwa [Bool.and_eq_true] at w))]
        exact CHG.fail (E := eIAE) (r := none) h (by omega) hc rfl MF.rf (fun j _ => rfl) h.rj0 (show m_endv 2 1 2 3 = 2 by decide) (kC_2 ne_EI) (by decide)
    · rw [if_neg q, if_neg q, if_neg q]
      exact CHG.fail (E := eIOO) (r := none) h (by omega) hc rfl MF.rf (fun j _ => rfl) h.rj0 (show m_endv 1 1 2 3 = 1 by decide) kC_1 (by decide)
theorem ch_removePrint (h : RR B σ pm rc μ) (hbr : BR σ (μ 1) B n t pi ro) (hch : μ 0 2 = nI ch) (hc : ch ≤ 8) (hB : B + 1 < 1000000) (x : Int32) : CHG [eIOO] (f_xPrint σ x) B (B + 1) σ (atO (f_findPrint σ x) (f_push σ pm 0) (fun k => sp_st (f_push σ pm 0) (9 + k) 0 0)) pm rc (m_ends (m_rmPr (m_copy μ 0 10) n x) ch (m_by (m_find (m_copy μ 0 10 1) n x)) 1 0 0) (atO (f_findPrint σ x) 0 (fun k => (f_push σ pm 0) (9 + k) 2) = m_endr (m_rmPr (m_copy μ 0 10) n x) (m_by (m_find (m_copy μ 0 10 1) n x)) 1 0 0) := by
  obtain ⟨hS, hp⟩ := h.brs (by omega) hbr
  unfold m_rmPr f_xPrint
  rcases hS.fp x with ⟨e1, e2⟩ | ⟨k, hk, e1, e2⟩
  · rw [e1, e2]
    exact CHG.fail (E := eIOO) (r := none) h (by omega) hc rfl MF.rf (fun j _ => rfl) h.rj0 (show m_endv 1 1 0 0 = 1 by decide) kC_1 (by decide)
  · rw [e1, e2]
    show CHG [eIOO] none B (B + 1) σ (sp_st (f_push σ pm 0) (9 + pi k) 0 0) pm rc (m_ends (m_goes (sp_st (m_copy μ 0 10) 0 4 (gP (m_copy μ 0 10 1) k 1)) n k) ch 0 1 0 0) ((f_push σ pm 0) (9 + pi k) 2 = m_endr (m_goes (sp_st (m_copy μ 0 10) 0 4 (gP (m_copy μ 0 10 1) k 1)) n k) 0 1 0 0)
    have h30 := hp.pi30 hk
    obtain ⟨pi', hbe⟩ := hp.drop1 (by omega) hk (gP (m_copy μ 0 10 1) k 1)
    refine CHG.succ h hch hc (by omega) hB rfl (fun k2 j hk2 => sp_st_k _ _ _ _ _ _ (by omega)) ?_ (MF.goes (MF.rf.st (by decide))) (fun j hj => ?_) (fun j hj hj8 => ?_) (by decide) ?_
    · exact BE.congr ⟨_, _, _, _, hbe⟩ (fun _ _ _ => rfl) (fun _ _ => rfl) (by omega) hB
    · rw [goes_hi hS.n30 hk hj, sp_st_k _ _ _ _ _ _ (by decide)]
    · rw [m_goes_out (Or.inl (by decide)), sp_st_j _ _ _ _ _ _ (by omega), m_copy_k (by decide)]
    · unfold m_endr
      rw [if_pos (by decide), m_goes_out (Or.inl (by decide)), sp_st_s]
      exact (hp.pe hk).2.1.symm
theorem ch_heel (h : RR B σ pm rc μ) (hbr : BR σ (μ 1) B n t pi ro) (hch : μ 0 2 = nI ch) (hc : ch ≤ 8) (hB : B + 1 < 1000000) (x r c1 : Int32) : CHG [eIOO, eUOE] ((f_xPrint σ x).or ((f_xCell r c1).or (atO (f_findPrint σ x) none (fun k => f_xRej (f_objMove σ k r c1))))) B (B + 1) σ (atO (f_findPrint σ x) (f_push σ pm 0) (fun k => sp_st (sp_st (sp_st (f_push σ pm 0) (9 + k) 4 r) (9 + k) 5 c1) 0 6 ((f_push σ pm 0) 0 6 + 1))) pm rc (m_ends (m_cor (m_copy μ 0 10) n x r c1) ch (m_corv (m_copy μ 0 10 1) n x r c1) 1 0 2) (atO (f_findPrint σ x) 0 (fun k => f_dist (f_push σ pm 0) (9 + k) r c1) = m_endr (m_cor (m_copy μ 0 10) n x r c1) (m_corv (m_copy μ 0 10 1) n x r c1) 1 0 2) := by
  obtain ⟨hS, hp⟩ := h.brs (by omega) hbr
  unfold m_cor m_corv f_xPrint
  rcases hS.fp x with ⟨e1, e2⟩ | ⟨k, hk, e1, e2⟩
  · rw [e1, e2]
    exact CHG.fail (E := eIOO) (r := none) h (by omega) hc rfl MF.rf (fun j _ => rfl) h.rj0 (show m_endv 1 1 0 2 = 1 by decide) kC_1 (by decide)
  · rw [e1, e2]
    unfold f_xCell
    rw [cell_ok]
    show CHG [eIOO, eUOE] ((if m_isCell r c1 = true then none else some (eIOO, none)).or (f_xRej (f_objMove σ (pi k) r c1))) B (B + 1) σ (sp_st (sp_st (sp_st (f_push σ pm 0) (9 + pi k) 4 r) (9 + pi k) 5 c1) 0 6 ((f_push σ pm 0) 0 6 + 1)) pm rc (m_ends (if m_isCell r c1 = true then m_rejO (m_copy μ 0 10) (m_objM (m_copy μ 0 10 1) n k r c1) (sp_st (sp_st (sp_st (sp_st (m_copy μ 0 10) 1 (19 + 9 * k + 3) r) 1 (19 + 9 * k + 4) c1) 1 6 (m_copy μ 0 10 1 6 + 1)) 0 4 (m_dist (m_copy μ 0 10 1) k r c1)) else m_copy μ 0 10) ch (if m_isCell r c1 = true then (match m_objM (m_copy μ 0 10 1) n k r c1 with | none => 0 | some _ => 3) else 1) 1 0 2) (f_dist (f_push σ pm 0) (9 + pi k) r c1 = m_endr (if m_isCell r c1 = true then m_rejO (m_copy μ 0 10) (m_objM (m_copy μ 0 10 1) n k r c1) (sp_st (sp_st (sp_st (sp_st (m_copy μ 0 10) 1 (19 + 9 * k + 3) r) 1 (19 + 9 * k + 4) c1) 1 6 (m_copy μ 0 10 1 6 + 1)) 0 4 (m_dist (m_copy μ 0 10 1) k r c1)) else m_copy μ 0 10) (if m_isCell r c1 = true then (match m_objM (m_copy μ 0 10 1) n k r c1 with | none => 0 | some _ => 3) else 1) 1 0 2)
    have h30 := hp.pi30 hk
    have hn := hp.n30
    by_cases q : m_isCell r c1 = true
    · rw [if_pos q, if_pos q, if_pos q, hS.objM (by omega) hk]
      obtain ⟨r1, r2⟩ := cell_rng q
      rcases ho : m_objM (m_copy μ 0 10 1) n k r c1 with _ | ⟨y1, y2⟩
      · have hbe := hp.heel (by omega) hk r1 r2 ho (m_dist (m_copy μ 0 10 1) k r c1)
        refine CHG.succ h hch hc (by omega) hB rfl (fun k2 j hk2 => by rw [sp_st_k _ _ _ _ _ _ (by omega), sp_st_k _ _ _ _ _ _ (by omega), sp_st_k _ _ _ _ _ _ (by omega)]) ?_ ((((MF.rf.st (Or.inl rfl)).st (Or.inl rfl)).st (Or.inl rfl)).st (by decide)) (fun j hj => ?_) (fun j hj hj8 => ?_) (by decide) ?_
        · exact BE.congr ⟨_, _, _, _, hbe⟩ (fun _ _ _ => rfl) (fun _ _ => rfl) (by omega) hB
        · show sp_st (sp_st (sp_st (sp_st (m_copy μ 0 10) 1 (19 + 9 * k + 3) r) 1 (19 + 9 * k + 4) c1) 1 6 (m_copy μ 0 10 1 6 + 1)) 0 4 (m_dist (m_copy μ 0 10 1) k r c1) 1 j = _
          rw [sp_st_k _ _ _ _ _ _ (by decide), sp_st_j _ _ _ _ _ _ (by omega), sp_st_j _ _ _ _ _ _ (by omega), sp_st_j _ _ _ _ _ _ (by omega)]
        · show sp_st (sp_st (sp_st (sp_st (m_copy μ 0 10) 1 (19 + 9 * k + 3) r) 1 (19 + 9 * k + 4) c1) 1 6 (m_copy μ 0 10 1 6 + 1)) 0 4 (m_dist (m_copy μ 0 10 1) k r c1) 0 j = _
          rw [sp_st_j _ _ _ _ _ _ (by omega), sp_st_k _ _ _ _ _ _ (by decide), sp_st_k _ _ _ _ _ _ (by decide), sp_st_k _ _ _ _ _ _ (by decide), m_copy_k (by decide)]
        · unfold m_endr
          rw [if_pos (by decide), hp.dist hk]
          exact (sp_st_s _ _ _ _).symm
      · have hy : y1 ≠ 0 := by
          unfold m_objM at ho
          by_cases q3 : m_in (m_dist (m_copy μ 0 10 1) k r c1) 1 2 = true
          · rw [if_pos q3] at ho
            by_cases q4 : r < m_copy μ 0 10 1 4
            · rw [if_pos q4] at ho; cases ho; decide
            · rw [if_neg q4] at ho
              rcases hm2 : m_cell (m_copy μ 0 10 1) n r c1 with _ | j
              · rw [hm2] at ho; cases ho
              · rw [hm2] at ho; cases ho; decide
          · rw [if_neg q3] at ho; cases ho; decide
        exact CHG.fail (E := eUOE) (r := some (y1, y2, none)) h (by omega) hc rfl MF.rf.rej (fun j _ => rej_1) (rej_J hy) (show m_endv 3 1 0 2 = 2 by decide) (kC_2 ne_UI) (by decide)
    · rw [if_neg q, if_neg q, if_neg q]
      exact CHG.fail (E := eIOO) (r := none) h (by omega) hc rfl MF.rf (fun j _ => rfl) h.rj0 (show m_endv 1 1 0 2 = 1 by decide) kC_1 (by decide)
end CHT
