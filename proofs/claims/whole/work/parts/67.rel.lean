/-! EXECUTING: one command -/
section DOS
variable {τ ρ : Nat → Nat → Int32} {B n t c : Nat} {pi ro : Nat → Nat} {z : Int32}
/-- a command done, refused or rejected, in both worlds -/
def DOK (B : Nat) (τ ρ ς ω : Nat → Nat → Int32) (x : XO) (v z : Int32) : Prop :=
  (∀ j, 289 ≤ j → ω 1 j = ρ 1 j) ∧ ((v = 0 ∧ x = none ∧ BE ς (ω 1) (B + 1) ∧ (∀ k j, 39 ≤ k → ς k j = τ k j) ∧ ∀ j, 5 ≤ j → j ≤ 8 → ω 0 j = ρ 0 j) ∨ ((v = 1 ∨ v = 2) ∧ x = some (eISE, none) ∧ ∀ j, 5 ≤ j → j ≤ 8 → ω 0 j = ρ 0 j) ∨ (v = 3 ∧ ∃ y1 y2, y1 ≠ 0 ∧ x = some (eUOE, some (10, z, some (y1, y2))) ∧ ω 0 5 = y1 ∧ ω 0 6 = y2))
theorem DOK.ref {ς : Nat → Nat → Int32} {v : Int32} (hv : v = 1 ∨ v = 2) : DOK B τ ρ ς ρ (some (eISE, none)) v z := ⟨fun _ _ => rfl, Or.inr (Or.inl ⟨hv, rfl, fun _ _ _ => rfl⟩)⟩
theorem DOK.rej {ς : Nat → Nat → Int32} {y1 y2 : Int32} (hy : y1 ≠ 0) : DOK B τ ρ ς (m_rej ρ y1 y2) (some (eUOE, some (10, z, some (y1, y2)))) 3 z := by
  refine ⟨fun j _ => rej_1, Or.inr (Or.inr ⟨rfl, y1, y2, hy, rfl, ?_, ?_⟩)⟩
  · unfold m_rej
    rw [sp_st_j _ _ _ _ _ _ (by decide), sp_st_j _ _ _ _ _ _ (by decide), sp_st_s]
  · unfold m_rej
    rw [sp_st_j _ _ _ _ _ _ (by decide), sp_st_s]
theorem DOK.done {ς ω : Nat → Nat → Int32} (h1 : ∀ j, 289 ≤ j → ω 1 j = ρ 1 j) (hb : BE ς (ω 1) (B + 1)) (hk : ∀ k j, 39 ≤ k → ς k j = τ k j) (h5 : ∀ j, 5 ≤ j → j ≤ 8 → ω 0 j = ρ 0 j) : DOK B τ ρ ς ω none 0 z := ⟨h1, Or.inl ⟨rfl, rfl, hb, hk, h5⟩⟩
theorem m_objP_ne {f : Nat → Int32} {x u r c1 y1 y2 : Int32} (ho : m_objP f n x u r c1 = some (y1, y2)) : y1 ≠ 0 := by
  unfold m_objP at ho
  by_cases q3 : nI n = 30
  · rw [if_pos q3] at ho; cases ho; decide
  · rw [if_neg q3] at ho
    rcases hm : m_time f n x u with _ | j
    · rw [hm] at ho
      have ho2 : (if r < f 4 then some ((4 : Int32), f 4) else match m_cell f n r c1 with | none => none | some j => some (5, gP f j 0)) = some (y1, y2) := ho
      by_cases q4 : r < f 4
      · rw [if_pos q4] at ho2; cases ho2; decide
      · rw [if_neg q4] at ho2
        rcases hm2 : m_cell f n r c1 with _ | j
        · rw [hm2] at ho2; cases ho2
        · rw [hm2] at ho2; cases ho2; decide
    · rw [hm] at ho; cases ho; decide
theorem m_objM_ne {f : Nat → Int32} {k : Nat} {r c1 y1 y2 : Int32} (ho : m_objM f n k r c1 = some (y1, y2)) : y1 ≠ 0 := by
  unfold m_objM at ho
  by_cases q3 : m_in (m_dist f k r c1) 1 2 = true
  · rw [if_pos q3] at ho
    by_cases q4 : r < f 4
    · rw [if_pos q4] at ho; cases ho; decide
    · rw [if_neg q4] at ho
      rcases hm2 : m_cell f n r c1 with _ | j
      · rw [hm2] at ho; cases ho
      · rw [hm2] at ho; cases ho; decide
  · rw [if_neg q3] at ho; cases ho; decide
theorem xRun_ok (ha : f_acc τ c = true) : f_xRun τ c z = f_xRunR z (f_obj τ c) := by unfold f_xRun; rw [if_pos ha]
theorem xRun_no (ha : ¬ f_acc τ c = true) : f_xRun τ c z = some (eISE, none) := by unfold f_xRun; rw [if_neg ha]
theorem do_T (hp : BR τ (ρ 1) B n t pi ro) (hB : B + 1 < 1000000) (hK : τ (439 + c) 0 = 84) : DOK B τ ρ (f_runOn τ c) (m_addT ρ t (τ (439 + c) 6)) (f_xRun τ c z) (m_addTv t (τ (439 + c) 6)) z := by
  have hz : cz (τ (439 + c) 0) = 84 := by rw [hK]; decide
  have ht := hp.t6
  have hacc : f_acc τ c = m_in (τ (439 + c) 6) 1 9 := by unfold f_acc; rw [hz, if_neg (by decide), if_neg (by decide), if_pos rfl]; rfl
  have hobj : f_obj τ c = f_objTrack τ := by unfold f_obj; rw [hz, if_neg (by decide), if_neg (by decide), if_neg (by decide), if_neg (by decide), if_pos rfl]
  have hrun : f_runOn τ c = f_putT τ (τ (439 + c) 6) := by unfold f_runOn; rw [hz, if_pos rfl]
  rw [hrun]
  generalize τ (439 + c) 6 = v at hacc ⊢
  unfold m_addT m_addTv
  by_cases q : m_in v 1 9 = true
  · rw [if_pos q, if_pos q, xRun_ok (by rw [hacc]; exact q), hobj, hp.objT]
    by_cases q6 : nI t = 6
    · rw [if_pos q6, if_pos q6, if_pos q6]
      exact DOK.rej (by decide)
    · rw [if_neg q6, if_neg q6, if_neg q6]
      have ht6 : t < 6 := by
        rcases Nat.lt_or_ge t 6 with w | w
        · exact w
        · exact absurd (show nI t = 6 by rw [show t = 6 by omega]; rfl) q6
      have qz := q
      unfold m_in at qz
      rw [Bool.and_eq_true, decide_eq_true_eq, decide_eq_true_eq] at qz
      obtain ⟨ro', hbe⟩ := hp.putT hB ht6 qz
      obtain ⟨i, hi, hi6, -⟩ := hp.freeT ht6
      refine DOK.done (fun j hj => ?_) ⟨_, _, _, _, hbe⟩ (fun k j hk => ?_) (fun j hj hj8 => ?_)
      · rw [sp_st_j _ _ _ _ _ _ (by omega), sp_st_j _ _ _ _ _ _ (by omega), sp_st_j _ _ _ _ _ _ (by omega), sp_st_j _ _ _ _ _ _ (by omega), sp_st_k _ _ _ _ _ _ (by decide)]
      · unfold f_putT
        rw [hi]
        show sp_st (sp_st (sp_st (sp_st τ (3 + i) 0 1) (3 + i) 1 (τ 0 3)) (3 + i) 2 v) 0 3 (τ 0 3 + 1) k j = _
        rw [sp_st_k _ _ _ _ _ _ (by omega), sp_st_k _ _ _ _ _ _ (by omega), sp_st_k _ _ _ _ _ _ (by omega), sp_st_k _ _ _ _ _ _ (by omega)]
      · rw [sp_st_k _ _ _ _ _ _ (by decide), sp_st_k _ _ _ _ _ _ (by decide), sp_st_k _ _ _ _ _ _ (by decide), sp_st_k _ _ _ _ _ _ (by decide), sp_st_j _ _ _ _ _ _ (by omega)]
  · rw [if_neg q, if_neg q, xRun_no (by rw [hacc]; exact q)]
    exact DOK.ref (Or.inr rfl)
theorem do_W (hp : BR τ (ρ 1) B n t pi ro) (hB : B + 1 < 1000000) (hK : τ (439 + c) 0 = 87) : DOK B τ ρ (f_runOn τ c) (m_tide ρ n (τ (439 + c) 6)) (f_xRun τ c z) (m_tidev (ρ 1) (τ (439 + c) 6)) z := by
  have hz : cz (τ (439 + c) 0) = 87 := by rw [hK]; decide
  have hacc : f_acc τ c = m_in (τ (439 + c) 6) 0 8 := by unfold f_acc; rw [hz, if_neg (by decide), if_neg (by decide), if_neg (by decide), if_pos rfl]; rfl
  have hobj : f_obj τ c = f_objTide τ (τ (439 + c) 6) := by unfold f_obj; rw [hz, if_neg (by decide), if_neg (by decide), if_neg (by decide), if_neg (by decide), if_neg (by decide), if_pos rfl]
  have hrun : f_runOn τ c = f_tide τ (τ (439 + c) 6) := by unfold f_runOn; rw [hz, if_neg (by decide), if_neg (by decide), if_pos rfl]
  rw [hrun]
  generalize τ (439 + c) 6 = v at hacc hobj ⊢
  unfold m_tide m_tidev
  by_cases q : m_in v 0 8 = true
  · rw [if_pos q, if_pos q, xRun_ok (by rw [hacc]; exact q), hobj, hp.objW]
    by_cases q2 : ρ 1 4 = v
    · rw [if_pos q2, if_pos q2, if_pos q2]
      exact DOK.rej (by decide)
    · rw [if_neg q2, if_neg q2, if_neg q2]
      have qv := q
      unfold m_in at qv
      rw [Bool.and_eq_true, decide_eq_true_eq, decide_eq_true_eq] at qv
      obtain ⟨n', pi', hbe⟩ := hp.tideS (by omega) qv
      have hms : MS (sp_st ρ 0 4 (m_below (ρ 1) n v) 1) n t := hp.1.st0
      refine DOK.done (fun j hj => ?_) (BE.congr ⟨_, _, _, _, hbe⟩ (fun _ _ _ => rfl) (fun _ _ => rfl) (by omega) hB) (fun k2 j hk2 => ?_) (fun j hj hj8 => ?_)
      · rw [sp_st_j _ _ _ _ _ _ (by omega), sp_st_j _ _ _ _ _ _ (by omega), rm_hi hms hj n (Nat.le_refl n), sp_st_k _ _ _ _ _ _ (by decide)]
      · unfold f_tide f_tideP
        rw [sp_st_k _ _ _ _ _ _ (by omega), if_neg (by omega), sp_st_k _ _ _ _ _ _ (by omega)]
      · rw [sp_st_k _ _ _ _ _ _ (by decide), sp_st_k _ _ _ _ _ _ (by decide), m_rm_out (Or.inl (by decide)), sp_st_j _ _ _ _ _ _ (by omega)]
  · rw [if_neg q, if_neg q, xRun_no (by rw [hacc]; exact q)]
    exact DOK.ref (Or.inr rfl)
theorem do_P (hp : BR τ (ρ 1) B n t pi ro) (hB : B + 1 < 1000000) (hK : τ (439 + c) 0 = 80) : DOK B τ ρ (f_runOn τ c) (m_addP ρ n t (τ (439 + c) 1) (τ (439 + c) 2) (τ (439 + c) 3) (τ (439 + c) 4) (b2i (τ (439 + c) 5 != 0)) (τ (439 + c) 6)) (f_xRun τ c z) (m_addPv (ρ 1) n t (τ (439 + c) 1) (τ (439 + c) 2) (τ (439 + c) 3) (τ (439 + c) 4) (τ (439 + c) 6)) z := by
  have hz : cz (τ (439 + c) 0) = 80 := by rw [hK]; decide
  have hacc : f_acc τ c = ((f_findTrack τ (τ (439 + c) 1)).isSome && f_isCell (τ (439 + c) 3) (τ (439 + c) 4) && m_in (τ (439 + c) 2) 0 999 && m_in (τ (439 + c) 6) 1 9) := by unfold f_acc; rw [hz, if_neg (by decide), if_pos rfl]; rfl
  have hobj : f_obj τ c = f_objPrint τ (τ (439 + c) 1) (τ (439 + c) 2) (τ (439 + c) 3) (τ (439 + c) 4) := by unfold f_obj; rw [hz, if_neg (by decide), if_neg (by decide), if_neg (by decide), if_pos rfl]
  have hrun : f_runOn τ c = f_putP τ (τ (439 + c) 1) (τ (439 + c) 2) (τ (439 + c) 3) (τ (439 + c) 4) (τ (439 + c) 5 != 0) (τ (439 + c) 6) := by unfold f_runOn; rw [hz, if_neg (by decide), if_pos rfl]
  rw [hrun]
  rw [cell_ok] at hacc
  generalize τ (439 + c) 1 = x at hacc hobj ⊢
  generalize τ (439 + c) 2 = u at hacc hobj ⊢
  generalize τ (439 + c) 3 = r at hacc hobj ⊢
  generalize τ (439 + c) 4 = c1 at hacc hobj ⊢
  generalize (τ (439 + c) 5 != 0) = lf
  generalize τ (439 + c) 6 = d at hacc ⊢
  unfold m_addP m_addPv
  rcases hp.ft x with ⟨e1, e2⟩ | ⟨k, hk, e1, e2, e3⟩
  · rw [e2, xRun_no (by rw [hacc, e1]; simp)]
    exact DOK.ref (Or.inl rfl)
  · rw [e1] at hacc
    have hacc : f_acc τ c = (m_isCell r c1 && m_in u 0 999 && m_in d 1 9) := by rw [hacc]; simp
    rw [e2]
    show DOK B τ ρ (f_putP τ x u r c1 lf d) (if m_isCell r c1 = true then (if m_in u 0 999 = true ∧ m_in d 1 9 = true then m_rejO ρ (m_objP (ρ 1) n x u r c1) (m_new ρ n x u r c1 (b2i lf) d) else ρ) else ρ) (f_xRun τ c z) (if m_isCell r c1 = true then (if m_in u 0 999 = true ∧ m_in d 1 9 = true then (match m_objP (ρ 1) n x u r c1 with | none => 0 | some _ => 3) else 2) else 1) z
    by_cases q : m_isCell r c1 = true
    · rw [if_pos q, if_pos q]
      by_cases q2 : m_in u 0 999 = true ∧ m_in d 1 9 = true
      · rw [if_pos q2, if_pos q2, xRun_ok (by rw [hacc, q, q2.1, q2.2]; rfl), hobj, hp.objP (by omega)]
        rcases ho : m_objP (ρ 1) n x u r c1 with _ | ⟨y1, y2⟩
        · have hn9 : n < 30 := by
            unfold m_objP at ho
            by_cases q3 : nI n = 30
            · rw [if_pos q3] at ho; cases ho
            · exact nI_lt30 q3 hp.n30
          obtain ⟨⟨r1, r2⟩, ⟨r3, r4⟩⟩ := cell_rng q
          have qu := q2.1
          have qz := q2.2
          unfold m_in at qu qz
          rw [Bool.and_eq_true, decide_eq_true_eq, decide_eq_true_eq] at qu qz
          obtain ⟨pi', hbe⟩ := hp.putP (lf := lf) hB hn9 ⟨k, hk, e3⟩ qu ⟨r1, r2⟩ ⟨r3, r4⟩ qz ho
          obtain ⟨i, hi, hi30, -⟩ := hp.freeP hn9
          show DOK B τ ρ (f_putP τ x u r c1 lf d) (m_new ρ n x u r c1 (b2i lf) d) none 0 z
          refine DOK.done (fun j hj => ?_) ⟨_, _, _, _, hbe⟩ (fun k2 j hk2 => ?_) (fun j hj hj8 => ?_)
          · unfold m_new
            rw [sp_st_j _ _ _ _ _ _ (by omega), sp_st_j _ _ _ _ _ _ (by omega), sp_st_j _ _ _ _ _ _ (by omega), sp_st_j _ _ _ _ _ _ (by omega), sp_st_j _ _ _ _ _ _ (by omega), sp_st_j _ _ _ _ _ _ (by omega), sp_st_j _ _ _ _ _ _ (by omega), sp_st_j _ _ _ _ _ _ (by omega), sp_st_j _ _ _ _ _ _ (by omega), sp_st_j _ _ _ _ _ _ (by omega), sp_st_j _ _ _ _ _ _ (by omega), sp_st_k _ _ _ _ _ _ (by decide)]
          · unfold f_putP
            rw [hi]
            show sp_st (sp_st (sp_st (sp_st (sp_st (sp_st (sp_st (sp_st (sp_st (sp_st (sp_st τ (9 + i) 0 1) (9 + i) 1 (τ 0 4)) (9 + i) 2 x) (9 + i) 3 u) (9 + i) 4 r) (9 + i) 5 c1) (9 + i) 6 (b2i lf)) (9 + i) 7 d) (9 + i) 8 0) (9 + i) 9 (b2i (decide (0 < f_countPrintsBetween τ x u 1000)))) 0 4 (τ 0 4 + 1) k2 j = _
            rw [sp_st_k _ _ _ _ _ _ (by omega), sp_st_k _ _ _ _ _ _ (by omega), sp_st_k _ _ _ _ _ _ (by omega), sp_st_k _ _ _ _ _ _ (by omega), sp_st_k _ _ _ _ _ _ (by omega), sp_st_k _ _ _ _ _ _ (by omega), sp_st_k _ _ _ _ _ _ (by omega), sp_st_k _ _ _ _ _ _ (by omega), sp_st_k _ _ _ _ _ _ (by omega), sp_st_k _ _ _ _ _ _ (by omega), sp_st_k _ _ _ _ _ _ (by omega)]
          · unfold m_new
            rw [sp_st_k _ _ _ _ _ _ (by decide), sp_st_k _ _ _ _ _ _ (by decide), sp_st_k _ _ _ _ _ _ (by decide), sp_st_k _ _ _ _ _ _ (by decide), sp_st_k _ _ _ _ _ _ (by decide), sp_st_k _ _ _ _ _ _ (by decide), sp_st_k _ _ _ _ _ _ (by decide), sp_st_k _ _ _ _ _ _ (by decide), sp_st_k _ _ _ _ _ _ (by decide), sp_st_k _ _ _ _ _ _ (by decide), sp_st_k _ _ _ _ _ _ (by decide), sp_st_j _ _ _ _ _ _ (by omega)]
        · exact DOK.rej (m_objP_ne ho)
      · rw [if_neg q2, if_neg q2, xRun_no (by rw [hacc, q]; intro w; exact q2 (by simpa using w))]
        exact DOK.ref (Or.inr rfl)
    · rw [if_neg q, if_neg q, xRun_no (by rw [hacc, show m_isCell r c1 = false by simpa using q]; simp)]
      exact DOK.ref (Or.inl rfl)
theorem do_H (hp : BR τ (ρ 1) B n t pi ro) (hB : B + 1 < 1000000) (hK : τ (439 + c) 0 = 72) : DOK B τ ρ (f_runOn τ c) (m_cor ρ n (τ (439 + c) 1) (τ (439 + c) 3) (τ (439 + c) 4)) (f_xRun τ c z) (m_corv (ρ 1) n (τ (439 + c) 1) (τ (439 + c) 3) (τ (439 + c) 4)) z := by
  have hz : cz (τ (439 + c) 0) = 72 := by rw [hK]; decide
  have hacc : f_acc τ c = ((f_findPrint τ (τ (439 + c) 1)).isSome && f_isCell (τ (439 + c) 3) (τ (439 + c) 4)) := by unfold f_acc; rw [hz, if_pos rfl]
  have hobj : f_obj τ c = (match f_findPrint τ (τ (439 + c) 1) with | none => none | some k => f_objMove τ k (τ (439 + c) 3) (τ (439 + c) 4)) := by unfold f_obj; rw [hz, if_neg (by decide), if_neg (by decide), if_pos rfl]; rfl
  have hrun : f_runOn τ c = (match f_findPrint τ (τ (439 + c) 1) with | none => τ | some k => sp_st (sp_st (sp_st τ (9 + k) 4 (τ (439 + c) 3)) (9 + k) 5 (τ (439 + c) 4)) 0 6 (τ 0 6 + 1)) := by
    unfold f_runOn f_runP; rw [hz, if_neg (by decide), if_neg (by decide), if_neg (by decide)]
    rcases f_findPrint τ (τ (439 + c) 1) with _ | k
    · rfl
    · show (if (72 : Int32) = 67 then _ else if (72 : Int32) = 68 then _ else if (72 : Int32) = 70 then _ else if (72 : Int32) = 72 then _ else _) = _
      rw [if_neg (by decide), if_neg (by decide), if_neg (by decide), if_pos rfl]
  rw [hrun]
  rw [cell_ok] at hacc
  generalize τ (439 + c) 1 = x at hacc hobj ⊢
  generalize τ (439 + c) 3 = r at hacc hobj ⊢
  generalize τ (439 + c) 4 = c1 at hacc hobj ⊢
  unfold m_cor m_corv
  rcases hp.fp x with ⟨e1, e2⟩ | ⟨k, hk, e1, e2⟩
  · rw [e2, xRun_no (by rw [hacc, e1]; simp)]
    exact DOK.ref (Or.inl rfl)
  · rw [e1] at hacc hobj
    have hacc : f_acc τ c = m_isCell r c1 := by rw [hacc]; rfl
    rw [e1, e2]
    show DOK B τ ρ (sp_st (sp_st (sp_st τ (9 + pi k) 4 r) (9 + pi k) 5 c1) 0 6 (τ 0 6 + 1)) (if m_isCell r c1 = true then m_rejO ρ (m_objM (ρ 1) n k r c1) (sp_st (sp_st (sp_st (sp_st ρ 1 (19 + 9 * k + 3) r) 1 (19 + 9 * k + 4) c1) 1 6 (ρ 1 6 + 1)) 0 4 (m_dist (ρ 1) k r c1)) else ρ) (f_xRun τ c z) (if m_isCell r c1 = true then (match m_objM (ρ 1) n k r c1 with | none => 0 | some _ => 3) else 1) z
    have h30 := hp.pi30 hk
    have hn := hp.n30
    by_cases q : m_isCell r c1 = true
    · rw [if_pos q, if_pos q, xRun_ok (by rw [hacc]; exact q), hobj]
      show DOK B τ ρ _ _ (f_xRunR z (f_objMove τ (pi k) r c1)) _ z
      rw [hp.objM (by omega) hk]
      obtain ⟨r1, r2⟩ := cell_rng q
      rcases ho : m_objM (ρ 1) n k r c1 with _ | ⟨y1, y2⟩
      · have hbe := hp.heel (by omega) hk r1 r2 ho (m_dist (ρ 1) k r c1)
        show DOK B τ ρ _ (sp_st (sp_st (sp_st (sp_st ρ 1 (19 + 9 * k + 3) r) 1 (19 + 9 * k + 4) c1) 1 6 (ρ 1 6 + 1)) 0 4 (m_dist (ρ 1) k r c1)) none 0 z
        refine DOK.done (fun j hj => ?_) (BE.congr ⟨_, _, _, _, hbe⟩ (fun _ _ _ => rfl) (fun _ _ => rfl) (by omega) hB) (fun k2 j hk2 => ?_) (fun j hj hj8 => ?_)
        · rw [sp_st_k _ _ _ _ _ _ (by decide), sp_st_j _ _ _ _ _ _ (by omega), sp_st_j _ _ _ _ _ _ (by omega), sp_st_j _ _ _ _ _ _ (by omega)]
        · rw [sp_st_k _ _ _ _ _ _ (by omega), sp_st_k _ _ _ _ _ _ (by omega), sp_st_k _ _ _ _ _ _ (by omega)]
        · rw [sp_st_j _ _ _ _ _ _ (by omega), sp_st_k _ _ _ _ _ _ (by decide), sp_st_k _ _ _ _ _ _ (by decide), sp_st_k _ _ _ _ _ _ (by decide)]
      · exact DOK.rej (m_objM_ne ho)
    · rw [if_neg q, if_neg q, xRun_no (by rw [hacc]; exact q)]
      exact DOK.ref (Or.inl rfl)
/-- the letters of one print -/
theorem acc_o {K : Int32} (hz : cz (τ (439 + c) 0) = K) (h : K = 70 ∨ K = 68 ∨ K = 67 ∨ K = 88) : f_acc τ c = (f_findPrint τ (τ (439 + c) 1)).isSome := by
  unfold f_acc
  rw [hz]
  rcases h with rfl | rfl | rfl | rfl
  · rw [if_neg (by decide), if_neg (by decide), if_neg (by decide), if_neg (by decide)]
  · rw [if_neg (by decide), if_neg (by decide), if_neg (by decide), if_neg (by decide)]
  · rw [if_neg (by decide), if_neg (by decide), if_neg (by decide), if_neg (by decide)]
  · rw [if_neg (by decide), if_neg (by decide), if_neg (by decide), if_neg (by decide)]
theorem run_o {K : Int32} {k : Nat} (hz : cz (τ (439 + c) 0) = K) (h : K = 70 ∨ K = 68 ∨ K = 67 ∨ K = 88) (hf : f_findPrint τ (τ (439 + c) 1) = some k) : f_runOn τ c = f_runP τ c k := by
  unfold f_runOn
  rw [hz, hf]
  rcases h with rfl | rfl | rfl | rfl
  · rw [if_neg (by decide), if_neg (by decide), if_neg (by decide)]
  · rw [if_neg (by decide), if_neg (by decide), if_neg (by decide)]
  · rw [if_neg (by decide), if_neg (by decide), if_neg (by decide)]
  · rw [if_neg (by decide), if_neg (by decide), if_neg (by decide)]
theorem DOK.setP {w j9 k q : Nat} {v v9 y : Int32} (hB : B + 1 < 1000000) (hk : k < 30) (hw : w < 9) (hq : q < 30) (hbe : BR (sp_st τ (9 + q) j9 v9) (sp_st (sp_st ρ 0 4 y) 1 (19 + 9 * k + w) v 1) B n t pi ro) : DOK B τ ρ (sp_st τ (9 + q) j9 v9) (sp_st (sp_st ρ 0 4 y) 1 (19 + 9 * k + w) v) none 0 z := by
  refine DOK.done (fun j hj => ?_) (BE.congr ⟨_, _, _, _, hbe⟩ (fun _ _ _ => rfl) (fun _ _ => rfl) (by omega) hB) (fun k2 j hk2 => sp_st_k _ _ _ _ _ _ (by omega)) (fun j hj hj8 => ?_)
  · rw [sp_st_j _ _ _ _ _ _ (by omega), sp_st_k _ _ _ _ _ _ (by decide)]
  · rw [sp_st_k _ _ _ _ _ _ (by decide), sp_st_j _ _ _ _ _ _ (by omega)]
theorem do_F (hp : BR τ (ρ 1) B n t pi ro) (hB : B + 1 < 1000000) (hK : τ (439 + c) 0 = 70) : DOK B τ ρ (f_runOn τ c) (m_swap ρ n (τ (439 + c) 1)) (f_xRun τ c z) (m_by (m_find (ρ 1) n (τ (439 + c) 1))) z := by
  have hz : cz (τ (439 + c) 0) = 70 := by rw [hK]; decide
  have hacc := acc_o hz (by decide)
  unfold m_swap
  rcases hp.fp (τ (439 + c) 1) with ⟨e1, e2⟩ | ⟨k, hk, e1, e2⟩
  · rw [e2, xRun_no (by rw [hacc, e1]; decide)]
    exact DOK.ref (Or.inl rfl)
  · have hobj : f_obj τ c = none := by unfold f_obj; rw [hz, if_neg (by decide), if_neg (by decide), if_neg (by decide), if_neg (by decide), if_neg (by decide), if_neg (by decide)]
    rw [e2, run_o hz (by decide) e1, xRun_ok (by rw [hacc, e1]; rfl), hobj]
    have hr : f_runP τ c (pi k) = sp_st τ (9 + pi k) 6 (b2i (τ (9 + pi k) 6 == 0)) := by unfold f_runP; rw [hz, if_neg (by decide), if_neg (by decide), if_pos rfl]
    rw [hr]
    obtain ⟨hbe, he⟩ := hp.swap (by omega) hk
    exact DOK.setP hB (by have := hp.n30; omega) (by decide) (hp.pi30 hk) hbe
theorem do_X (hp : BR τ (ρ 1) B n t pi ro) (hB : B + 1 < 1000000) (hK : τ (439 + c) 0 = 88) : DOK B τ ρ (f_runOn τ c) (m_rmPr ρ n (τ (439 + c) 1)) (f_xRun τ c z) (m_by (m_find (ρ 1) n (τ (439 + c) 1))) z := by
  have hz : cz (τ (439 + c) 0) = 88 := by rw [hK]; decide
  have hacc := acc_o hz (by decide)
  unfold m_rmPr
  rcases hp.fp (τ (439 + c) 1) with ⟨e1, e2⟩ | ⟨k, hk, e1, e2⟩
  · rw [e2, xRun_no (by rw [hacc, e1]; decide)]
    exact DOK.ref (Or.inl rfl)
  · have hobj : f_obj τ c = none := by unfold f_obj; rw [hz, if_neg (by decide), if_neg (by decide), if_neg (by decide), if_neg (by decide), if_neg (by decide), if_neg (by decide)]
    rw [e2, run_o hz (by decide) e1, xRun_ok (by rw [hacc, e1]; rfl), hobj]
    have hr : f_runP τ c (pi k) = sp_st τ (9 + pi k) 0 0 := by unfold f_runP; rw [hz, if_neg (by decide), if_neg (by decide), if_neg (by decide), if_neg (by decide), if_pos rfl]
    rw [hr]
    have h30 := hp.pi30 hk
    obtain ⟨pi', hbe⟩ := hp.drop1 (by omega) hk (gP (ρ 1) k 1)
    show DOK B τ ρ _ (m_goes (sp_st ρ 0 4 (gP (ρ 1) k 1)) n k) none 0 z
    refine DOK.done (fun j hj => ?_) (BE.congr ⟨_, _, _, _, hbe⟩ (fun _ _ _ => rfl) (fun _ _ => rfl) (by omega) hB) (fun k2 j hk2 => sp_st_k _ _ _ _ _ _ (by omega)) (fun j hj hj8 => ?_)
    · rw [goes_hi hp.n30 hk hj, sp_st_k _ _ _ _ _ _ (by decide)]
    · rw [m_goes_out (Or.inl (by decide)), sp_st_j _ _ _ _ _ _ (by omega)]
theorem do_D (hp : BR τ (ρ 1) B n t pi ro) (hB : B + 1 < 1000000) (hK : τ (439 + c) 0 = 68) : DOK B τ ρ (f_runOn τ c) (m_doub ρ n (τ (439 + c) 1)) (f_xRun τ c z) (atO (m_find (ρ 1) n (τ (439 + c) 1)) 1 (fun k => if gP (ρ 1) k 7 = 3 then 3 else 0)) z := by
  have hz : cz (τ (439 + c) 0) = 68 := by rw [hK]; decide
  have hacc := acc_o hz (by decide)
  unfold m_doub
  rcases hp.fp (τ (439 + c) 1) with ⟨e1, e2⟩ | ⟨k, hk, e1, e2⟩
  · rw [e2, xRun_no (by rw [hacc, e1]; decide)]
    exact DOK.ref (Or.inl rfl)
  · have hobj : f_obj τ c = f_objDoubt τ (pi k) := by unfold f_obj; rw [hz, e1, if_neg (by decide), if_pos rfl]
    rw [e2, run_o hz (by decide) e1, xRun_ok (by rw [hacc, e1]; rfl), hobj, hp.objD hk]
    have hr : f_runP τ c (pi k) = sp_st τ (9 + pi k) 8 (τ (9 + pi k) 8 + 1) := by unfold f_runP; rw [hz, if_neg (by decide), if_pos rfl]
    rw [hr]
    show DOK B τ ρ _ (if gP (ρ 1) k 7 = 3 then m_rej ρ 7 3 else sp_st (sp_st ρ 0 4 (gP (ρ 1) k 7 + 1)) 1 (19 + 9 * k + 7) (gP (ρ 1) k 7 + 1)) _ (if gP (ρ 1) k 7 = 3 then 3 else 0) z
    by_cases q : gP (ρ 1) k 7 = 3
    · rw [if_pos q, if_pos q, if_pos q]; exact DOK.rej (by decide)
    · rw [if_neg q, if_neg q, if_neg q]
      exact DOK.setP hB (by have := hp.n30; omega) (by decide) (hp.pi30 hk) (hp.doubt (by omega) hk q)
theorem do_C (hp : BR τ (ρ 1) B n t pi ro) (hB : B + 1 < 1000000) (hK : τ (439 + c) 0 = 67) : DOK B τ ρ (f_runOn τ c) (m_conf ρ n (τ (439 + c) 1)) (f_xRun τ c z) (atO (m_find (ρ 1) n (τ (439 + c) 1)) 1 (fun k => if gP (ρ 1) k 7 = 0 then 3 else 0)) z := by
  have hz : cz (τ (439 + c) 0) = 67 := by rw [hK]; decide
  have hacc := acc_o hz (by decide)
  unfold m_conf
  rcases hp.fp (τ (439 + c) 1) with ⟨e1, e2⟩ | ⟨k, hk, e1, e2⟩
  · rw [e2, xRun_no (by rw [hacc, e1]; decide)]
    exact DOK.ref (Or.inl rfl)
  · have hobj : f_obj τ c = f_objConf τ (pi k) := by unfold f_obj; rw [hz, e1, if_pos rfl]
    rw [e2, run_o hz (by decide) e1, xRun_ok (by rw [hacc, e1]; rfl), hobj, hp.objC hk]
    have hr : f_runP τ c (pi k) = sp_st τ (9 + pi k) 8 0 := by unfold f_runP; rw [hz, if_pos rfl]
    rw [hr]
    show DOK B τ ρ _ (if gP (ρ 1) k 7 = 0 then m_rej (sp_st ρ 0 4 (gP (ρ 1) k 7)) 8 0 else sp_st (sp_st ρ 0 4 (gP (ρ 1) k 7)) 1 (19 + 9 * k + 7) 0) _ (if gP (ρ 1) k 7 = 0 then 3 else 0) z
    by_cases q : gP (ρ 1) k 7 = 0
    · rw [if_pos q, if_pos q, if_pos q]
      obtain ⟨d1, d2⟩ := (DOK.rej (B := B) (τ := τ) (ρ := sp_st ρ 0 4 (gP (ρ 1) k 7)) (ς := sp_st τ (9 + pi k) 8 0) (z := z) (y1 := 8) (y2 := 0) (by decide))
      refine ⟨fun j hj => (d1 j hj).trans (sp_st_k _ _ _ _ _ _ (by decide)), ?_⟩
      rcases d2 with ⟨z1, _⟩ | ⟨z1, _⟩ | w
      · exact absurd z1 (by decide)
      · exact absurd z1 (by decide)
      · exact Or.inr (Or.inr w)
    · rw [if_neg q, if_neg q, if_neg q]
      exact DOK.setP hB (by have := hp.n30; omega) (by decide) (hp.pi30 hk) (hp.conf (by omega) hk _)
/-- a command read alike is done alike -/
theorem do_ok (hp : BR τ (ρ 1) B n t pi ro) (hB : B + 1 < 1000000) (hce : CE τ ρ c) : DOK B τ ρ (f_runOn τ c) (m_do ρ n t (7 * c)) (f_xRun τ c z) (m_doV ρ n t (7 * c)) z := by
  obtain ⟨K, h0, h1, h⟩ := hce
  unfold m_do m_doV
  rw [h1]
  rcases h with ⟨hK, e1⟩ | ⟨hK, e1, e2, e3, e4, e5, e6, hlf⟩ | ⟨hK, e1, e2, e3⟩ | ⟨hK, e1⟩
  · rcases hK with hK | hK
    · subst hK
      rw [if_pos rfl, if_pos rfl, ← e1]
      exact do_T hp hB h0
    · subst hK
      rw [if_neg (by decide), if_neg (by decide), if_neg (by decide), if_neg (by decide), if_neg (by decide), if_neg (by decide), if_neg (by decide), if_neg (by decide), if_neg (by decide), if_neg (by decide), if_neg (by decide), if_neg (by decide), if_neg (by decide), if_neg (by decide), ← e1]
      exact do_W hp hB h0
  · subst hK
    have h5 : ρ 4 (7 * c + 5) = b2i (τ (439 + c) 5 != 0) := by
      rw [e5]
      rcases hlf with q | q <;> rw [q] <;> decide
    rw [if_neg (by decide), if_pos rfl, if_neg (by decide), if_pos rfl, h5, ← e1, ← e2, ← e3, ← e4, ← e6]
    exact do_P hp hB h0
  · subst hK
    rw [if_neg (by decide), if_neg (by decide), if_pos rfl, if_neg (by decide), if_neg (by decide), if_pos rfl, ← e1, ← e2, ← e3]
    exact do_H hp hB h0
  · rcases hK with hK | hK | hK | hK
    · subst hK
      rw [if_neg (by decide), if_neg (by decide), if_neg (by decide), if_pos rfl, if_neg (by decide), if_neg (by decide), if_neg (by decide), if_pos rfl, ← e1]
      exact do_F hp hB h0
    · subst hK
      rw [if_neg (by decide), if_neg (by decide), if_neg (by decide), if_neg (by decide), if_pos rfl, if_neg (by decide), if_neg (by decide), if_neg (by decide), if_neg (by decide), if_pos rfl, ← e1]
      exact do_D hp hB h0
    · subst hK
      rw [if_neg (by decide), if_neg (by decide), if_neg (by decide), if_neg (by decide), if_neg (by decide), if_pos rfl, if_neg (by decide), if_neg (by decide), if_neg (by decide), if_neg (by decide), if_neg (by decide), if_pos rfl, ← e1]
      exact do_C hp hB h0
    · subst hK
      rw [if_neg (by decide), if_neg (by decide), if_neg (by decide), if_neg (by decide), if_neg (by decide), if_neg (by decide), if_pos rfl, if_neg (by decide), if_neg (by decide), if_neg (by decide), if_neg (by decide), if_neg (by decide), if_neg (by decide), if_pos rfl, ← e1]
      exact do_X hp hB h0
end DOS
