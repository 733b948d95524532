/-! errors, lengths, ranks and orders of one beach -/
section BRF
variable {g : Nat → Nat → Int32} {f : Nat → Int32} {B n t : Nat} {pi ro : Nat → Nat}
theorem VP.c9 {k : Nat} (h : VP f k) : (0 ≤ gP f k 3 ∧ gP f k 3 ≤ 999) ∧ (0 ≤ gP f k 4 ∧ gP f k 4 ≤ 999) ∧ (0 ≤ gP f k 6 ∧ gP f k 6 ≤ 999) := ⟨⟨h.2.1.1, Int32.le_trans h.2.1.2 (by decide)⟩, ⟨h.2.2.1.1, Int32.le_trans h.2.2.1.2 (by decide)⟩, ⟨Int32.le_trans (by decide) h.2.2.2.2.1.1, Int32.le_trans h.2.2.2.2.1.2 (by decide)⟩⟩
theorem m_dist_sym {j k : Nat} (hj : VP f j) (hk : VP f k) : m_dist f j (gP f k 3) (gP f k 4) = m_dist f k (gP f j 3) (gP f j 4) := by
  unfold m_dist
  rw [m_size_abs, m_size_abs, m_size_abs, m_size_abs, iabs_symm hj.c9.1 hk.c9.1, iabs_symm hj.c9.2.1 hk.c9.2.1]
theorem m_stride_some {a j : Nat} (hj : m_bes f n a false = some j) : m_stride f n a = m_dist f j (gP f a 3) (gP f a 4) := by unfold m_stride; rw [hj]
theorem BR.strideV (h : BR g f B n t pi ro) {a j : Nat} (ha : a < n) (hj : j < n) : f_dist g (9 + pi a) (g (9 + pi j) 4) (g (9 + pi j) 5) = m_dist f j (gP f a 3) (gP f a 4) := by
  rw [h.dist ha, ← (h.pe hj).2.2.2.1, ← (h.pe hj).2.2.2.2.1, m_dist_sym (h.vp ha) (h.vp hj)]
theorem VX.track (h : VX f n t B) {a : Nat} (ha : a < n) : ∃ j, m_ft f t (gP f a 1) = some j ∧ j < t := by
  rcases opt_em (m_ft f t (gP f a 1)) with q | ⟨j, q⟩
  · obtain ⟨j, hj, he⟩ := h.2.2.2.2.1 a ha
    have := fstI_none.mp q j hj
    unfold mP_ft at this
    rw [he] at this
    simp at this
  · exact ⟨j, q, m_ft_lt q⟩
theorem BR.tooLong (h : BR g f B n t pi ro) {a : Nat} (ha : a < n) : f_tooLong g (f_before g (pi a)) (pi a) = m_err f n t a 0 := by
  rw [h.before ha]
  unfold m_err
  rcases hb : m_bes f n a false with _ | j
  · rfl
  · have hj := m_bes_lt hb
    show f_tooLong g (some (pi j)) (pi a) = (if (0 : Int32) = 0 then decide (m_lim f t a < m_stride f n a) else _)
    rw [if_pos rfl, m_stride_some hb]
    unfold f_tooLong m_lim
    obtain ⟨r, hr, hrt⟩ := h.vx.track ha
    rw [← (h.pe ha).2.1, h.findT, hr]
    show decide (g (3 + ro r) 2 < f_dist g (9 + pi a) (g (9 + pi j) 4) (g (9 + pi j) 5)) = decide (gS f r < _)
    rw [h.strideV ha hj, h.ts hrt]
theorem bz01 {x : Int32} (h : x = 0 ∨ x = 1) : bz x = x := by rcases h with rfl | rfl <;> decide
theorem BR.sameFoot (h : BR g f B n t pi ro) {a : Nat} (ha : a < n) : f_sameFoot g (f_before g (pi a)) (pi a) = m_err f n t a 1 := by
  rw [h.before ha]
  unfold m_err
  rcases hb : m_bes f n a false with _ | j
  · rfl
  · have hj := m_bes_lt hb
    show (bz (g (9 + pi j) 6) == bz (g (9 + pi a) 6)) = (if (1 : Int32) = 0 then _ else if (1 : Int32) = 1 then gP f a 5 == gP f j 5 else _)
    rw [if_neg (by decide), if_pos rfl, ← (h.pe ha).2.2.2.2.2.1, ← (h.pe hj).2.2.2.2.2.1, Bool.beq_comm]
theorem BR.uneven (h : BR g f B n t pi ro) {a : Nat} (ha : a < n) : f_uneven g (f_before g (pi a)) (pi a) = m_err f n t a 2 := by
  rw [h.before ha]
  unfold m_err
  rcases hb : m_bes f n a false with _ | j
  · rfl
  · have hj := m_bes_lt hb
    show decide (3 < iabs (g (9 + pi j) 7 - g (9 + pi a) 7)) = (if (2 : Int32) = 0 then _ else if (2 : Int32) = 1 then _ else decide (3 < m_size (gP f a 6 - gP f j 6)))
    rw [if_neg (by decide), if_neg (by decide), ← (h.pe ha).2.2.2.2.2.2.1, ← (h.pe hj).2.2.2.2.2.2.1, m_size_abs, iabs_symm (h.vp hj).c9.2.2 (h.vp ha).c9.2.2]
theorem BR.errs (h : BR g f B n t pi ro) (x : Int32) : f_errs g x = m_errs f n t x := by
  unfold f_errs m_errs
  rw [foldI_sum (F := fun i => if f_isOn g (9 + i) x = true then b2i (f_tooLong g (f_before g i) i) + b2i (f_sameFoot g (f_before g i) i) + b2i (f_uneven g (f_before g i) i) else 0) (fun y i => ?_), Int32.zero_add]
  · refine h.sum (fun i _ hz => if_neg (by rw [off hz]; decide)) (fun k hk => ?_)
    unfold mF_errs m_errs1
    show (if f_isOn g (9 + pi k) x = true then _ else (0 : Int32)) = _
    rw [h.on hk, h.tooLong hk, h.sameFoot hk, h.uneven hk]
    exact if_cg beq_iff_eq
  · unfold F_err
    by_cases q : f_isOn g (9 + i) x = true
    · rw [if_pos q, if_pos q, Int32.add_assoc, Int32.add_assoc, Int32.add_assoc]
    · rw [if_neg q, if_neg q]
      show y + 0 + 0 + 0 = y + 0
      rw [Int32.add_zero, Int32.add_zero, Int32.add_zero]
theorem BR.errsK (h : BR g f B n t pi ro) (x : Int32) : f_errsK g x = m_errs f n t x := by
  unfold f_errsK m_errs
  rw [foldI_sum (f := F_k1 g x) (F := fun i => b2i (f_isOn g (9 + i) x && f_tooLong g (f_before g i) i)) (fun _ _ => rfl), foldI_sum (f := F_k2 g x) (F := fun i => b2i (f_isOn g (9 + i) x && f_sameFoot g (f_before g i) i)) (fun _ _ => rfl), foldI_sum (f := F_k3 g x) (F := fun i => b2i (f_isOn g (9 + i) x && f_uneven g (f_before g i) i)) (fun _ _ => rfl), Int32.zero_add, Int32.zero_add, Int32.zero_add, ← sumI_add, ← sumI_add]
  refine h.sum (fun i _ hz => ?_) (fun k hk => ?_)
  · rw [off hz]; show (0 : Int32) + 0 + 0 = 0; decide
  · unfold mF_errs m_errs1
    rw [h.on hk, h.tooLong hk, h.sameFoot hk, h.uneven hk]
    by_cases q : gP f k 1 = x
    · rw [if_pos q, beq_iff_eq.mpr q]; rfl
    · rw [if_neg q, show (gP f k 1 == x) = false by simpa using q]; rfl
theorem BR.len (h : BR g f B n t pi ro) {r : Nat} (hr : r < t) : f_len g (ro r) = m_len f n (gT f r) := by
  unfold f_len m_len
  rw [foldI_sum (F := fun i => if f_isOn g (9 + i) (g (3 + ro r) 1) = true then atO (f_before g i) 0 (fun j => f_dist g (9 + i) (g (9 + j) 4) (g (9 + j) 5)) else 0) (fun y i => ?_), Int32.zero_add]
  · refine h.sum (fun i _ hz => if_neg (by rw [off hz]; decide)) (fun k hk => ?_)
    unfold mF_len m_stride
    rw [← h.tid hr, h.on hk, h.before hk]
    by_cases q : gP f k 1 = gT f r
    · rw [if_pos (beq_iff_eq.mpr q), if_pos q]
      rcases hb : m_bes f n k false with _ | j
      · rfl
      · show f_dist g (9 + pi k) (g (9 + pi j) 4) (g (9 + pi j) 5) = _
        rw [h.strideV hk (m_bes_lt hb)]
    · rw [if_neg (fun z => q (beq_iff_eq.mp z)), if_neg q]
  · unfold F_len
    by_cases q : f_isOn g (9 + i) (g (3 + ro r) 1) = true
    · rw [if_pos q, if_pos q]
      rcases f_before g i with _ | j <;> rfl
    · rw [if_neg q, if_neg q]
theorem BR.lenD (h : BR g f B n t pi ro) {r : Nat} (hr : r < t) : f_lenD g (ro r) = m_len f n (gT f r) := by
  unfold f_lenD m_len
  rw [foldI_sum (f := F_dr g (ro r)) (F := fun i => if f_isOn g (9 + i) (g (3 + ro r) 1) = true then atO (f_before g i) 0 (fun j => iabs (g (9 + i) 4 - g (9 + j) 4)) else 0) (fun y i => ?_), foldI_sum (f := F_dc g (ro r)) (F := fun i => if f_isOn g (9 + i) (g (3 + ro r) 1) = true then atO (f_before g i) 0 (fun j => iabs (g (9 + i) 5 - g (9 + j) 5)) else 0) (fun y i => ?_), Int32.zero_add, Int32.zero_add, ← sumI_add]
  · refine h.sum (fun i _ hz => ?_) (fun k hk => ?_)
    · rw [if_neg (by rw [off hz]; decide), if_neg (by rw [off hz]; decide)]; decide
    · unfold mF_len m_stride
      rw [← h.tid hr, h.on hk, h.before hk]
      by_cases q : gP f k 1 = gT f r
      · rw [if_pos (beq_iff_eq.mpr q), if_pos (beq_iff_eq.mpr q), if_pos q]
        rcases hb : m_bes f n k false with _ | j
        · show (0 : Int32) + 0 = 0; decide
        · show iabs (g (9 + pi k) 4 - g (9 + pi j) 4) + iabs (g (9 + pi k) 5 - g (9 + pi j) 5) = m_dist f j (gP f k 3) (gP f k 4)
          rw [← h.strideV hk (m_bes_lt hb)]
          rfl
      · rw [if_neg (fun z => q (beq_iff_eq.mp z)), if_neg (fun z => q (beq_iff_eq.mp z)), if_neg q]; decide
  · unfold F_dc
    by_cases q : f_isOn g (9 + i) (g (3 + ro r) 1) = true
    · rw [if_pos q, if_pos q]
      rcases f_before g i with _ | j
      · exact (Int32.add_zero _).symm
      · rfl
    · rw [if_neg q, if_neg q, Int32.add_zero]
  · unfold F_dr
    by_cases q : f_isOn g (9 + i) (g (3 + ro r) 1) = true
    · rw [if_pos q, if_pos q]
      rcases f_before g i with _ | j
      · exact (Int32.add_zero _).symm
      · rfl
    · rw [if_neg q, if_neg q, Int32.add_zero]
theorem BR.hasErr (h : BR g f B n t pi ro) {a : Nat} (ha : a < n) : f_hasError g (pi a) = decide (0 < m_errs1 f n t a) := by
  unfold f_hasError m_errs1
  rw [h.tooLong ha, h.sameFoot ha, h.uneven ha]
  rcases m_err f n t a 0 with _ | _ <;> rcases m_err f n t a 1 with _ | _ <;> rcases m_err f n t a 2 with _ | _ <;> decide
/-! ranks of a track -/
def tA (f : Nat → Int32) (x : Int32) (k : Nat) : Bool := gP f k 1 == x
def tT (f : Nat → Int32) (k : Nat) : Nat := tn (gP f k 2)
theorem VX.ds (h : VX f n t B) (x : Int32) : dsN (tA f x) (tT f) n := fun j k hj hk h1 h2 he => h.2.2.1 j k hj hk (by
    unfold tA at h1 h2
    rw [beq_iff_eq] at h1 h2
    rw [h1, h2]) ((i0_eq (h.1 j hj).1.1 (h.1 k hk).1.1).mpr he)
theorem VX.top (h : VX f n t B) (x : Int32) : rkN (tA f x) (tT f) n 1000 = cntN (tA f x) n := rkN_top fun j hj _ => by
  have := i0_tn (b := 999) (h.1 j hj).1.1 (h.1 j hj).1.2 (by decide)
  unfold tT; omega
theorem m_count_N (x : Int32) : m_count f n x = nI (cntN (tA f x) n) := sumI_cnt fun _ _ => rfl
theorem VX.ah (h : VX f n t B) (x : Int32) {k : Nat} (hk : k < n) : sumI (mF_ah f x k) n = nI (rkN (tA f x) (tT f) n (tT f k)) := sumI_cnt fun j hj => by
  unfold mF_ah tA tT
  congr 2
  exact decide_eq_decide.mpr (i0_lt (h.1 j hj).1.1 (h.1 k hk).1.1)
theorem rk_31 {A : Nat → Bool} {T : Nat → Nat} {x : Nat} (hn : n ≤ 30) : rkN A T n x < 2 ^ 31 := by
  have := cntN_le (fun j => A j && decide (T j < x)) n
  unfold rkN
  omega
theorem BR.po (h : BR g f B n t pi ro) {r : Nat} (hr : r < t) (q : Int32) : f_inPlace g (ro r) q = (m_po f n (gT f r) q).map pi := by
  refine h.fst (P := P_inPlace g (ro r) q) (Q := mP_po f n (gT f r) q) (fun i _ hz => by unfold P_inPlace; rw [off hz]; rfl) (fun k hk => ?_) (fun j k hj hk h1 h2 => ?_)
  · unfold P_inPlace mP_po
    rw [← h.tid hr, h.on hk]
    congr 2
    refine (h.sum (F := F_between g (gT f r) (-1) (g (9 + pi k) 3)) (G := mF_ah f (gT f r) k) (fun i _ hz => by unfold F_between; rw [off hz]; rfl) (fun j hj => ?_)).symm
    unfold F_between mF_ah
    rw [h.on hj, ← (h.pe hj).2.2.1, ← (h.pe hk).2.2.1, decide_eq_true (Int32.lt_of_lt_of_le (show (-1 : Int32) < 0 by decide) (h.vp hj).1.1), Bool.and_true]
  · unfold mP_po at h1 h2
    rw [Bool.and_eq_true, beq_iff_eq] at h1 h2
    refine rkN_inj (h.vx.ds (gT f r)) hj hk (by unfold tA; rw [beq_iff_eq]; exact h1.1) (by unfold tA; rw [beq_iff_eq]; exact h2.1) ?_
    have h3 := (beq_iff_eq.mp h1.2).trans (beq_iff_eq.mp h2.2).symm
    rw [h.vx.ah _ hj, h.vx.ah _ hk] at h3
    exact (nI_eq (rk_31 h.n30) (rk_31 h.n30)).mp h3
/-- every position below the number is taken, by its rank -/
theorem VX.po (h : VX f n t B) (hn : n ≤ 30) (x : Int32) {q : Nat} (hq : q < cntN (tA f x) n) : ∃ k, m_po f n x (nI q) = some k ∧ k < n ∧ gP f k 1 = x ∧ rkN (tA f x) (tT f) n (tT f k) = q := by
  rcases opt_em (m_po f n x (nI q)) with e | ⟨k, e⟩
  · obtain ⟨j, hj, hA, hr⟩ := rkN_some (h.ds x) 1000 (by rw [h.top]; exact hq)
    have h1 := fstI_none.mp e j hj
    unfold mP_po at h1
    rw [show (gP f j 1 == x) = true from hA, h.ah x hj, hr, beq_self_eq_true] at h1
    cases h1
  · obtain ⟨hk, hP, -⟩ := fstI_some e
    unfold mP_po at hP
    rw [Bool.and_eq_true, beq_iff_eq, beq_iff_eq, h.ah x hk] at hP
    have hc := cntN_le (tA f x) n
    exact ⟨k, e, hk, hP.1, (nI_eq (rk_31 hn) (by omega)).mp hP.2⟩
theorem VX.po_none (h : VX f n t B) (hn : n ≤ 30) {x q : Int32} (hq : m_in q 0 (m_count f n x - 1) = false) : m_po f n x q = none := by
  refine fstI_none.mpr fun k hk => ?_
  rcases hP : mP_po f n x q k with _ | _
  · rfl
  · exfalso
    unfold mP_po at hP
    rw [Bool.and_eq_true, beq_iff_eq, beq_iff_eq, h.ah x hk] at hP
    have h1 : rkN (tA f x) (tT f) n (tT f k) < cntN (tA f x) n := by
      rw [← h.top x]
      refine rkN_lt hk (by unfold tA; rw [beq_iff_eq]; exact hP.1) ?_
      have := i0_tn (b := 999) (h.1 k hk).1.1 (h.1 k hk).1.2 (by decide)
      unfold tT; omega
    have hc := cntN_le (tA f x) n
    rw [← hP.2, m_count_N, show nI (cntN (tA f x) n) - 1 = nI (cntN (tA f x) n - 1) from nI_subE rfl rfl (by omega)] at hq
    unfold m_in at hq
    rw [decide_eq_true (nI_pos' (rk_31 hn)), decide_eq_true (nI_le (by omega) (by omega))] at hq
    cases hq
end BRF
