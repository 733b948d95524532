/-! THE RELATION of one beach: the class's places (g: cell 0 the beach, 3 + i track i, 9 + i print i) and the reference's row f -/
/-- print i of the class is the one at the reference's place k -/
def PE (g : Nat → Nat → Int32) (f : Nat → Int32) (k i : Nat) : Prop := gP f k 0 = g (9 + i) 1 ∧ gP f k 1 = g (9 + i) 2 ∧ gP f k 2 = g (9 + i) 3 ∧ gP f k 3 = g (9 + i) 4 ∧ gP f k 4 = g (9 + i) 5 ∧ gP f k 5 = bz (g (9 + i) 6) ∧ gP f k 6 = g (9 + i) 7 ∧ gP f k 7 = g (9 + i) 8 ∧ gP f k 8 = bz (g (9 + i) 9)
def PX (g : Nat → Nat → Int32) (f : Nat → Int32) (n : Nat) (pi : Nat → Nat) : Prop := (∀ k, k < n → pi k < 30) ∧ (∀ j k, j < n → k < n → pi j = pi k → j = k) ∧ (∀ i, i < 30 → g (9 + i) 0 ≠ 0 → ∃ k, k < n ∧ pi k = i) ∧ (∀ k, k < n → g (9 + pi k) 0 ≠ 0) ∧ ∀ k, k < n → PE g f k (pi k)
def TX (g : Nat → Nat → Int32) (f : Nat → Int32) (t : Nat) (ro : Nat → Nat) : Prop := (∀ k, k < t → ro k < 6) ∧ (∀ j k, j < t → k < t → ro j = ro k → j = k) ∧ (∀ i, i < 6 → g (3 + i) 0 ≠ 0 → ∃ k, k < t ∧ ro k = i) ∧ (∀ k, k < t → g (3 + ro k) 0 ≠ 0) ∧ ∀ k, k < t → gT f k = g (3 + ro k) 1 ∧ gS f k = g (3 + ro k) 2
def SX (g : Nat → Nat → Int32) (f : Nat → Int32) : Prop := f 2 = g 0 3 ∧ f 3 = g 0 4 ∧ f 4 = g 0 2 ∧ f 5 = g 0 5 ∧ f 6 = g 0 6
/-- what holds of every beach: B bounds the ids; from a million on it is a beach with one print moved for a look -/
def VP (f : Nat → Int32) (k : Nat) : Prop := (0 ≤ gP f k 2 ∧ gP f k 2 ≤ 999) ∧ (0 ≤ gP f k 3 ∧ gP f k 3 ≤ 9) ∧ (0 ≤ gP f k 4 ∧ gP f k 4 ≤ 19) ∧ (gP f k 5 = 0 ∨ gP f k 5 = 1) ∧ (1 ≤ gP f k 6 ∧ gP f k 6 ≤ 9) ∧ (0 ≤ gP f k 7 ∧ gP f k 7 ≤ 3) ∧ (gP f k 8 = 0 ∨ gP f k 8 = 1) ∧ True ∧ 0 ≤ gP f k 0 ∧ gP f k 0 < f 3
def VX (f : Nat → Int32) (n t B : Nat) : Prop := (∀ k, k < n → VP f k) ∧ (∀ j k, j < k → k < n → gP f j 0 < gP f k 0) ∧ (∀ j k, j < n → k < n → gP f j 1 = gP f k 1 → gP f j 2 = gP f k 2 → j = k) ∧ (B < 1000000 → (∀ j k, j < n → k < n → gP f j 3 = gP f k 3 → gP f j 4 = gP f k 4 → j = k) ∧ ∀ k, k < n → f 4 ≤ gP f k 3) ∧ (∀ k, k < n → ∃ j, j < t ∧ gT f j = gP f k 1) ∧
  (∀ k, k < t → 0 ≤ gT f k ∧ gT f k < f 2 ∧ 1 ≤ gS f k ∧ gS f k ≤ 9) ∧ (∀ j k, j < k → k < t → gT f j < gT f k) ∧ (0 ≤ f 4 ∧ f 4 ≤ 8) ∧ (0 ≤ f 2 ∧ f 2 ≤ nI B) ∧ (0 ≤ f 3 ∧ f 3 ≤ nI B)
def BR (g : Nat → Nat → Int32) (f : Nat → Int32) (B n t : Nat) (pi ro : Nat → Nat) : Prop := MS f n t ∧ PX g f n pi ∧ TX g f t ro ∧ SX g f ∧ VX f n t B
section BRL
variable {g : Nat → Nat → Int32} {f : Nat → Int32} {B n t : Nat} {pi ro : Nat → Nat}
theorem BR.ms (h : BR g f B n t pi ro) : MS f n t := h.1
theorem BR.n30 (h : BR g f B n t pi ro) : n ≤ 30 := h.1.2.1
theorem BR.t6 (h : BR g f B n t pi ro) : t ≤ 6 := h.1.2.2.2
theorem BR.pe (h : BR g f B n t pi ro) {k : Nat} (hk : k < n) : PE g f k (pi k) := h.2.1.2.2.2.2 k hk
theorem BR.pi30 (h : BR g f B n t pi ro) {k : Nat} (hk : k < n) : pi k < 30 := h.2.1.1 k hk
theorem BR.ex (h : BR g f B n t pi ro) {k : Nat} (hk : k < n) : g (9 + pi k) 0 ≠ 0 := h.2.1.2.2.2.1 k hk
theorem BR.sj (h : BR g f B n t pi ro) {i : Nat} (hi : i < 30) (he : g (9 + i) 0 ≠ 0) : ∃ k, k < n ∧ pi k = i := h.2.1.2.2.1 i hi he
theorem BR.inj (h : BR g f B n t pi ro) {j k : Nat} (hj : j < n) (hk : k < n) (he : pi j = pi k) : j = k := h.2.1.2.1 j k hj hk he
theorem BR.ro6 (h : BR g f B n t pi ro) {k : Nat} (hk : k < t) : ro k < 6 := h.2.2.1.1 k hk
theorem BR.tinj (h : BR g f B n t pi ro) {j k : Nat} (hj : j < t) (hk : k < t) (he : ro j = ro k) : j = k := h.2.2.1.2.1 j k hj hk he
theorem BR.tsj (h : BR g f B n t pi ro) {i : Nat} (hi : i < 6) (he : g (3 + i) 0 ≠ 0) : ∃ k, k < t ∧ ro k = i := h.2.2.1.2.2.1 i hi he
theorem BR.tex (h : BR g f B n t pi ro) {k : Nat} (hk : k < t) : g (3 + ro k) 0 ≠ 0 := h.2.2.1.2.2.2.1 k hk
theorem BR.tid (h : BR g f B n t pi ro) {k : Nat} (hk : k < t) : gT f k = g (3 + ro k) 1 := (h.2.2.1.2.2.2.2 k hk).1
theorem BR.ts (h : BR g f B n t pi ro) {k : Nat} (hk : k < t) : gS f k = g (3 + ro k) 2 := (h.2.2.1.2.2.2.2 k hk).2
theorem BR.sx (h : BR g f B n t pi ro) : SX g f := h.2.2.2.1
theorem BR.vx (h : BR g f B n t pi ro) : VX f n t B := h.2.2.2.2
theorem BR.vp (h : BR g f B n t pi ro) {k : Nat} (hk : k < n) : VP f k := h.2.2.2.2.1 k hk
/-- ids are apart -/
theorem VX.id (h : VX f n t B) {j k : Nat} (hj : j < n) (hk : k < n) (he : gP f j 0 = gP f k 0) : j = k := by
  rcases Nat.lt_trichotomy j k with q | q | q
  · have := h.2.1 j k q hk; rw [he] at this; exact absurd this (Int32.lt_irrefl)
  · exact q
  · have := h.2.1 k j q hj; rw [he] at this; exact absurd this (Int32.lt_irrefl)
theorem VX.tid (h : VX f n t B) {j k : Nat} (hj : j < t) (hk : k < t) (he : gT f j = gT f k) : j = k := by
  rcases Nat.lt_trichotomy j k with q | q | q
  · have := h.2.2.2.2.2.2.1 j k q hk; rw [he] at this; exact absurd this (Int32.lt_irrefl)
  · exact q
  · have := h.2.2.2.2.2.2.1 k j q hj; rw [he] at this; exact absurd this (Int32.lt_irrefl)
theorem ne_true {x : Int32} (h : x ≠ 0) : (x != 0) = true := by simpa using h
theorem ne_false {x : Int32} : (x != 0) = false ↔ x = 0 := by simp
/-- sums over the class's prints are sums over the reference's -/
theorem BR.sum (h : BR g f B n t pi ro) {F G : Nat → Int32} (h0 : ∀ i, i < 30 → g (9 + i) 0 = 0 → F i = 0) (h1 : ∀ k, k < n → F (pi k) = G k) : sumI F 30 = sumI G n := by
  rw [sumI_inj n F (fun k hk => h.pi30 hk) (fun j k hj hk => h.inj hj hk) (fun i hi hn => ?_)]
  · exact sumI_congr h1
  · by_cases he : g (9 + i) 0 = 0
    · exact h0 i hi he
    · obtain ⟨k, hk, hke⟩ := h.sj hi he
      exact absurd hke (hn k hk)
theorem BR.tsum (h : BR g f B n t pi ro) {F G : Nat → Int32} (h0 : ∀ i, i < 6 → g (3 + i) 0 = 0 → F i = 0) (h1 : ∀ k, k < t → F (ro k) = G k) : sumI F 6 = sumI G t := by
  rw [sumI_inj t F (fun k hk => h.ro6 hk) (fun j k hj hk => h.tinj hj hk) (fun i hi hn => ?_)]
  · exact sumI_congr h1
  · by_cases he : g (3 + i) 0 = 0
    · exact h0 i hi he
    · obtain ⟨k, hk, hke⟩ := h.tsj hi he
      exact absurd hke (hn k hk)
/-- and so are first places -/
theorem BR.fst (h : BR g f B n t pi ro) {P Q : Nat → Bool} (h0 : ∀ i, i < 30 → g (9 + i) 0 = 0 → P i = false) (h1 : ∀ k, k < n → Q k = P (pi k)) (hu : ∀ j k, j < n → k < n → Q j = true → Q k = true → j = k) : fstI P 30 = (fstI Q n).map pi :=
  fstI_inj (fun k hk => h.pi30 hk) (fun i hi hP => h.sj hi (fun z => by rw [h0 i hi z] at hP; cases hP)) h1 hu
theorem BR.tfst (h : BR g f B n t pi ro) {P Q : Nat → Bool} (h0 : ∀ i, i < 6 → g (3 + i) 0 = 0 → P i = false) (h1 : ∀ k, k < t → Q k = P (ro k)) (hu : ∀ j k, j < t → k < t → Q j = true → Q k = true → j = k) : fstI P 6 = (fstI Q t).map ro :=
  fstI_inj (fun k hk => h.ro6 hk) (fun i hi hP => h.tsj hi (fun z => by rw [h0 i hi z] at hP; cases hP)) h1 hu
theorem BR.findP (h : BR g f B n t pi ro) (x : Int32) : f_findPrint g x = (m_find f n x).map pi :=
  h.fst (P := P_findPrint g x) (Q := mP_find f x) (fun i _ hz => by unfold P_findPrint; rw [ne_false.mpr hz]; rfl) (fun k hk => by unfold P_findPrint mP_find; rw [ne_true (h.ex hk), (h.pe hk).1]; rfl) (fun j k hj hk h1 h2 => h.vx.id hj hk (by
    unfold mP_find at h1 h2
    rw [beq_iff_eq] at h1 h2
    rw [h1, h2]))
theorem BR.findT (h : BR g f B n t pi ro) (x : Int32) : f_findTrack g x = (m_ft f t x).map ro :=
  h.tfst (P := P_findTrack g x) (Q := mP_ft f x) (fun i _ hz => by unfold P_findTrack; rw [ne_false.mpr hz]; rfl) (fun k hk => by unfold P_findTrack mP_ft; rw [ne_true (h.tex hk), h.tid hk]; rfl) (fun j k hj hk h1 h2 => h.vx.tid hj hk (by
    unfold mP_ft at h1 h2
    rw [beq_iff_eq] at h1 h2
    rw [h1, h2]))
theorem BR.cell (h : BR g f B n t pi ro) (hB : B < 1000000) (r c1 : Int32) : f_inCell g r c1 = (m_cell f n r c1).map pi :=
  h.fst (P := P_inCell g r c1) (Q := mP_cell f r c1) (fun i _ hz => by unfold P_inCell; rw [ne_false.mpr hz]; rfl) (fun k hk => by unfold P_inCell mP_cell; rw [ne_true (h.ex hk), (h.pe hk).2.2.2.1, (h.pe hk).2.2.2.2.1]; rfl) (fun j k hj hk h1 h2 => (h.vx.2.2.2.1 hB).1 j k hj hk (by
    unfold mP_cell at h1 h2
    rw [Bool.and_eq_true, beq_iff_eq, beq_iff_eq] at h1 h2
    rw [h1.1, h2.1]) (by
    unfold mP_cell at h1 h2
    rw [Bool.and_eq_true, beq_iff_eq, beq_iff_eq] at h1 h2
    rw [h1.2, h2.2]))
theorem BR.on (h : BR g f B n t pi ro) {k : Nat} (hk : k < n) (x : Int32) : f_isOn g (9 + pi k) x = (gP f k 1 == x) := by
  unfold f_isOn; rw [ne_true (h.ex hk), (h.pe hk).2.1]; rfl
theorem off {i : Nat} {x : Int32} (hz : g (9 + i) 0 = 0) : f_isOn g (9 + i) x = false := by unfold f_isOn; rw [ne_false.mpr hz]; rfl
theorem BR.time (h : BR g f B n t pi ro) (x u : Int32) : f_atTime g x u = (m_time f n x u).map pi :=
  h.fst (P := P_atTime g x u) (Q := mP_time f x u) (fun i _ hz => by unfold P_atTime; rw [off hz]; rfl) (fun k hk => by unfold P_atTime mP_time; rw [h.on hk, (h.pe hk).2.2.1]) (fun j k hj hk h1 h2 => h.vx.2.2.1 j k hj hk (by
    unfold mP_time at h1 h2
    rw [Bool.and_eq_true, beq_iff_eq, beq_iff_eq] at h1 h2
    rw [h1.1, h2.1]) (by
    unfold mP_time at h1 h2
    rw [Bool.and_eq_true, beq_iff_eq, beq_iff_eq] at h1 h2
    rw [h1.2, h2.2]))
/-! counts -/
theorem BR.tracks (h : BR g f B n t pi ro) : f_countTracks g = nI t := by
  have h1 : sumI (F_countTracks g) 6 = sumI (fun _ => b2i true) t := h.tsum (fun i _ hz => by unfold F_countTracks; rw [ne_false.mpr hz]; rfl) (fun k hk => by unfold F_countTracks; rw [ne_true (h.tex hk)])
  unfold f_countTracks
  rw [h1, sumI_cnt (p := fun _ => true) (fun _ _ => rfl)]
  congr 1
  exact cntN_all t
theorem BR.below (h : BR g f B n t pi ro) (v : Int32) : f_countPrintsInRows g 0 v = m_below f n v :=
  h.sum (F := F_inRows g 0 v) (G := mF_below f v) (fun i _ hz => by unfold F_inRows; rw [ne_false.mpr hz]; rfl) (fun k hk => by
    unfold F_inRows mF_below
    rw [ne_true (h.ex hk), ← (h.pe hk).2.2.2.1, decide_eq_true (h.vp hk).2.1.1]; rfl)
theorem BR.belowT (h : BR g f B n t pi ro) (v : Int32) : f_below g v = m_below f n v :=
  h.sum (F := F_below g v) (G := mF_below f v) (fun i _ hz => by unfold F_below; rw [ne_false.mpr hz]; rfl) (fun k hk => by
    unfold F_below mF_below
    rw [ne_true (h.ex hk), ← (h.pe hk).2.2.2.1]; rfl)
theorem BR.all (h : BR g f B n t pi ro) : f_countPrintsInRows g 0 10 = nI n := by
  rw [h.below]
  unfold m_below
  rw [sumI_cnt (p := fun _ => true) (fun k hk => by
    unfold mF_below
    rw [decide_eq_true (Int32.lt_of_le_of_lt (h.vp hk).2.1.2 (by decide))])]
  congr 1
  exact cntN_all n
theorem BR.inRow (h : BR g f B n t pi ro) {r : Int32} (h0 : 0 ≤ r) (h9 : r ≤ 9) : f_countPrintsInRows g r (r + 1) = m_below f n (r + 1) - m_below f n r := by
  have h1 : f_countPrintsInRows g r (r + 1) = sumI (fun k => b2i (decide (r ≤ gP f k 3) && decide (gP f k 3 < r + 1))) n := h.sum (F := F_inRows g r (r + 1)) (fun i _ hz => by unfold F_inRows; rw [ne_false.mpr hz]; rfl) (fun k hk => by
    unfold F_inRows
    rw [ne_true (h.ex hk), ← (h.pe hk).2.2.2.1]; rfl)
  have h2 : sumI (fun k => mF_below f r k + b2i (decide (r ≤ gP f k 3) && decide (gP f k 3 < r + 1))) n = m_below f n (r + 1) := sumI_congr fun k _ => by
    show b2i (decide (gP f k 3 < r)) + _ = b2i (decide (gP f k 3 < r + 1))
    have hr : r < r + 1 := (inc_le h0 (Int32.lt_of_le_of_lt h9 (show (9 : Int32) < 10 by decide))).1
    by_cases q : gP f k 3 < r
    · rw [decide_eq_true q, decide_eq_false (Int32.not_le.mpr q), decide_eq_true (Int32.lt_trans q hr)]; decide
    · rw [decide_eq_false q, decide_eq_true (Int32.not_lt.mp q)]
      show (0 : Int32) + b2i (true && _) = _
      rw [Bool.true_and, Int32.zero_add]
  rw [sumI_add] at h2
  rw [h1, ← h2]
  show _ = sumI (mF_below f r) n + _ - sumI (mF_below f r) n
  rw [Int32.add_comm (sumI (mF_below f r) n), Int32.add_sub_cancel]
theorem BR.late (h : BR g f B n t pi ro) : f_countLatePrints g = sumI (mF_late f) n :=
  h.sum (F := F_late g) (G := mF_late f) (fun i _ hz => by unfold F_late; rw [ne_false.mpr hz]; rfl) (fun k hk => by
    unfold F_late mF_late
    rw [ne_true (h.ex hk), (h.pe hk).2.2.2.2.2.2.2.2, Bool.true_and, bz_ne])
/-- prints of a track -/
theorem BR.cnt (h : BR g f B n t pi ro) (x : Int32) : f_countPrintsBetween g x (-1) 1000 = m_count f n x :=
  h.sum (F := F_between g x (-1) 1000) (G := mF_cnt f x) (fun i _ hz => by unfold F_between; rw [off hz]; rfl) (fun k hk => by
    unfold F_between mF_cnt
    rw [h.on hk, ← (h.pe hk).2.2.1, decide_eq_true (Int32.lt_of_lt_of_le (show (-1 : Int32) < 0 by decide) (h.vp hk).1.1), decide_eq_true (Int32.lt_of_le_of_lt (h.vp hk).1.2 (show (999 : Int32) < 1000 by decide)), Bool.and_true, Bool.and_true])
theorem BR.count (h : BR g f B n t pi ro) {k : Nat} (hk : k < t) : f_countPrints g (ro k) = m_count f n (gT f k) := by
  unfold f_countPrints; rw [← h.tid hk]; exact h.cnt _
theorem BR.onT (h : BR g f B n t pi ro) {k : Nat} (hk : k < t) : f_dropTv g (ro k) = m_count f n (gT f k) := by
  unfold f_dropTv
  rw [← h.tid hk]
  exact h.sum (G := mF_cnt f (gT f k)) (fun i _ hz => by unfold F_onT; rw [off hz]; rfl) (fun j hj => by unfold F_onT mF_cnt; rw [h.on hj])
theorem BR.later (h : BR g f B n t pi ro) (x u : Int32) : decide (0 < f_countPrintsBetween g x u 1000) = m_later f n x u := by
  unfold m_later
  rw [show f_countPrintsBetween g x u 1000 = sumI (mF_later f x u) n from h.sum (F := F_between g x u 1000) (G := mF_later f x u) (fun i _ hz => by unfold F_between; rw [off hz]; rfl) (fun k hk => by
    unfold F_between mF_later
    rw [h.on hk, ← (h.pe hk).2.2.1, decide_eq_true (Int32.lt_of_le_of_lt (h.vp hk).1.2 (show (999 : Int32) < 1000 by decide)), Bool.and_true])]
end BRL
