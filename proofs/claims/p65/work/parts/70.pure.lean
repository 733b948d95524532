/-! ORDERS: places by rank -/
section PRK
variable {f : Nat → Int32} {B n t : Nat}
abbrev allB : Nat → Bool := fun _ => true
def keyT (f : Nat → Int32) (n t j : Nat) : Nat := ((90 - tn (m_errs f n t (gT f j))) * 31 + (30 - tn (m_count f n (gT f j)))) * 6 + j
def keyD (f : Nat → Int32) (j : Nat) : Nat := ((3 - tn (gP f j 7)) * 1000 + tn (gP f j 2)) * 31 + j
theorem tn_errs (hn : n ≤ 30) (x : Int32) : tn (m_errs f n t x) ≤ 90 := by
  obtain ⟨e, he, h⟩ := m_errs_nat (f := f) (t := t) hn x
  rw [h, tn_nI (by omega)]; exact he
theorem tn_count (hn : n ≤ 30) (x : Int32) : tn (m_count f n x) ≤ 30 := by
  obtain ⟨e, he, h⟩ := m_count_nat (f := f) hn x
  rw [h, tn_nI (by omega)]; exact he
theorem keyT_iff (hn : n ≤ 30) {j k : Nat} (hj : j < 6) (hk : k < 6) : LT9 f n t j k ↔ keyT f n t j < keyT f n t k := by
  have h1 := tn_errs (f := f) (t := t) hn (gT f j)
  have h2 := tn_errs (f := f) (t := t) hn (gT f k)
  have h3 := tn_count (f := f) hn (gT f j)
  have h4 := tn_count (f := f) hn (gT f k)
  unfold LT9 keyT
  generalize tn (m_errs f n t (gT f j)) = a at *
  generalize tn (m_errs f n t (gT f k)) = b at *
  generalize tn (m_count f n (gT f j)) = d at *
  generalize tn (m_count f n (gT f k)) = e at *
  omega
theorem keyT_lt (hn : n ≤ 30) {j : Nat} (hj : j < 6) : keyT f n t j < 20000 := by
  unfold keyT
  omega
theorem keyT_ds (hn : n ≤ 30) (ht : t ≤ 6) : dsN allB (keyT f n t) t := fun j k hj hk _ _ he => by
  unfold keyT at he
  generalize tn (m_errs f n t (gT f j)) = a at *
  generalize tn (m_errs f n t (gT f k)) = b at *
  generalize tn (m_count f n (gT f j)) = d at *
  generalize tn (m_count f n (gT f k)) = e at *
  omega
theorem VX.d3 (h : VX f n t B) {k : Nat} (hk : k < n) : tn (gP f k 7) ≤ 3 := i0_tn (b := 3) (h.1 k hk).2.2.2.2.2.1.1 (h.1 k hk).2.2.2.2.2.1.2 (by decide)
theorem VX.t999 (h : VX f n t B) {k : Nat} (hk : k < n) : tn (gP f k 2) ≤ 999 := i0_tn (b := 999) (h.1 k hk).1.1 (h.1 k hk).1.2 (by decide)
theorem keyD_iff (h : VX f n t B) (hn : n ≤ 30) {j k : Nat} (hj : j < n) (hk : k < n) : LD f j k ↔ keyD f j < keyD f k := by
  have h1 := h.d3 hj
  have h2 := h.d3 hk
  have h3 := h.t999 hj
  have h4 := h.t999 hk
  unfold LD keyD
  generalize tn (gP f j 7) = a at *
  generalize tn (gP f k 7) = b at *
  generalize tn (gP f j 2) = d at *
  generalize tn (gP f k 2) = e at *
  omega
theorem keyD_lt (h : VX f n t B) (hn : n ≤ 30) {j : Nat} (hj : j < n) : keyD f j < 200000 := by
  have h3 := h.t999 hj
  unfold keyD
  omega
theorem keyD_ds (hn : n ≤ 30) : dsN allB (keyD f) n := fun j k hj hk _ _ he => by
  unfold keyD at he
  generalize tn (gP f j 7) = a at *
  generalize tn (gP f k 7) = b at *
  generalize tn (gP f j 2) = d at *
  generalize tn (gP f k 2) = e at *
  omega
theorem dec_iff {b : Bool} {p : Prop} [Decidable p] (h : b = true ↔ p) : b = decide p := by
  rcases b with _ | _
  · exact (decide_eq_false (fun z => by cases h.mpr z)).symm
  · exact (decide_eq_true (h.mp rfl)).symm
theorem te_sum (hn : n ≤ 30) (ht : t ≤ 6) {k : Nat} (hk : k < t) : sumI (mF_te f n t k) t = nI (rkN allB (keyT f n t) t (keyT f n t k)) := sumI_cnt fun j hj => by
  show b2i (m_teB f n t k j) = b2i (true && decide (keyT f n t j < keyT f n t k))
  rw [Bool.true_and]
  exact congrArg b2i (dec_iff ((te_iff hn (by omega) (by omega)).trans (keyT_iff hn (by omega) (by omega))))
theorem pd_sum (h : VX f n t B) (hn : n ≤ 30) {k : Nat} (hk : k < n) : sumI (mF_pd f k) n = nI (rkN allB (keyD f) n (keyD f k)) := sumI_cnt fun j hj => by
  show b2i (m_pdB f k j) = b2i (true && decide (keyD f j < keyD f k))
  rw [Bool.true_and]
  exact congrArg b2i (dec_iff ((h.pd hn hj hk).trans (keyD_iff h hn hj hk)))
theorem te_at (hn : n ≤ 30) (ht : t ≤ 6) {q : Nat} (hq : q < t) : ∃ k, fstI (mP_te f n t (nI q)) t = some k ∧ k < t ∧ rkN allB (keyT f n t) t (keyT f n t k) = q := by
  obtain ⟨j, hj, -, hr⟩ := rkN_some (q := q) (keyT_ds (f := f) hn ht) 20000 (by rw [rkN_top (fun j hj _ => keyT_lt hn (by omega)), cntN_all]; exact hq)
  rcases opt_em (fstI (mP_te f n t (nI q)) t) with e | ⟨k, e⟩
  · have h1 := fstI_none.mp e j hj
    unfold mP_te at h1
    rw [te_sum hn ht hj, hr, beq_self_eq_true] at h1
    cases h1
  · obtain ⟨hk, hP, -⟩ := fstI_some e
    unfold mP_te at hP
    rw [beq_iff_eq, te_sum hn ht hk] at hP
    exact ⟨k, e, hk, (nI_eq (rk_31 (by omega)) (by omega)).mp hP⟩
theorem pd_at (h : VX f n t B) (hn : n ≤ 30) {q : Nat} (hq : q < n) : ∃ k, fstI (mP_pd f n (nI q)) n = some k ∧ k < n ∧ rkN allB (keyD f) n (keyD f k) = q := by
  obtain ⟨j, hj, -, hr⟩ := rkN_some (q := q) (keyD_ds (f := f) hn) 200000 (by rw [rkN_top (fun j hj _ => keyD_lt h hn hj), cntN_all]; exact hq)
  rcases opt_em (fstI (mP_pd f n (nI q)) n) with e | ⟨k, e⟩
  · have h1 := fstI_none.mp e j hj
    unfold mP_pd at h1
    rw [pd_sum h hn hj, hr, beq_self_eq_true] at h1
    cases h1
  · obtain ⟨hk, hP, -⟩ := fstI_some e
    unfold mP_pd at hP
    rw [beq_iff_eq, pd_sum h hn hk] at hP
    exact ⟨k, e, hk, (nI_eq (rk_31 hn) (by omega)).mp hP⟩
def plT (f : Nat → Int32) (n t q : Nat) : Nat := (fstI (mP_te f n t (nI q)) t).getD 0
def plD (f : Nat → Int32) (n q : Nat) : Nat := (fstI (mP_pd f n (nI q)) n).getD 0
theorem plT_ok (hn : n ≤ 30) (ht : t ≤ 6) {q : Nat} (hq : q < t) : fstI (mP_te f n t (nI q)) t = some (plT f n t q) ∧ plT f n t q < t ∧ rkN allB (keyT f n t) t (keyT f n t (plT f n t q)) = q := by
  obtain ⟨k, e, h1, h2⟩ := te_at (f := f) hn ht hq
  have e9 : plT f n t q = k := by unfold plT; rw [e]; rfl
  rw [e9]; exact ⟨e, h1, h2⟩
theorem plD_ok (h : VX f n t B) (hn : n ≤ 30) {q : Nat} (hq : q < n) : fstI (mP_pd f n (nI q)) n = some (plD f n q) ∧ plD f n q < n ∧ rkN allB (keyD f) n (keyD f (plD f n q)) = q := by
  obtain ⟨k, e, h1, h2⟩ := pd_at h hn hq
  have e9 : plD f n q = k := by unfold plD; rw [e]; rfl
  rw [e9]; exact ⟨e, h1, h2⟩
theorem te_no (hn : n ≤ 30) (ht : t ≤ 6) : fstI (mP_te f n t (nI t)) t = none := fstI_none.mpr fun k hk => by
  unfold mP_te
  rw [te_sum hn ht hk]
  have h9 : rkN allB (keyT f n t) t (keyT f n t k) < t := by
    have := rkN_lt (A := allB) (T := keyT f n t) (y := 20000) hk rfl (keyT_lt hn (by omega))
    rw [rkN_top (fun j hj _ => keyT_lt hn (by omega)), cntN_all] at this
    exact this
  exact beq_false_of_ne fun z => by
    have := (nI_eq (by omega) (by omega)).mp z
    omega
theorem pd_no (h : VX f n t B) (hn : n ≤ 30) : fstI (mP_pd f n (nI n)) n = none := fstI_none.mpr fun k hk => by
  unfold mP_pd
  rw [pd_sum h hn hk]
  have h9 : rkN allB (keyD f) n (keyD f k) < n := by
    have := rkN_lt (A := allB) (T := keyD f) (y := 200000) hk rfl (keyD_lt h hn hk)
    rw [rkN_top (fun j hj _ => keyD_lt h hn hj), cntN_all] at this
    exact this
  exact beq_false_of_ne fun z => by
    have := (nI_eq (by omega) (by omega)).mp z
    omega
theorem rk_lt {A : Nat → Bool} {T : Nat → Nat} {x y : Nat} (h : rkN A T n x < rkN A T n y) : x < y := by
  rcases Nat.lt_or_ge x y with q | q
  · exact q
  · have := rkN_mono (A := A) (T := T) (n := n) q; omega
theorem sub_neg {a b : Nat} (ha : a < 2 ^ 31) (h : b ≤ a) : ¬ nI a - nI b < 0 := by
  rw [show nI a - nI b = nI (a - b) from nI_subE rfl rfl h]
  exact Int32.not_lt.mpr (nI_pos' (by omega))
theorem sub_zero {a b : Nat} (ha : a < 2 ^ 31) (hb : b < 2 ^ 31) (h : nI a - nI b = 0) : a = b := (nI_eq ha hb).mp (i0_sub0.mp h)
/-- tracks in their order -/
theorem te_ord (h : VX f n t B) (hn : n ≤ 30) (ht : t ≤ 6) {q : Nat} (hq : q + 1 < t) : ¬ m_errs f n t (gT f (plT f n t q)) - m_errs f n t (gT f (plT f n t (q + 1))) < 0 ∧ (m_errs f n t (gT f (plT f n t q)) - m_errs f n t (gT f (plT f n t (q + 1))) = 0 → ¬ m_count f n (gT f (plT f n t q)) - m_count f n (gT f (plT f n t (q + 1))) < 0 ∧ (m_count f n (gT f (plT f n t q)) - m_count f n (gT f (plT f n t (q + 1))) = 0 → ¬ gT f (plT f n t (q + 1)) < gT f (plT f n t q))) := by
  obtain ⟨-, a1, a2⟩ := plT_ok (f := f) hn ht (show q < t by omega)
  obtain ⟨-, b1, b2⟩ := plT_ok (f := f) hn ht hq
  have hk : keyT f n t (plT f n t q) < keyT f n t (plT f n t (q + 1)) := rk_lt (n := t) (A := allB) (T := keyT f n t) (by omega)
  have h9 := (keyT_iff (f := f) (t := t) hn (by omega) (by omega)).mpr hk
  generalize plT f n t q = j at *
  generalize plT f n t (q + 1) = k at *
  obtain ⟨x, hx, ex⟩ := m_errs_nat (f := f) (t := t) hn (gT f j)
  obtain ⟨y, hy, ey⟩ := m_errs_nat (f := f) (t := t) hn (gT f k)
  obtain ⟨u, hu, eu⟩ := m_count_nat (f := f) hn (gT f j)
  obtain ⟨v, hv, ev⟩ := m_count_nat (f := f) hn (gT f k)
  unfold LT9 at h9
  rw [ex, ey, eu, ev] at h9 ⊢
  rw [tn_nI (by omega), tn_nI (by omega), tn_nI (by omega), tn_nI (by omega)] at h9
  refine ⟨sub_neg (by omega) (by omega), fun z => ?_⟩
  have e1 := sub_zero (by omega) (by omega) z
  refine ⟨sub_neg (by omega) (by omega), fun z2 => ?_⟩
  have e2 := sub_zero (by omega) (by omega) z2
  have hjk : j < k := by omega
  exact Int32.lt_asymm (h.2.2.2.2.2.2.1 j k hjk b1)
/-- prints in their order -/
theorem pd_ord (h : VX f n t B) (hn : n ≤ 30) {q : Nat} (hq : q + 1 < n) : ¬ gP f (plD f n q) 7 - gP f (plD f n (q + 1)) 7 < 0 ∧ (gP f (plD f n q) 7 - gP f (plD f n (q + 1)) 7 = 0 → ¬ gP f (plD f n (q + 1)) 2 - gP f (plD f n q) 2 < 0 ∧ (gP f (plD f n (q + 1)) 2 - gP f (plD f n q) 2 = 0 → ¬ gP f (plD f n (q + 1)) 0 < gP f (plD f n q) 0)) := by
  obtain ⟨-, a1, a2⟩ := plD_ok h hn (show q < n by omega)
  obtain ⟨-, b1, b2⟩ := plD_ok h hn hq
  have hk : keyD f (plD f n q) < keyD f (plD f n (q + 1)) := rk_lt (n := n) (A := allB) (T := keyD f) (by omega)
  have h9 := (keyD_iff h hn a1 b1).mpr hk
  generalize plD f n q = j at *
  generalize plD f n (q + 1) = k at *
  obtain ⟨x, hx, ex⟩ := nI_of2 (M := 3) (n := 3) (by decide) (Int32.not_lt.mpr (h.1 j a1).2.2.2.2.2.1.1) (h.1 j a1).2.2.2.2.2.1.2
  obtain ⟨y, hy, ey⟩ := nI_of2 (M := 3) (n := 3) (by decide) (Int32.not_lt.mpr (h.1 k b1).2.2.2.2.2.1.1) (h.1 k b1).2.2.2.2.2.1.2
  obtain ⟨u, hu, eu⟩ := t_nat (h.1 j a1).1
  obtain ⟨v, hv, ev⟩ := t_nat (h.1 k b1).1
  unfold LD at h9
  rw [ex, ey, eu, ev] at h9 ⊢
  rw [tn_nI (by omega), tn_nI (by omega), tn_nI (by omega), tn_nI (by omega)] at h9
  refine ⟨sub_neg (by omega) (by omega), fun z => ?_⟩
  have e1 := sub_zero (by omega) (by omega) z
  refine ⟨sub_neg (by omega) (by omega), fun z2 => ?_⟩
  have e2 := sub_zero (by omega) (by omega) z2
  have hjk : j < k := by omega
  exact Int32.lt_asymm (h.2.1 j k hjk b1)
/-! prints of one track, by time -/
abbrev cN (f : Nat → Int32) (n : Nat) (x : Int32) : Nat := cntN (tA f x) n
def plP (f : Nat → Int32) (n : Nat) (x : Int32) (q : Nat) : Nat := (m_po f n x (nI q)).getD 0
theorem plP_ok (h : VX f n t B) (hn : n ≤ 30) {x : Int32} {q : Nat} (hq : q < cN f n x) : m_po f n x (nI q) = some (plP f n x q) ∧ plP f n x q < n ∧ gP f (plP f n x q) 1 = x ∧ rkN (tA f x) (tT f) n (tT f (plP f n x q)) = q := by
  obtain ⟨k, e, h1, h2, h3⟩ := h.po hn x hq
  have e9 : plP f n x q = k := by unfold plP; rw [e]; rfl
  rw [e9]; exact ⟨e, h1, h2, h3⟩
theorem plP_inj (h : VX f n t B) (hn : n ≤ 30) {x : Int32} {p q : Nat} (hp : p < cN f n x) (hq : q < cN f n x) (e : plP f n x p = plP f n x q) : p = q := by
  have h1 := (plP_ok h hn hp).2.2.2
  have h2 := (plP_ok h hn hq).2.2.2
  rw [e, h2] at h1
  exact h1.symm
theorem tA_of {x : Int32} {k : Nat} (h : gP f k 1 = x) : tA f x k = true := beq_iff_eq.mpr h
theorem rk_cN (h : VX f n t B) {x : Int32} {k : Nat} (hk : k < n) (hx : gP f k 1 = x) : rkN (tA f x) (tT f) n (tT f k) < cN f n x := by
  have h9 := rkN_lt (A := tA f x) (T := tT f) (y := 1000) hk (tA_of hx) (by have := h.t999 hk; unfold tT; omega)
  rw [h.top x] at h9
  exact h9
theorem plP_rk (h : VX f n t B) (hn : n ≤ 30) {x : Int32} {k : Nat} (hk : k < n) (hx : gP f k 1 = x) : plP f n x (rkN (tA f x) (tT f) n (tT f k)) = k := by
  obtain ⟨-, h1, h2, h3⟩ := plP_ok h hn (rk_cN h hk hx)
  exact rkN_inj (h.ds x) h1 hk (tA_of h2) (tA_of hx) h3
theorem plP_time (h : VX f n t B) (hn : n ≤ 30) {x : Int32} {p q : Nat} (hpq : p < q) (hq : q < cN f n x) : gP f (plP f n x p) 2 < gP f (plP f n x q) 2 := by
  obtain ⟨-, a1, -, a3⟩ := plP_ok h hn (show p < cN f n x by omega)
  obtain ⟨-, b1, -, b3⟩ := plP_ok h hn hq
  have h9 : tT f (plP f n x p) < tT f (plP f n x q) := rk_lt (n := n) (A := tA f x) (T := tT f) (by omega)
  exact (i0_lt (h.1 _ a1).1.1 (h.1 _ b1).1.1).mpr h9
theorem cb_T (h : VX f n t B) {x : Int32} {a k : Nat} (ha : a < n) (hk : k < n) (hx : gP f a 1 = x) : m_cb f a false k = true ↔ gP f k 1 = x ∧ tT f k < tT f a := by
  unfold m_cb tT
  rw [if_neg (by decide), Bool.and_eq_true, beq_iff_eq, decide_eq_true_iff, hx, i0_lt (h.1 k hk).1.1 (h.1 a ha).1.1]
theorem cb_F (h : VX f n t B) {x : Int32} {a k : Nat} (ha : a < n) (hk : k < n) (hx : gP f a 1 = x) : m_cb f a true k = true ↔ gP f k 1 = x ∧ tT f a < tT f k := by
  unfold m_cb tT
  rw [if_pos rfl, Bool.and_eq_true, beq_iff_eq, decide_eq_true_iff, hx, i0_lt (h.1 a ha).1.1 (h.1 k hk).1.1]
theorem lt_T (h : VX f n t B) {j k : Nat} (hj : j < n) (hk : k < n) : m_lt f false j k = decide (tT f j < tT f k) := by
  unfold m_lt tT
  rw [if_neg (by decide)]
  exact decide_eq_decide.mpr (i0_lt (h.1 j hj).1.1 (h.1 k hk).1.1)
theorem lt_F (h : VX f n t B) {j k : Nat} (hj : j < n) (hk : k < n) : m_lt f true j k = decide (tT f k < tT f j) := by
  unfold m_lt tT
  rw [if_pos rfl]
  exact decide_eq_decide.mpr (i0_lt (h.1 k hk).1.1 (h.1 j hj).1.1)
theorem plP_bes0 (h : VX f n t B) (hn : n ≤ 30) {x : Int32} (hq : 0 < cN f n x) : m_bes f n (plP f n x 0) false = none := by
  obtain ⟨-, a1, a2, a3⟩ := plP_ok h hn hq
  rcases h.bes a1 false with ⟨e, -⟩ | ⟨j, e, hj, hc, -⟩
  · exact e
  · obtain ⟨c1, c2⟩ := (cb_T h a1 hj a2).mp hc
    have := rkN_lt (A := tA f x) hj (tA_of c1) c2
    omega
theorem plP_besS (h : VX f n t B) (hn : n ≤ 30) {x : Int32} {q : Nat} (hq : q + 1 < cN f n x) : m_bes f n (plP f n x (q + 1)) false = some (plP f n x q) := by
  obtain ⟨-, a1, a2, a3⟩ := plP_ok h hn hq
  obtain ⟨-, b1, b2, b3⟩ := plP_ok h hn (show q < cN f n x by omega)
  have hlt : tT f (plP f n x q) < tT f (plP f n x (q + 1)) := rk_lt (n := n) (A := tA f x) (T := tT f) (by omega)
  have hcb := (cb_T h a1 b1 a2).mpr ⟨b2, hlt⟩
  rcases h.bes a1 false with ⟨-, hno⟩ | ⟨j, e, hj, hc, hl⟩
  · rw [hno _ b1] at hcb; cases hcb
  · obtain ⟨c1, c2⟩ := (cb_T h a1 hj a2).mp hc
    have h1 := rkN_lt (A := tA f x) hj (tA_of c1) c2
    have h2 := hl _ b1 hcb
    rw [lt_T h hj b1] at h2
    have h3 : ¬ tT f j < tT f (plP f n x q) := of_decide_eq_false h2
    have h4 := rkN_mono (A := tA f x) (T := tT f) (n := n) (Nat.le_of_not_lt h3)
    rw [e, rkN_inj (h.ds x) hj b1 (tA_of c1) (tA_of b2) (by omega)]
theorem plP_aftS (h : VX f n t B) (hn : n ≤ 30) {x : Int32} {q : Nat} (hq : q + 1 < cN f n x) : m_bes f n (plP f n x q) true = some (plP f n x (q + 1)) := by
  obtain ⟨-, a1, a2, a3⟩ := plP_ok h hn (show q < cN f n x by omega)
  obtain ⟨-, b1, b2, b3⟩ := plP_ok h hn hq
  have hlt : tT f (plP f n x q) < tT f (plP f n x (q + 1)) := rk_lt (n := n) (A := tA f x) (T := tT f) (by omega)
  have hcb := (cb_F h a1 b1 a2).mpr ⟨b2, hlt⟩
  rcases h.bes a1 true with ⟨-, hno⟩ | ⟨j, e, hj, hc, hl⟩
  · rw [hno _ b1] at hcb; cases hcb
  · obtain ⟨c1, c2⟩ := (cb_F h a1 hj a2).mp hc
    have h1 := rkN_lt (A := tA f x) a1 (tA_of a2) c2
    have h2 := hl _ b1 hcb
    rw [lt_F h hj b1] at h2
    have h3 : ¬ tT f (plP f n x (q + 1)) < tT f j := of_decide_eq_false h2
    have h4 := rkN_mono (A := tA f x) (T := tT f) (n := n) (Nat.le_of_not_lt h3)
    rw [e, rkN_inj (h.ds x) hj b1 (tA_of c1) (tA_of b2) (by omega)]
theorem plP_aftE (h : VX f n t B) (hn : n ≤ 30) {x : Int32} {q : Nat} (hq : q + 1 = cN f n x) : m_bes f n (plP f n x q) true = none := by
  obtain ⟨-, a1, a2, a3⟩ := plP_ok h hn (show q < cN f n x by omega)
  rcases h.bes a1 true with ⟨e, -⟩ | ⟨j, e, hj, hc, hl⟩
  · exact e
  · obtain ⟨c1, c2⟩ := (cb_F h a1 hj a2).mp hc
    have h1 := rkN_lt (A := tA f x) a1 (tA_of a2) c2
    have h2 := rk_cN h hj c1
    omega
theorem plP_sum (h : VX f n t B) (hn : n ≤ 30) (x : Int32) (G : Nat → Int32) : sumI (fun k => if gP f k 1 = x then G k else 0) n = sumI (fun q => G (plP f n x q)) (cN f n x) := by
  rw [sumI_inj (pi := plP f n x) (cN f n x) (fun k => if gP f k 1 = x then G k else 0) (fun k hk => (plP_ok h hn hk).2.1) (fun j k hj hk e => plP_inj h hn hj hk e) (fun i hi hno => if_neg fun hx => hno _ (rk_cN h hi hx) (plP_rk h hn hi hx))]
  exact sumI_congr fun k hk => if_pos (plP_ok h hn hk).2.2.1
theorem errs_sum (h : VX f n t B) (hn : n ≤ 30) (x : Int32) : m_errs f n t x = sumI (fun q => m_errs1 f n t (plP f n x q)) (cN f n x) := (show m_errs f n t x = sumI (fun k => if gP f k 1 = x then m_errs1 f n t k else 0) n from rfl).trans (plP_sum h hn x (m_errs1 f n t))
theorem len_sum (h : VX f n t B) (hn : n ≤ 30) (x : Int32) : m_len f n x = sumI (fun q => m_stride f n (plP f n x q)) (cN f n x) := (show m_len f n x = sumI (fun k => if gP f k 1 = x then m_stride f n k else 0) n from rfl).trans (plP_sum h hn x (m_stride f n))
/-! all the prints, track by track -/
def rT (f : Nat → Int32) (n t k : Nat) : Nat := atO (m_ft f t (gP f k 1)) 0 (fun j => rkN allB (keyT f n t) t (keyT f n t j))
theorem rT_at (h : VX f n t B) {k : Nat} (hk : k < n) : ∃ j, j < t ∧ gT f j = gP f k 1 ∧ rT f n t k = rkN allB (keyT f n t) t (keyT f n t j) := by
  obtain ⟨j, e, hj⟩ := h.track hk
  have h9 := (fstI_some e).2.1
  unfold mP_ft at h9
  exact ⟨j, hj, beq_iff_eq.mp h9, by unfold rT; rw [e]; rfl⟩
theorem rT_lt (h : VX f n t B) (hn : n ≤ 30) (ht : t ≤ 6) {k : Nat} (hk : k < n) : rT f n t k < t := by
  obtain ⟨j, hj, -, e⟩ := rT_at h hk
  rw [e]
  have := rkN_lt (A := allB) (T := keyT f n t) (y := 20000) hj rfl (keyT_lt hn (by omega))
  rw [rkN_top (fun j hj _ => keyT_lt hn (by omega)), cntN_all] at this
  exact this
theorem rT_iff (h : VX f n t B) (hn : n ≤ 30) (ht : t ≤ 6) {k q : Nat} (hk : k < n) (hq : q < t) : rT f n t k = q ↔ gP f k 1 = gT f (plT f n t q) := by
  obtain ⟨j, hj, e1, e2⟩ := rT_at h hk
  obtain ⟨-, p1, p2⟩ := plT_ok (f := f) hn ht hq
  rw [e2, ← e1]
  refine ⟨fun z => ?_, fun z => ?_⟩
  · rw [rkN_inj (keyT_ds hn ht) hj p1 rfl rfl (z.trans p2.symm)]
  · rw [h.tid hj p1 z]; exact p2
theorem found_succ (h : VX f n t B) (hn : n ≤ 30) (ht : t ≤ 6) {q : Nat} (hq : q < t) : cntN (fun k => decide (rT f n t k < q + 1)) n = cntN (fun k => decide (rT f n t k < q)) n + cN f n (gT f (plT f n t q)) := cntN_or (fun j hj => by
    have h9 := rT_iff h hn ht hj hq
    unfold tA
    rw [Bool.eq_iff_iff, Bool.or_eq_true, beq_iff_eq, decide_eq_true_iff, decide_eq_true_iff, ← h9]
    omega) (fun j hj z => by
    have h9 := rT_iff h hn ht hj hq
    unfold tA at z
    rw [beq_iff_eq, decide_eq_true_iff, ← h9] at z
    omega)
theorem found_0 : cntN (fun k => decide (rT f n t k < 0)) n = 0 := by
  rcases Nat.eq_zero_or_pos (cntN (fun k => decide (rT f n t k < 0)) n) with q | q
  · exact q
  · obtain ⟨j, _, hj⟩ := cntN_pos q
    have := of_decide_eq_true hj
    omega
theorem found_all (h : VX f n t B) (hn : n ≤ 30) (ht : t ≤ 6) : cntN (fun k => decide (rT f n t k < t)) n = n := (cntN_congr fun j hj => decide_eq_true (rT_lt h hn ht hj)).trans (cntN_all n)
def lateS (f : Nat → Int32) (n t q : Nat) : Int32 := sumI (fun k => if rT f n t k < q then gP f k 8 else 0) n
theorem late_0 : lateS f n t 0 = 0 := sumI_zero fun j _ => if_neg (Nat.not_lt_zero _)
theorem late_all (h : VX f n t B) (hn : n ≤ 30) (ht : t ≤ 6) : lateS f n t t = sumI (mF_late f) n := sumI_congr fun j hj => if_pos (rT_lt h hn ht hj)
theorem late_succ (h : VX f n t B) (hn : n ≤ 30) (ht : t ≤ 6) {q : Nat} (hq : q < t) : lateS f n t (q + 1) = lateS f n t q + sumI (fun p => gP f (plP f n (gT f (plT f n t q)) p) 8) (cN f n (gT f (plT f n t q))) := by
  rw [← plP_sum h hn _ (fun k => gP f k 8)]
  unfold lateS
  rw [← sumI_add]
  refine sumI_congr fun j hj => ?_
  have h9 := rT_iff h hn ht hj hq
  by_cases e : rT f n t j = q
  · rw [if_pos (by omega), if_neg (by omega), if_pos (h9.mp e), Int32.zero_add]
  · rw [if_neg (fun z => e (h9.mpr z)), Int32.add_zero]
    by_cases e2 : rT f n t j < q
    · rw [if_pos e2, if_pos (by omega)]
    · rw [if_neg e2, if_neg (by omega)]
/-! rows -/
def inW (f : Nat → Int32) (r c k : Nat) : Bool := gP f k 3 == nI r && decide (tn (gP f k 4) < c)
theorem row_0 {r : Nat} : cntN (inW f r 0) n = 0 := by
  rcases Nat.eq_zero_or_pos (cntN (inW f r 0) n) with q | q
  · exact q
  · obtain ⟨j, _, hj⟩ := cntN_pos q
    unfold inW at hj
    rw [Bool.and_eq_true, decide_eq_true_iff] at hj
    omega
theorem cell_cnt (h : VX f n t B) (hB : B < 1000000) {r c : Int32} : cntN (mP_cell f r c) n = if (m_cell f n r c).isSome = true then 1 else 0 := by
  have h1 : cntN (mP_cell f r c) n ≤ 1 := cntN_le1 fun j k hj hk a b => by
    unfold mP_cell at a b
    rw [Bool.and_eq_true, beq_iff_eq, beq_iff_eq] at a b
    exact (h.2.2.2.1 hB).1 j k hj hk (a.1.trans b.1.symm) (a.2.trans b.2.symm)
  rcases opt_em (m_cell f n r c) with e | ⟨k, e⟩
  · rw [e, if_neg (by decide)]
    rcases Nat.eq_zero_or_pos (cntN (mP_cell f r c) n) with q | q
    · exact q
    · obtain ⟨j, hj, hp⟩ := cntN_pos q
      rw [fstI_none.mp e j hj] at hp
      cases hp
  · rw [e, if_pos (show (some k).isSome = true from rfl)]
    obtain ⟨hk, hp, -⟩ := fstI_some e
    have := cntN_ge1 hk hp
    omega
theorem row_succ (h : VX f n t B) (hB : B < 1000000) {r c : Nat} (hc : c < 2 ^ 31) : cntN (inW f r (c + 1)) n = cntN (inW f r c) n + if (m_cell f n (nI r) (nI c)).isSome = true then 1 else 0 := by
  rw [← cell_cnt h hB]
  have hE : ∀ j, j < n → (gP f j 4 = nI c ↔ tn (gP f j 4) = c) := fun j hj => by
    rw [i0_eq (h.1 j hj).2.2.1.1 (nI_pos' hc), tn_nI hc]
  refine cntN_or (fun j hj => ?_) (fun j hj z => ?_)
  · have h9 := hE j hj
    unfold inW mP_cell
    rw [Bool.eq_iff_iff, Bool.or_eq_true, Bool.and_eq_true, Bool.and_eq_true, Bool.and_eq_true, beq_iff_eq, beq_iff_eq, decide_eq_true_iff, decide_eq_true_iff, h9]
    constructor
    · intro q
      by_cases w : tn (gP f j 4) < c
      · exact Or.inl ⟨q.1, w⟩
      · exact Or.inr ⟨q.1, by omega⟩
    · intro q
      rcases q with q | q
      · exact ⟨q.1, by omega⟩
      · exact ⟨q.1, by omega⟩
  · have h9 := hE j hj
    unfold inW mP_cell at z
    rw [Bool.and_eq_true, Bool.and_eq_true, beq_iff_eq, beq_iff_eq, decide_eq_true_iff, h9] at z
    omega
theorem row_20 (h : VX f n t B) {r : Nat} : cntN (inW f r 20) n = cntN (fun k => gP f k 3 == nI r) n := cntN_congr fun j hj => by
  have h9 := i0_tn (b := 19) (h.1 j hj).2.2.1.1 (h.1 j hj).2.2.1.2 (by decide)
  unfold inW
  rw [decide_eq_true (show tn (gP f j 4) < 20 by omega), Bool.and_true]
def blN (f : Nat → Int32) (n r : Nat) : Nat := cntN (fun k => decide (tn (gP f k 3) < r)) n
theorem below_N (h : VX f n t B) {r : Nat} (hr : r < 2 ^ 31) : m_below f n (nI r) = nI (blN f n r) := sumI_cnt fun j hj => by
  unfold mF_below
  refine congrArg b2i (decide_eq_decide.mpr ?_)
  rw [i0_lt (h.1 j hj).2.1.1 (nI_pos' hr), tn_nI hr]
theorem bl_0 : blN f n 0 = 0 := by
  unfold blN
  rcases Nat.eq_zero_or_pos (cntN (fun k => decide (tn (gP f k 3) < 0)) n) with q | q
  · exact q
  · obtain ⟨j, _, hj⟩ := cntN_pos q
    have := of_decide_eq_true hj
    omega
theorem bl_10 (h : VX f n t B) : blN f n 10 = n := (cntN_congr fun j hj => decide_eq_true (by
  have h9 := i0_tn (b := 9) (h.1 j hj).2.1.1 (h.1 j hj).2.1.2 (by decide)
  omega)).trans (cntN_all n)
theorem bl_succ (h : VX f n t B) {r : Nat} (hr : r < 2 ^ 31) : blN f n (r + 1) = blN f n r + cntN (inW f r 20) n := by
  rw [row_20 h]
  have hE : ∀ j, j < n → (gP f j 3 = nI r ↔ tn (gP f j 3) = r) := fun j hj => by
    rw [i0_eq (h.1 j hj).2.1.1 (nI_pos' hr), tn_nI hr]
  refine cntN_or (fun j hj => ?_) (fun j hj z => ?_)
  · have h9 := hE j hj
    rw [Bool.eq_iff_iff, Bool.or_eq_true, beq_iff_eq, decide_eq_true_iff, decide_eq_true_iff, h9]
    omega
  · have h9 := hE j hj
    rw [beq_iff_eq, decide_eq_true_iff, h9] at z
    omega
theorem bl_le (r : Nat) : blN f n r ≤ n := cntN_le _ n
/-! the best cell, with another price -/
theorem fb_key {V : Nat → Bool} {K K2 : Nat → Nat} {k0 k2 : Nat} (h0 : ∀ i, V i = true → (K i < k0 ↔ K2 i < k2)) (h1 : ∀ i j, V i = true → V j = true → (K i < K j ↔ K2 i < K2 j)) : ∀ N : Nat, foldI (S_fb V K k0) none N = foldI (S_fb V K2 k2) none N ∧ ∀ j, foldI (S_fb V K k0) none N = some j → V j = true
  | 0 => ⟨rfl, fun j h => by cases h⟩
  | N + 1 => by
    obtain ⟨e, hv⟩ := fb_key h0 h1 N
    rw [foldI_succ, foldI_succ, ← e]
    generalize foldI (S_fb V K k0) none N = x at *
    have hiff : (V N = true ∧ K N < atO x k0 K) ↔ (V N = true ∧ K2 N < atO x k2 K2) := by
      rcases x with _ | j
      · exact ⟨fun z => ⟨z.1, (h0 N z.1).mp z.2⟩, fun z => ⟨z.1, (h0 N z.1).mpr z.2⟩⟩
      · exact ⟨fun z => ⟨z.1, (h1 N j z.1 (hv j rfl)).mp z.2⟩, fun z => ⟨z.1, (h1 N j z.1 (hv j rfl)).mpr z.2⟩⟩
    unfold S_fb
    by_cases q : V N = true ∧ K N < atO x k0 K
    · rw [if_pos q, if_pos (hiff.mp q)]
      exact ⟨rfl, fun j hj => by cases hj; exact q.1⟩
    · rw [if_neg q, if_neg (fun z => q (hiff.mpr z))]
      exact ⟨rfl, hv⟩
end PRK
