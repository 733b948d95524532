/-! orders, suggestions, consistency -/
theorem cntN_lt {p q : Nat → Bool} {a : Nat} : ∀ {n : Nat}, a < n → q a = true → p a = false → (∀ j, j < n → p j = true → q j = true) → cntN p n < cntN q n
  | 0, h, _, _, _ => absurd h (Nat.not_lt_zero _)
  | n + 1, h, hq, hp, hm => by
    rw [cntN_succ, cntN_succ]
    by_cases ha : a = n
    · subst ha
      have := cntN_mono (p := p) (q := q) (n := a) (fun j hj => hm j (by omega))
      rw [if_pos hq, if_neg (by rw [hp]; decide)]; omega
    · have h1 := cntN_lt (p := p) (q := q) (a := a) (n := n) (by omega) hq hp (fun j hj => hm j (by omega))
      by_cases hc : p n = true
      · rw [if_pos hc, if_pos (hm n (by omega) hc)]; omega
      · rw [if_neg hc]; omega
/-- ranks in an order of numbers are apart -/
theorem rank_inj {L : Nat → Nat → Prop} {p : Nat → Nat → Bool} {n j k : Nat} (hp : ∀ a b, a < n → b < n → (p a b = true ↔ L b a)) (hir : ∀ a, ¬ L a a) (htr : ∀ a b c, L a b → L b c → L a c) (hto : ∀ a b, a < n → b < n → a ≠ b → L a b ∨ L b a) (hj : j < n) (hk : k < n) (h : cntN (p j) n = cntN (p k) n) : j = k := by
  rcases Nat.decEq j k with q | q
  · exfalso
    rcases hto j k hj hk q with hL | hL
    · have := cntN_lt (p := p j) (q := p k) (a := j) (n := n) hj ((hp k j hk hj).mpr hL) (by
        rcases hq : p j j with _ | _
        · rfl
        · exact absurd ((hp j j hj hj).mp hq) (hir j)) (fun i hi h1 => (hp k i hk hi).mpr (htr i j k ((hp j i hj hi).mp h1) hL))
      omega
    · have := cntN_lt (p := p k) (q := p j) (a := k) (n := n) hk ((hp j k hj hk).mpr hL) (by
        rcases hq : p k k with _ | _
        · rfl
        · exact absurd ((hp k k hk hk).mp hq) (hir k)) (fun i hi h1 => (hp j i hj hi).mpr (htr i k j ((hp k i hk hi).mp h1) hL))
      omega
  · exact q
section BRO
variable {g : Nat → Nat → Int32} {f : Nat → Int32} {B n t : Nat} {pi ro : Nat → Nat}
/-- print i ahead of print k, by doubts -/
def m_pdB (f : Nat → Int32) (k j : Nat) : Bool := decide (0 < gP f j 7 - gP f k 7) || (gP f j 7 - gP f k 7 == 0 && (decide (0 < gP f k 2 - gP f j 2) || (gP f k 2 - gP f j 2 == 0 && decide (nI j < nI k))))
def LD (f : Nat → Int32) (j k : Nat) : Prop := tn (gP f k 7) < tn (gP f j 7) ∨ (tn (gP f j 7) = tn (gP f k 7) ∧ (tn (gP f j 2) < tn (gP f k 2) ∨ (tn (gP f j 2) = tn (gP f k 2) ∧ j < k)))
theorem VX.pd (h : VX f n t B) (hn : n ≤ 30) {j k : Nat} (hj : j < n) (hk : k < n) : m_pdB f k j = true ↔ LD f j k := by
  have dj := (h.1 j hj).2.2.2.2.2.1.1
  have dk := (h.1 k hk).2.2.2.2.2.1.1
  have tj := (h.1 j hj).1.1
  have tk := (h.1 k hk).1.1
  unfold m_pdB LD
  rw [Bool.or_eq_true, Bool.and_eq_true, Bool.or_eq_true, Bool.and_eq_true, decide_eq_true_eq, decide_eq_true_eq, decide_eq_true_eq, beq_iff_eq, beq_iff_eq, i0_sub dj dk, i0_sub tk tj, i0_sub0, i0_sub0, i0_lt dk dj, i0_lt tj tk, i0_eq dj dk, i0_eq tk tj, nI_ltI (by omega) (by omega)]
  omega
theorem BR.fdPe (h : BR g f B n t pi ro) {j k : Nat} (hj : j < n) (hk : k < n) : decide (0 < fdP g (pi k) (pi j)) = m_pdB f k j := by
  unfold fdP m_pdB
  rw [← (h.pe hj).2.2.2.2.2.2.2.1, ← (h.pe hk).2.2.2.2.2.2.2.1, ← (h.pe hj).2.2.1, ← (h.pe hk).2.2.1, ← (h.pe hj).1, ← (h.pe hk).1]
  by_cases q : gP f j 7 = gP f k 7
  · rw [if_pos q, q, Int32.sub_self]
    by_cases q2 : gP f j 2 = gP f k 2
    · rw [if_pos q2, q2, Int32.sub_self]
      have h1 : (0 < gP f k 0 - gP f j 0) ↔ (nI j < nI k) := by
        rw [i0_sub (h.vp hk).2.2.2.2.2.2.2.2.1 (h.vp hj).2.2.2.2.2.2.2.2.1, nI_ltI (by have := h.n30; omega) (by have := h.n30; omega)]
        refine ⟨fun z => ?_, fun z => h.vx.2.1 j k z hk⟩
        rcases Nat.lt_trichotomy j k with r | r | r
        · exact r
        · subst r; exact absurd z Int32.lt_irrefl
        · exact absurd (Int32.lt_trans z (h.vx.2.1 k j r hj)) Int32.lt_irrefl
      rw [decide_eq_decide.mpr h1]
      rfl
    · rw [if_neg q2, show (gP f k 2 - gP f j 2 == 0) = false by rw [beq_eq_false_iff_ne]; exact fun z => q2 (i0_sub0.mp z).symm]
      show _ = (false || (true && (_ || false)))
      rw [Bool.or_false, Bool.true_and, Bool.false_or]
  · rw [if_neg q, show (gP f j 7 - gP f k 7 == 0) = false by rw [beq_eq_false_iff_ne]; exact fun z => q (i0_sub0.mp z)]
    rw [Bool.false_and, Bool.or_false]
theorem BR.aheadP (h : BR g f B n t pi ro) {k : Nat} (hk : k < n) : f_aheadP g (pi k) = sumI (mF_pd f k) n :=
  h.sum (F := F_aheadP g (pi k)) (G := mF_pd f k) (fun i _ hz => by unfold F_aheadP; rw [ne_false.mpr hz]; rfl) (fun j hj => by
    unfold F_aheadP
    rw [ne_true (h.ex hj), h.fdPe hj hk, Bool.true_and]; rfl)
theorem BR.byDoubts (h : BR g f B n t pi ro) (q : Int32) : fstI (P_pbd g q) 30 = (fstI (mP_pd f n q) n).map pi := by
  refine h.fst (fun i _ hz => by unfold P_pbd; rw [ne_false.mpr hz]; rfl) (fun k hk => by unfold P_pbd mP_pd; rw [ne_true (h.ex hk), h.aheadP hk, Bool.true_and]) (fun j k hj hk h1 h2 => ?_)
  unfold mP_pd at h1 h2
  rw [beq_iff_eq] at h1 h2
  have h3 := h1.trans h2.symm
  rw [sumI_cnt (F := mF_pd f j) (p := m_pdB f j) (fun _ _ => rfl), sumI_cnt (F := mF_pd f k) (p := m_pdB f k) (fun _ _ => rfl)] at h3
  refine rank_inj (L := LD f) (p := m_pdB f) (n := n) (fun a b ha hb => h.vx.pd h.n30 hb ha) (fun a z => ?_) (fun a b c z1 z2 => ?_) (fun a b _ _ hab => ?_) hj hk ((nI_eq ?_ ?_).mp h3)
  · unfold LD at z; omega
  · unfold LD at z1 z2 ⊢; omega
  · unfold LD; omega
  · have := cntN_le (m_pdB f j) n; have := h.n30; omega
  · have := cntN_le (m_pdB f k) n; have := h.n30; omega
/-! sums that stay small -/
theorem sumI_nat {F : Nat → Int32} {c : Nat} : ∀ {n : Nat}, (∀ j, j < n → ∃ a, a ≤ c ∧ F j = nI a) → ∃ a, a ≤ c * n ∧ sumI F n = nI a
  | 0, _ => ⟨0, Nat.zero_le _, by show (0 : Int32) = nI 0; decide⟩
  | n + 1, h => by
    obtain ⟨a, ha, e⟩ := sumI_nat (F := F) (c := c) (n := n) (fun j hj => h j (by omega))
    obtain ⟨b, hb, e2⟩ := h n (by omega)
    exact ⟨a + b, by rw [Nat.mul_succ]; omega, by rw [sumI_succ, e, e2]; exact (Int32.ofNat_add a b).symm⟩
theorem b2i_nat (b : Bool) : ∃ a, a ≤ 1 ∧ b2i b = nI a := by
  rcases b with _ | _
  · exact ⟨0, by omega, by decide⟩
  · exact ⟨1, by omega, by decide⟩
theorem m_errs1_nat (a : Nat) : ∃ e, e ≤ 3 ∧ m_errs1 f n t a = nI e := by
  obtain ⟨x, hx, ex⟩ := b2i_nat (m_err f n t a 0)
  obtain ⟨y, hy, ey⟩ := b2i_nat (m_err f n t a 1)
  obtain ⟨z, hz, ez⟩ := b2i_nat (m_err f n t a 2)
  refine ⟨x + y + z, by omega, ?_⟩
  unfold m_errs1
  rw [ex, ey, ez, nI_add, nI_add]
theorem m_errs_nat (hn : n ≤ 30) (x : Int32) : ∃ e, e ≤ 90 ∧ m_errs f n t x = nI e := by
  obtain ⟨e, he, h⟩ := sumI_nat (F := mF_errs f n t x) (c := 3) (n := n) (fun j _ => by
    unfold mF_errs
    by_cases q : gP f j 1 = x
    · rw [if_pos q]; exact m_errs1_nat j
    · rw [if_neg q]; exact ⟨0, by omega, by decide⟩)
  exact ⟨e, by omega, h⟩
theorem m_count_nat (hn : n ≤ 30) (x : Int32) : ∃ e, e ≤ 30 ∧ m_count f n x = nI e := ⟨cntN (tA f x) n, by have := cntN_le (tA f x) n; omega, m_count_N x⟩
/-! tracks by errors -/
def m_teB (f : Nat → Int32) (n t k j : Nat) : Bool := decide (0 < m_errs f n t (gT f j) - m_errs f n t (gT f k)) || (m_errs f n t (gT f j) - m_errs f n t (gT f k) == 0 && (decide (0 < m_count f n (gT f j) - m_count f n (gT f k)) || (m_count f n (gT f j) - m_count f n (gT f k) == 0 && decide (nI j < nI k))))
def LT9 (f : Nat → Int32) (n t j k : Nat) : Prop := tn (m_errs f n t (gT f k)) < tn (m_errs f n t (gT f j)) ∨ (tn (m_errs f n t (gT f j)) = tn (m_errs f n t (gT f k)) ∧ (tn (m_count f n (gT f k)) < tn (m_count f n (gT f j)) ∨ (tn (m_count f n (gT f j)) = tn (m_count f n (gT f k)) ∧ j < k)))
theorem m_errs_0 (hn : n ≤ 30) (x : Int32) : 0 ≤ m_errs f n t x := by
  obtain ⟨e, he, h⟩ := m_errs_nat (f := f) (t := t) hn x
  rw [h]; exact nI_pos' (by omega)
theorem m_count_0 (hn : n ≤ 30) (x : Int32) : 0 ≤ m_count f n x := by
  obtain ⟨e, he, h⟩ := m_count_nat (f := f) hn x
  rw [h]; exact nI_pos' (by omega)
theorem te_iff (hn : n ≤ 30) {j k : Nat} (hj : j < 6) (hk : k < 6) : m_teB f n t k j = true ↔ LT9 f n t j k := by
  unfold m_teB LT9
  rw [Bool.or_eq_true, Bool.and_eq_true, Bool.or_eq_true, Bool.and_eq_true, decide_eq_true_eq, decide_eq_true_eq, decide_eq_true_eq, beq_iff_eq, beq_iff_eq, i0_sub (m_errs_0 hn _) (m_errs_0 hn _), i0_sub (m_count_0 hn _) (m_count_0 hn _), i0_sub0, i0_sub0, i0_lt (m_errs_0 hn _) (m_errs_0 hn _), i0_lt (m_count_0 hn _) (m_count_0 hn _), i0_eq (m_errs_0 hn _) (m_errs_0 hn _), i0_eq (m_count_0 hn _) (m_count_0 hn _), nI_ltI (by omega) (by omega)]
theorem BR.fdTe (h : BR g f B n t pi ro) {j k : Nat} (hj : j < t) (hk : k < t) : decide (0 < fdT g (ro k) (ro j)) = m_teB f n t k j := by
  unfold fdT m_teB
  rw [← h.tid hj, ← h.tid hk, h.errs, h.errs, h.count hj, h.count hk]
  by_cases q : m_errs f n t (gT f j) - m_errs f n t (gT f k) = 0
  · rw [if_pos q, q]
    by_cases q2 : m_count f n (gT f j) - m_count f n (gT f k) = 0
    · rw [if_pos q2, q2]
      have h1 : (0 < gT f k - gT f j) ↔ (nI j < nI k) := by
        rw [i0_sub (h.vx.2.2.2.2.2.1 k hk).1 (h.vx.2.2.2.2.2.1 j hj).1, nI_ltI (by have := h.t6; omega) (by have := h.t6; omega)]
        refine ⟨fun z => ?_, fun z => h.vx.2.2.2.2.2.2.1 j k z hk⟩
        rcases Nat.lt_trichotomy j k with r | r | r
        · exact r
        · subst r; exact absurd z Int32.lt_irrefl
        · exact absurd (Int32.lt_trans z (h.vx.2.2.2.2.2.2.1 k j r hj)) Int32.lt_irrefl
      rw [decide_eq_decide.mpr h1]
      rfl
    · rw [if_neg q2, show (m_count f n (gT f j) - m_count f n (gT f k) == 0) = false by rw [beq_eq_false_iff_ne]; exact q2]
      show _ = (false || (true && (_ || false)))
      rw [Bool.or_false, Bool.true_and, Bool.false_or]
  · rw [if_neg q, show (m_errs f n t (gT f j) - m_errs f n t (gT f k) == 0) = false by rw [beq_eq_false_iff_ne]; exact q]
    rw [Bool.false_and, Bool.or_false]
theorem BR.aheadT (h : BR g f B n t pi ro) {k : Nat} (hk : k < t) : f_aheadT g (ro k) = sumI (mF_te f n t k) t :=
  h.tsum (F := F_aheadT g (ro k)) (G := mF_te f n t k) (fun i _ hz => by unfold F_aheadT; rw [ne_false.mpr hz]; rfl) (fun j hj => by
    unfold F_aheadT
    rw [ne_true (h.tex hj), h.fdTe hj hk, Bool.true_and]; rfl)
theorem BR.byErrors (h : BR g f B n t pi ro) (q : Int32) : fstI (P_tbe g q) 6 = (fstI (mP_te f n t q) t).map ro := by
  refine h.tfst (fun i _ hz => by unfold P_tbe; rw [ne_false.mpr hz]; rfl) (fun k hk => by unfold P_tbe mP_te; rw [ne_true (h.tex hk), h.aheadT hk, Bool.true_and]) (fun j k hj hk h1 h2 => ?_)
  have ht := h.t6
  unfold mP_te at h1 h2
  rw [beq_iff_eq] at h1 h2
  have h3 := h1.trans h2.symm
  rw [sumI_cnt (F := mF_te f n t j) (p := m_teB f n t j) (fun _ _ => rfl), sumI_cnt (F := mF_te f n t k) (p := m_teB f n t k) (fun _ _ => rfl)] at h3
  refine rank_inj (L := LT9 f n t) (p := m_teB f n t) (n := t) (fun a b ha hb => te_iff h.n30 (by omega) (by omega)) (fun a z => ?_) (fun a b c z1 z2 => ?_) (fun a b _ _ hab => ?_) hj hk ((nI_eq ?_ ?_).mp h3)
  · unfold LT9 at z; omega
  · unfold LT9 at z1 z2 ⊢; omega
  · unfold LT9; omega
  · have := cntN_le (m_teB f n t j) t; omega
  · have := cntN_le (m_teB f n t k) t; omega
/-! the class's own check holds -/
theorem BR.ord (h : BR g f B n t pi ro) {r : Nat} (hr : r < t) : f_ord g (ro r) = true := by
  have hc : f_countPrints g (ro r) = nI (cntN (tA f (gT f r)) n) := by rw [h.count hr, m_count_N]
  have hcn := cntN_le (tA f (gT f r)) n
  have hn := h.n30
  have key : ∀ i, i ≤ cntN (tA f (gT f r)) n → ∃ y, foldI (S_ord g (ro r)) (some (-1)) i = some y ∧ ((i = 0 ∧ y = -1) ∨ ∃ k, k < n ∧ gP f k 1 = gT f r ∧ y = gP f k 2 ∧ rkN (tA f (gT f r)) (tT f) n (tT f k) + 1 = i) := by
    intro i
    induction i with
    | zero => exact fun _ => ⟨-1, rfl, Or.inl ⟨rfl, rfl⟩⟩
    | succ i ih =>
      intro hi
      obtain ⟨y, hy, hyy⟩ := ih (by omega)
      obtain ⟨k, hk, hkn, hkt, hkr⟩ := h.vx.po hn (gT f r) (q := i) (by omega)
      rw [foldI_succ, hy]
      unfold S_ord
      rw [h.po hr, hk]
      show ∃ y2, (if y < g (9 + pi k) 3 then some (g (9 + pi k) 3) else none) = some y2 ∧ _
      rw [← (h.pe hkn).2.2.1]
      have hlt : y < gP f k 2 := by
        rcases hyy with ⟨_, rfl⟩ | ⟨k0, hk0, hk0t, rfl, hk0r⟩
        · exact Int32.lt_of_lt_of_le (by decide) (h.vp hkn).1.1
        · rw [i0_lt (h.vp hk0).1.1 (h.vp hkn).1.1]
          rcases Nat.lt_or_ge (tT f k0) (tT f k) with z | z
          · exact z
          · have := rkN_mono (A := tA f (gT f r)) (T := tT f) (n := n) z
            omega
      rw [if_pos hlt]
      exact ⟨_, rfl, Or.inr ⟨k, hkn, hkt, rfl, by omega⟩⟩
  unfold f_ord
  rw [hc, tn_nI (by omega)]
  obtain ⟨y, hy, -⟩ := key _ (Nat.le_refl _)
  rw [hy]; rfl
theorem BR.holds (h : BR g f B n t pi ro) (hB : B < 1000000) : f_holds g = true := by
  unfold f_holds
  have h1 : fstI (P_badT g) 6 = none := fstI_none.mpr fun i hi => by
    unfold P_badT
    by_cases q : g (3 + i) 0 = 0
    · rw [ne_false.mpr q]; rfl
    · obtain ⟨r, hr, rfl⟩ := h.tsj hi q
      unfold f_trackOk
      rw [h.len hr, h.lenD hr, h.errs, h.errsK, h.ord hr, beq_self_eq_true, beq_self_eq_true]
      rw [Bool.and_true, Bool.and_true]
      exact Bool.and_false _
  have h2 : fstI (P_badP g) 30 = none := fstI_none.mpr fun i hi => by
    unfold P_badP
    by_cases q : g (9 + i) 0 = 0
    · rw [ne_false.mpr q]; rfl
    · obtain ⟨k, hk, rfl⟩ := h.sj hi q
      have h3 : f_under g (g (9 + pi k) 4) = false := by
        unfold f_under
        rw [← h.sx.2.2.1, ← (h.pe hk).2.2.2.1, decide_eq_false_iff_not, Int32.not_lt]
        exact (h.vx.2.2.2.1 hB).2 k hk
      have h4 : f_inCell g (g (9 + pi k) 4) (g (9 + pi k) 5) = some (pi k) := by
        rw [h.cell hB, ← (h.pe hk).2.2.2.1, ← (h.pe hk).2.2.2.2.1]
        rcases opt_em (m_cell f n (gP f k 3) (gP f k 4)) with e | ⟨j, e⟩
        · have := fstI_none.mp e k hk
          unfold mP_cell at this
          rw [beq_self_eq_true, beq_self_eq_true] at this
          cases this
        · obtain ⟨hj, hP, -⟩ := fstI_some e
          unfold mP_cell at hP
          rw [Bool.and_eq_true, beq_iff_eq, beq_iff_eq] at hP
          rw [e, (h.vx.2.2.2.1 hB).1 j k hj hk hP.1 hP.2]; rfl
      rw [h3, h4]
      simp
  rw [h1, h2]; rfl
end BRO
