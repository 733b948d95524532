/-! the suggested cell -/
theorem row_ok : ∀ R, R < 10 → ∀ q, q < 5 → ((0 ≤ nI R - 2 + nI q ∧ nI R - 2 + nI q < 10) ↔ (2 ≤ R + q ∧ R + q < 12)) ∧ (2 ≤ R + q → nI R - 2 + nI q = nI (R + q - 2)) := by decide +kernel
theorem col_ok : ∀ R, R < 20 → ∀ q, q < 5 → ((0 ≤ nI R - 2 + nI q ∧ nI R - 2 + nI q < 20) ↔ (2 ≤ R + q ∧ R + q < 22)) ∧ (2 ≤ R + q → nI R - 2 + nI q = nI (R + q - 2)) := by decide +kernel
theorem div5 : ∀ i, i < 25 → nI i / 5 = nI (i / 5) ∧ nI i - nI i / 5 * 5 = nI (i % 5) := by decide +kernel
theorem div20 : ∀ i, i < 200 → nI i / 20 = nI (i / 20) ∧ nI i - nI i / 20 * 20 = nI (i % 20) := by decide +kernel
theorem iabs_nat {a b : Nat} (ha : a < 1000) (hb : b < 1000) : iabs (nI a - nI b) = nI (a - b + (b - a)) := by
  rcases Nat.le_total b a with q | q
  · rw [show nI a - nI b = nI (a - b) from nI_subE rfl rfl q, show a - b + (b - a) = a - b by omega]
    unfold iabs
    rw [if_pos (nI_pos' (by omega))]
  · rw [iabs_sym ha hb, show nI b - nI a = nI (b - a) from nI_subE rfl rfl q, show a - b + (b - a) = b - a by omega]
    unfold iabs
    rw [if_pos (nI_pos' (by omega))]
section BRQ
variable {g : Nat → Nat → Int32} {f : Nat → Int32} {B n t : Nat} {pi ro : Nat → Nat}
theorem dist_nat {a R C r s : Nat} (hR : gP f a 3 = nI R) (hC : gP f a 4 = nI C) (h1 : R < 10) (h2 : C < 20) (h3 : r < 100) (h4 : s < 100) : m_dist f a (nI r) (nI s) = nI ((R - r + (r - R)) + (C - s + (s - C))) := by
  unfold m_dist
  rw [m_size_abs, m_size_abs, hR, hC, iabs_nat (by omega) (by omega), iabs_nat (by omega) (by omega), nI_add]
/-- a cell by number: whether it may be moved to, and its price -/
def mV (f : Nat → Int32) (n a c : Nat) : Bool := m_may f n a (nI (c / 20)) (nI (c % 20))
def mE9 (f : Nat → Int32) (n t a c : Nat) : Nat := tn (m_there f n t a (nI (c / 20)) (nI (c % 20)))
def mD9 (f : Nat → Int32) (a c : Nat) : Nat := tn (m_dist f a (nI (c / 20)) (nI (c % 20)))
def mK (f : Nat → Int32) (n t a c : Nat) : Nat := 1000 * mE9 f n t a c + mD9 f a c
theorem there_nat (hn : n ≤ 30) {a : Nat} {r c1 : Int32} : ∃ e, e ≤ 90 ∧ m_there f n t a r c1 = nI e := by
  unfold m_there; exact m_errs_nat hn _
theorem may_dist {a : Nat} {r c1 : Int32} (h : m_may f n a r c1 = true) : ∃ d, (d = 1 ∨ d = 2) ∧ m_dist f a r c1 = nI d := by
  unfold m_may at h
  rw [Bool.and_eq_true, Bool.and_eq_true] at h
  have h1 := h.1.1
  unfold m_in at h1
  rw [Bool.and_eq_true, decide_eq_true_eq, decide_eq_true_eq] at h1
  obtain ⟨d, hd, e⟩ := nI_of2 (M := 2) (n := 2) (by decide) (Int32.not_lt.mpr (Int32.le_trans (by decide) h1.1)) h1.2
  rw [e] at h1
  have h2 : 1 ≤ d := (nI_leI (a := 1) (b := d) (by decide) (by omega)).mp h1.1
  exact ⟨d, by omega, e⟩
theorem price_nat (hn : n ≤ 30) {a c : Nat} (hV : mV f n a c = true) : 1000 * m_there f n t a (nI (c / 20)) (nI (c % 20)) + m_dist f a (nI (c / 20)) (nI (c % 20)) = nI (mK f n t a c) ∧ mK f n t a c ≤ 90002 ∧ mD9 f a c ≤ 2 ∧ mE9 f n t a c ≤ 90 := by
  obtain ⟨e, he, h1⟩ := there_nat (f := f) (t := t) hn (a := a) (r := nI (c / 20)) (c1 := nI (c % 20))
  obtain ⟨d, hd, h2⟩ := may_dist hV
  unfold mK mE9 mD9
  rw [h1, h2, tn_nI (by omega), tn_nI (by omega)]
  refine ⟨?_, by omega, by omega, by omega⟩
  rw [show (1000 : Int32) * nI e = nI (1000 * e) from nI_mulE rfl rfl, nI_add]
theorem VX.rc (h : VX f n t B) {a : Nat} (ha : a < n) : ∃ R C, gP f a 3 = nI R ∧ gP f a 4 = nI C ∧ R < 10 ∧ C < 20 := by
  obtain ⟨R, hR, e1⟩ := nI_of2 (M := 9) (n := 9) (by decide) (Int32.not_lt.mpr (h.1 a ha).2.1.1) (h.1 a ha).2.1.2
  obtain ⟨C, hC, e2⟩ := nI_of2 (M := 19) (n := 19) (by decide) (Int32.not_lt.mpr (h.1 a ha).2.2.1.1) (h.1 a ha).2.2.1.2
  exact ⟨R, C, e1, e2, by omega, by omega⟩
/-- the reference's search -/
theorem m_sug_fb (hn : n ≤ 30) {a : Nat} : ∀ N : Nat, N ≤ 200 → foldI (S_sug f n t a) (20 * gP f a 3 + gP f a 4, 1000 * m_errs f n t (gP f a 1)) N = (atO (foldI (S_fb (mV f n a) (mK f n t a) (1000 * tn (m_errs f n t (gP f a 1)))) none N) (20 * gP f a 3 + gP f a 4) (fun c => nI c), nI (atO (foldI (S_fb (mV f n a) (mK f n t a) (1000 * tn (m_errs f n t (gP f a 1)))) none N) (1000 * tn (m_errs f n t (gP f a 1))) (mK f n t a)))
  | 0, _ => by
    obtain ⟨e, he, h1⟩ := m_errs_nat (f := f) (t := t) hn (gP f a 1)
    show (_, 1000 * m_errs f n t (gP f a 1)) = (_, nI (1000 * tn (m_errs f n t (gP f a 1))))
    rw [h1, tn_nI (by omega), show (1000 : Int32) * nI e = nI (1000 * e) from nI_mulE rfl rfl]
    rfl
  | N + 1, hN => by
    have ih := m_sug_fb hn (a := a) N (by omega)
    have hx := fb_ok (V := mV f n a) (K := mK f n t a) (k0 := 1000 * tn (m_errs f n t (gP f a 1))) N
    rw [foldI_succ, foldI_succ, ih]
    generalize foldI (S_fb (mV f n a) (mK f n t a) (1000 * tn (m_errs f n t (gP f a 1)))) none N = x at hx ⊢
    have hb : atO x (1000 * tn (m_errs f n t (gP f a 1))) (mK f n t a) ≤ 90002 := by
      rcases hx with ⟨rfl, _⟩ | ⟨j, rfl, _, hV, _⟩
      · obtain ⟨e, he, h1⟩ := m_errs_nat (f := f) (t := t) hn (gP f a 1)
        show 1000 * tn (m_errs f n t (gP f a 1)) ≤ 90002
        rw [h1, tn_nI (by omega)]; omega
      · exact (price_nat (t := t) hn hV).2.1
    obtain ⟨d1, d2⟩ := div20 N (by omega)
    unfold S_sug S_fb
    rw [d2, d1]
    by_cases hV : mV f n a N = true
    · obtain ⟨p1, p2, _⟩ := price_nat (t := t) hn hV
      rw [if_pos (show m_may f n a (nI (N / 20)) (nI (N % 20)) = true from hV), p1]
      show (if nI (mK f n t a N) < nI _ then _ else _) = _
      by_cases hc : mK f n t a N < atO x (1000 * tn (m_errs f n t (gP f a 1))) (mK f n t a)
      · rw [if_pos (nI_lt hc (by omega)), if_pos ⟨hV, hc⟩]; rfl
      · rw [if_neg (fun z => hc ((nI_ltI (by omega) (by omega)).mp z)), if_neg (fun z => hc z.2)]
    · rw [if_neg (show ¬ m_may f n a (nI (N / 20)) (nI (N % 20)) = true from hV), if_neg (fun z => hV z.1)]
/-- the class's search: place i of the window about (R, C) -/
def wOk (R C i : Nat) : Bool := decide (2 ≤ R + i / 5) && decide (R + i / 5 < 12) && decide (2 ≤ C + i % 5) && decide (C + i % 5 < 22)
def wC (R C i : Nat) : Nat := 20 * (R + i / 5 - 2) + (C + i % 5 - 2)
theorem wC_div {R C i : Nat} (h : wOk R C i = true) : wC R C i / 20 = R + i / 5 - 2 ∧ wC R C i % 20 = C + i % 5 - 2 := by
  unfold wOk at h
  simp only [Bool.and_eq_true, decide_eq_true_eq] at h
  unfold wC
  omega
theorem isCell_w {R C i : Nat} (hR : R < 10) (hC : C < 20) (hi : i < 25) : f_isCell (nI R - 2 + nI (i / 5)) (nI C - 2 + nI (i % 5)) = wOk R C i := by
  have h1 := (row_ok R hR (i / 5) (by omega)).1
  have h2 := (col_ok C hC (i % 5) (by omega)).1
  unfold f_isCell f_isRow wOk
  rw [← Bool.decide_and, ← Bool.decide_and, ← Bool.decide_and, ← Bool.decide_and, ← Bool.decide_and, ← Bool.decide_and, decide_eq_decide]
  constructor
  · rintro ⟨⟨z1, z2⟩, z3⟩
    have q1 := h1.mp z1
    have q2 := h2.mp ⟨z2, z3⟩
    exact ⟨⟨⟨q1.1, q1.2⟩, q2.1⟩, q2.2⟩
  · rintro ⟨⟨⟨z1, z2⟩, z3⟩, z4⟩
    have q1 := h1.mpr ⟨z1, z2⟩
    have q2 := h2.mpr ⟨z3, z4⟩
    exact ⟨⟨q1, q2.1⟩, q2.2⟩
def cV (f : Nat → Int32) (n a R C i : Nat) : Bool := wOk R C i && mV f n a (wC R C i)
theorem f_best_fb (h : BR g f B n t pi ro) (hB : B < 1000000) {a R C : Nat} (ha : a < n) (hR : gP f a 3 = nI R) (hC : gP f a 4 = nI C) (h1 : R < 10) (h2 : C < 20) : ∀ N : Nat, N ≤ 25 → foldI (S_best g (pi a)) (g (9 + pi a) 4 * 20 + g (9 + pi a) 5, f_errs g (g (9 + pi a) 2), 0) N = (atO (foldI (S_fb (cV f n a R C) (fun i => mK f n t a (wC R C i)) (1000 * tn (m_errs f n t (gP f a 1)))) none N) (20 * gP f a 3 + gP f a 4) (fun i => nI (wC R C i)), nI (atO (foldI (S_fb (cV f n a R C) (fun i => mK f n t a (wC R C i)) (1000 * tn (m_errs f n t (gP f a 1)))) none N) (tn (m_errs f n t (gP f a 1))) (fun i => mE9 f n t a (wC R C i))), nI (atO (foldI (S_fb (cV f n a R C) (fun i => mK f n t a (wC R C i)) (1000 * tn (m_errs f n t (gP f a 1)))) none N) 0 (fun i => mD9 f a (wC R C i))))
  | 0, _ => by
    show (g (9 + pi a) 4 * 20 + g (9 + pi a) 5, f_errs g (g (9 + pi a) 2), (0 : Int32)) = (20 * gP f a 3 + gP f a 4, nI (tn (m_errs f n t (gP f a 1))), nI 0)
    rw [← (h.pe ha).2.2.2.1, ← (h.pe ha).2.2.2.2.1, ← (h.pe ha).2.1, h.errs, nI_tn (m_errs_0 h.n30 _), Int32.mul_comm]
    rfl
  | N + 1, hN => by
    have ih := f_best_fb h hB ha hR hC h1 h2 N (by omega)
    have hx := fb_ok (V := cV f n a R C) (K := fun i => mK f n t a (wC R C i)) (k0 := 1000 * tn (m_errs f n t (gP f a 1))) N
    rw [foldI_succ, foldI_succ, ih]
    generalize foldI (S_fb (cV f n a R C) (fun i => mK f n t a (wC R C i)) (1000 * tn (m_errs f n t (gP f a 1)))) none N = x at hx ⊢
    have hb : atO x (tn (m_errs f n t (gP f a 1))) (fun i => mE9 f n t a (wC R C i)) ≤ 90 ∧ atO x 0 (fun i => mD9 f a (wC R C i)) ≤ 2 ∧ atO x (1000 * tn (m_errs f n t (gP f a 1))) (fun i => mK f n t a (wC R C i)) = 1000 * atO x (tn (m_errs f n t (gP f a 1))) (fun i => mE9 f n t a (wC R C i)) + atO x 0 (fun i => mD9 f a (wC R C i)) := by
      rcases hx with ⟨rfl, _⟩ | ⟨j, rfl, _, hV, _⟩
      · obtain ⟨e, he, h3⟩ := m_errs_nat (f := f) (t := t) h.n30 (gP f a 1)
        refine ⟨?_, by show 0 ≤ 2; omega, rfl⟩
        show tn (m_errs f n t (gP f a 1)) ≤ 90
        rw [h3, tn_nI (by omega)]; omega
      · unfold cV at hV
        rw [Bool.and_eq_true] at hV
        obtain ⟨_, _, p3, p4⟩ := price_nat (t := t) h.n30 hV.2
        exact ⟨p4, p3, rfl⟩
    obtain ⟨d1, d2⟩ := div5 N (by omega)
    unfold S_best
    rw [d2, d1, ← (h.pe ha).2.2.2.1, ← (h.pe ha).2.2.2.2.1, hR, hC, isCell_w h1 h2 (by omega)]
    unfold S_fb cV
    by_cases hw : wOk R C N = true
    · rw [if_pos hw, hw, Bool.true_and]
      have hw2 := hw
      unfold wOk at hw2
      simp only [Bool.and_eq_true, decide_eq_true_eq] at hw2
      obtain ⟨c1, c2⟩ := wC_div hw
      have r1 : nI R - 2 + nI (N / 5) = nI (wC R C N / 20) := by rw [c1]; exact (row_ok R h1 (N / 5) (by omega)).2 (by omega)
      have r2 : nI C - 2 + nI (N % 5) = nI (wC R C N % 20) := by rw [c2]; exact (col_ok C h2 (N % 5) (by omega)).2 (by omega)
      rw [r1, r2, h.objM hB ha]
      have hmay : mV f n a (wC R C N) = (m_objM f n a (nI (wC R C N / 20)) (nI (wC R C N % 20))).isNone := m_may_obj
      rcases ho : m_objM f n a (nI (wC R C N / 20)) (nI (wC R C N % 20)) with _ | y
      · rw [ho] at hmay
        have hV : mV f n a (wC R C N) = true := hmay
        obtain ⟨p1, p2, p3, p4⟩ := price_nat (t := t) h.n30 hV
        have e1 : f_errsW g (pi a) (nI (wC R C N / 20)) (nI (wC R C N % 20)) = nI (mE9 f n t a (wC R C N)) := by
          rw [h.errsW ha ⟨nI_pos' (by omega), nI_le (b := 9) (by omega) (by decide)⟩ ⟨nI_pos' (by omega), nI_le (b := 19) (by omega) (by decide)⟩ (by omega)]
          obtain ⟨e, he, q⟩ := there_nat (f := f) (t := t) h.n30 (a := a) (r := nI (wC R C N / 20)) (c1 := nI (wC R C N % 20))
          unfold mE9
          rw [q, tn_nI (by omega)]
        have e2 : f_dist g (9 + pi a) (nI (wC R C N / 20)) (nI (wC R C N % 20)) = nI (mD9 f a (wC R C N)) := by
          rw [h.dist ha]
          obtain ⟨d, hd, q⟩ := may_dist hV
          unfold mD9
          rw [q, tn_nI (by omega)]
        have e3 : nI (wC R C N / 20) * 20 + nI (wC R C N % 20) = nI (wC R C N) := by
          rw [show nI (wC R C N / 20) * 20 = nI (wC R C N / 20 * 20) from nI_mulE rfl rfl, nI_add]
          congr 1
          omega
        rw [e1, e2, e3]
        show (if nI _ < nI _ ∨ nI _ = nI _ ∧ nI _ < nI _ then _ else _) = _
        by_cases hc : mK f n t a (wC R C N) < atO x (1000 * tn (m_errs f n t (gP f a 1))) (fun i => mK f n t a (wC R C i))
        · rw [if_pos, if_pos ⟨hV, hc⟩]
          · rfl
          · rw [nI_ltI (by omega) (by omega), nI_eq (by omega) (by omega), nI_ltI (by omega) (by omega)]
            have : mK f n t a (wC R C N) = 1000 * mE9 f n t a (wC R C N) + mD9 f a (wC R C N) := rfl
            omega
        · rw [if_neg, if_neg (fun z => hc z.2)]
          rw [nI_ltI (by omega) (by omega), nI_eq (by omega) (by omega), nI_ltI (by omega) (by omega)]
          have : mK f n t a (wC R C N) = 1000 * mE9 f n t a (wC R C N) + mD9 f a (wC R C N) := rfl
          omega
      · rw [ho] at hmay
        have hV : mV f n a (wC R C N) = false := hmay
        have hcn : ¬ (mV f n a (wC R C N) = true ∧ (fun i => mK f n t a (wC R C i)) N < atO x (1000 * tn (m_errs f n t (gP f a 1))) (fun i => mK f n t a (wC R C i))) := fun z => absurd (z.1.symm.trans hV) (by decide)
        first | (rw [if_neg hcn]; done) | (rw [if_neg hcn]; rfl)
    · rw [if_neg hw, if_neg (fun z => hw (by have := z.1; rw [Bool.and_eq_true] at this; exact this.1))]
theorem BR.best (h : BR g f B n t pi ro) (hB : B < 1000000) {a : Nat} (ha : a < n) : f_best g (pi a) = m_sug f n t a := by
  obtain ⟨R, C, hR, hC, h1, h2⟩ := h.vx.rc ha
  unfold f_best m_sug
  rw [f_best_fb h hB ha hR hC h1 h2 25 (Nat.le_refl _), m_sug_fb h.n30 200 (Nat.le_refl _)]
  have hm := fb_map (φ := wC R C) (fb_ok (V := cV f n a R C) (K := fun i => mK f n t a (wC R C i)) (k0 := 1000 * tn (m_errs f n t (gP f a 1))) 25) (fb_ok (V := mV f n a) (K := mK f n t a) (k0 := 1000 * tn (m_errs f n t (gP f a 1))) 200) (fun i hi hV => ?_) (fun i j hi hj hVi hVj hij => ?_) (fun c hc hVc => ?_)
  · rw [hm]
    generalize foldI (S_fb (cV f n a R C) (fun i => mK f n t a (wC R C i)) (1000 * tn (m_errs f n t (gP f a 1)))) none 25 = x
    rcases x with _ | i <;> rfl
  · unfold cV at hV
    rw [Bool.and_eq_true] at hV
    have hw := hV.1
    unfold wOk at hw
    simp only [Bool.and_eq_true, decide_eq_true_eq] at hw
    exact ⟨by unfold wC; omega, hV.2, rfl⟩
  · unfold cV at hVi hVj
    rw [Bool.and_eq_true] at hVi hVj
    have w1 := hVi.1
    have w2 := hVj.1
    unfold wOk at w1 w2
    simp only [Bool.and_eq_true, decide_eq_true_eq] at w1 w2
    unfold wC
    omega
  · obtain ⟨d, hd, q⟩ := may_dist hVc
    rw [dist_nat hR hC h1 h2 (by omega) (by omega)] at q
    have q2 := (nI_eq (by omega) (by omega)).mp q
    refine ⟨5 * (c / 20 + 2 - R) + (c % 20 + 2 - C), by omega, ?_, ?_⟩
    · unfold cV
      have e : wC R C (5 * (c / 20 + 2 - R) + (c % 20 + 2 - C)) = c := by unfold wC; omega
      rw [e, hVc, Bool.and_true]
      unfold wOk
      simp only [Bool.and_eq_true, decide_eq_true_eq]
      omega
    · unfold wC; omega
end BRQ
