/-! the print ahead, the print behind; errors, lengths, ranks -/
theorem if_cg {α : Type} {p q : Prop} {dp : Decidable p} {dq : Decidable q} {x y : α} (h : p ↔ q) : @ite α p dp x y = @ite α q dq x y := by
  by_cases hq : q
  · rw [if_pos hq, if_pos (h.mpr hq)]
  · rw [if_neg hq, if_neg (fun z => hq (h.mp z))]
/-- a fold that keeps the best candidate -/
def bestOf (C : Nat → Bool) (lt : Nat → Nat → Bool) (x : Option Nat) (n : Nat) : Prop := (x = none ∧ ∀ i, i < n → C i = false) ∨ ∃ j, x = some j ∧ j < n ∧ C j = true ∧ ∀ i, i < n → C i = true → lt j i = false
theorem foldI_best {C : Nat → Bool} {lt : Nat → Nat → Bool} {S : Option Nat → Nat → Option Nat} {N : Nat} (hS : ∀ x i, i < N → (∀ j, x = some j → j < N ∧ C j = true) → S x i = if (C i && (match x with | none => true | some j => lt j i)) = true then some i else x) (htr : ∀ a b c, lt a b = false → lt b c = false → lt a c = false) (hto : ∀ a b, lt a b = true → lt b a = false) :
    ∀ n : Nat, n ≤ N → bestOf C lt (foldI S none n) n
  | 0, _ => Or.inl ⟨rfl, fun i hi => absurd hi (Nat.not_lt_zero _)⟩
  | n + 1, hn => by
    have hr : ∀ a, lt a a = false := fun a => by
      rcases h : lt a a with _ | _
      · rfl
      · have h9 := hto a a h
        rw [h] at h9
        exact h9
    rw [foldI_succ]
    rcases foldI_best hS htr hto n (by omega) with ⟨h1, h2⟩ | ⟨j, h1, hj, h2, h3⟩
    · rw [h1, hS none n (by omega) (fun j hj => by cases hj)]
      rcases hC : C n with _ | _
      · refine Or.inl ⟨if_neg Bool.false_ne_true, fun i hi => ?_⟩
        by_cases hi2 : i = n
        · subst hi2; exact hC
        · exact h2 i (by omega)
      · refine Or.inr ⟨n, if_pos rfl, by omega, hC, fun i hi hCi => ?_⟩
        by_cases hi2 : i = n
        · subst hi2; exact hr _
        · rw [h2 i (by omega)] at hCi; cases hCi
    · rw [h1, hS (some j) n (by omega) (fun j9 hj9 => by cases hj9; exact ⟨by omega, h2⟩)]
      by_cases hc : C n = true ∧ lt j n = true
      · refine Or.inr ⟨n, if_pos (by show (C n && lt j n) = true; rw [hc.1, hc.2]; rfl), by omega, hc.1, fun i hi hCi => ?_⟩
        by_cases hi2 : i = n
        · subst hi2; exact hr _
        · exact htr n j i (hto j n hc.2) (h3 i (by omega) hCi)
      · refine Or.inr ⟨j, if_neg (fun z => hc (by simpa using z)), by omega, h2, fun i hi hCi => ?_⟩
        by_cases hi2 : i = n
        · subst hi2
          rcases h : lt j i with _ | _
          · rfl
          · exact absurd ⟨hCi, h⟩ hc
        · exact h3 i (by omega) hCi
/-- two such folds over places that answer each other -/
theorem best_map {C C2 : Nat → Bool} {lt lt2 : Nat → Nat → Bool} {x : Option Nat} {y : Option Nat} {pi : Nat → Nat} {n N : Nat} (hx : bestOf C lt x N) (hy : bestOf C2 lt2 y n)
    (hb : ∀ k, k < n → pi k < N) (hs : ∀ i, i < N → C i = true → ∃ k, k < n ∧ pi k = i) (hC : ∀ k, k < n → C2 k = C (pi k)) (hl : ∀ j k, j < n → k < n → C2 j = true → C2 k = true → lt2 j k = lt (pi j) (pi k)) (hu : ∀ j k, j < n → k < n → C2 j = true → C2 k = true → lt2 j k = false → lt2 k j = false → j = k) : x = y.map pi := by
  rcases hy with ⟨rfl, h2⟩ | ⟨k, rfl, hk, h2, h3⟩
  · rcases hx with ⟨rfl, _⟩ | ⟨i, rfl, hi, h4, _⟩
    · rfl
    · obtain ⟨k, hk, rfl⟩ := hs i hi h4
      have := h2 k hk
      rw [hC k hk, h4] at this; cases this
  · rcases hx with ⟨rfl, h4⟩ | ⟨i, rfl, hi, h4, h5⟩
    · have := h4 (pi k) (hb k hk)
      rw [← hC k hk, h2] at this; cases this
    · obtain ⟨k2, hk2, rfl⟩ := hs i hi h4
      have hq : C2 k2 = true := by rw [hC k2 hk2]; exact h4
      have h6 := h5 (pi k) (hb k hk) (by rw [← hC k hk]; exact h2)
      rw [← hl k2 k hk2 hk hq h2] at h6
      rw [hu k2 k hk2 hk hq h2 h6 (h3 k2 hk2 hq)]
      rfl
theorem dlt_tr {T : Nat → Int32} (a b c : Nat) (h1 : decide (T a < T b) = false) (h2 : decide (T b < T c) = false) : decide (T a < T c) = false := by
  rw [decide_eq_false_iff_not, Int32.not_lt] at h1 h2 ⊢
  exact Int32.le_trans h2 h1
theorem dlt_to {T : Nat → Int32} (a b : Nat) (h : decide (T a < T b) = true) : decide (T b < T a) = false := by
  rw [decide_eq_true_eq] at h
  rw [decide_eq_false_iff_not]
  exact fun z => Int32.lt_irrefl (Int32.lt_trans h z)
theorem dgt_tr {T : Nat → Int32} (a b c : Nat) (h1 : decide (T b < T a) = false) (h2 : decide (T c < T b) = false) : decide (T c < T a) = false := dlt_tr (T := T) c b a h2 h1
/-- differences of times -/
theorem t_nat {x : Int32} (h : 0 ≤ x ∧ x ≤ 999) : ∃ a : Nat, a ≤ 999 ∧ x = nI a := nI_of2 (M := 999) (n := 999) (by decide) (Int32.not_lt.mpr h.1) h.2
theorem far_1 {x y : Int32} (hx : 0 ≤ x ∧ x ≤ 999) (hy : 0 ≤ y ∧ y ≤ 999) (h : y < x) : x - y < x - y + 1 := by
  obtain ⟨a, ha, rfl⟩ := t_nat hx
  obtain ⟨b, hb, rfl⟩ := t_nat hy
  have hab := (nI_ltI (by omega) (by omega)).mp h
  rw [show nI a - nI b = nI (a - b) from nI_subE rfl rfl (by omega), nI_1]
  exact nI_lt (by omega) (by omega)
theorem far_R {x y z : Int32} (hx : 0 ≤ x ∧ x ≤ 999) (hy : 0 ≤ y ∧ y ≤ 999) (hz : 0 ≤ z ∧ z ≤ 999) (h1 : z < x) (h2 : z < y) : x - z < y - z ↔ x < y := by
  obtain ⟨a, ha, rfl⟩ := t_nat hx
  obtain ⟨b, hb, rfl⟩ := t_nat hy
  obtain ⟨c, hc, rfl⟩ := t_nat hz
  have q1 := (nI_ltI (by omega) (by omega)).mp h1
  have q2 := (nI_ltI (by omega) (by omega)).mp h2
  rw [show nI a - nI c = nI (a - c) from nI_subE rfl rfl (by omega), show nI b - nI c = nI (b - c) from nI_subE rfl rfl (by omega), nI_ltI (by omega) (by omega), nI_ltI (by omega) (by omega)]
  omega
theorem far_L {x y z : Int32} (hx : 0 ≤ x ∧ x ≤ 999) (hy : 0 ≤ y ∧ y ≤ 999) (hz : 0 ≤ z ∧ z ≤ 999) (h1 : x < z) (h2 : y < z) : z - x < z - y ↔ y < x := by
  obtain ⟨a, ha, rfl⟩ := t_nat hx
  obtain ⟨b, hb, rfl⟩ := t_nat hy
  obtain ⟨c, hc, rfl⟩ := t_nat hz
  have q1 := (nI_ltI (by omega) (by omega)).mp h1
  have q2 := (nI_ltI (by omega) (by omega)).mp h2
  rw [show nI c - nI a = nI (c - a) from nI_subE rfl rfl (by omega), show nI c - nI b = nI (c - b) from nI_subE rfl rfl (by omega), nI_ltI (by omega) (by omega), nI_ltI (by omega) (by omega)]
  omega
section BRE
variable {g : Nat → Nat → Int32} {f : Nat → Int32} {B n t : Nat} {pi ro : Nat → Nat}
/-- candidates of the reference, on one side -/
def m_cb (f : Nat → Int32) (a : Nat) (nx : Bool) (k : Nat) : Bool := gP f k 1 == gP f a 1 && (if nx = true then decide (gP f a 2 < gP f k 2) else decide (gP f k 2 < gP f a 2))
def m_lt (f : Nat → Int32) (nx : Bool) (j k : Nat) : Bool := if nx = true then decide (gP f k 2 < gP f j 2) else decide (gP f j 2 < gP f k 2)
theorem m_lt_tr (f : Nat → Int32) (nx : Bool) (a b c : Nat) (h1 : m_lt f nx a b = false) (h2 : m_lt f nx b c = false) : m_lt f nx a c = false := by
  rcases nx with _ | _
  · exact dlt_tr (T := fun k => gP f k 2) a b c h1 h2
  · exact dgt_tr (T := fun k => gP f k 2) a b c h1 h2
theorem m_lt_to (f : Nat → Int32) (nx : Bool) (a b : Nat) (h : m_lt f nx a b = true) : m_lt f nx b a = false := by
  rcases nx with _ | _
  · exact dlt_to (T := fun k => gP f k 2) a b h
  · exact dlt_to (T := fun k => gP f k 2) b a h
theorem VX.bes (h : VX f n t B) {a : Nat} (ha : a < n) (nx : Bool) : bestOf (m_cb f a nx) (m_lt f nx) (m_bes f n a nx) n := by
  refine foldI_best (N := n) (fun x i hi hx => ?_) (m_lt_tr f nx) (m_lt_to f nx) n (Nat.le_refl n)
  have ti := (h.1 i hi).1
  have ta := (h.1 a ha).1
  unfold S_bes
  rcases nx with _ | _
  · rcases x with _ | j
    · refine if_cg ?_
      simp only [m_cb, Bool.false_eq_true, if_false, Bool.and_eq_true, beq_iff_eq, decide_eq_true_eq, Bool.and_true]
      rw [i0_sub ta.1 ti.1]
      exact ⟨fun z => ⟨z.1, z.2.1⟩, fun z => ⟨z.1, z.2, far_1 ta ti z.2⟩⟩
    · obtain ⟨hj, hcj⟩ := hx j rfl
      have tj := (h.1 j hj).1
      simp only [m_cb, Bool.false_eq_true, if_false, Bool.and_eq_true, beq_iff_eq, decide_eq_true_eq] at hcj
      refine if_cg ?_
      simp only [m_cb, m_lt, Bool.false_eq_true, if_false, Bool.and_eq_true, beq_iff_eq, decide_eq_true_eq]
      rw [i0_sub ta.1 ti.1]
      exact ⟨fun z => ⟨⟨z.1, z.2.1⟩, (far_L ti tj ta z.2.1 hcj.2).mp z.2.2⟩, fun z => ⟨z.1.1, z.1.2, (far_L ti tj ta z.1.2 hcj.2).mpr z.2⟩⟩
  · rcases x with _ | j
    · refine if_cg ?_
      simp only [m_cb, if_true, Bool.and_eq_true, beq_iff_eq, decide_eq_true_eq, Bool.and_true]
      rw [i0_sub ti.1 ta.1]
      exact ⟨fun z => ⟨z.1, z.2.1⟩, fun z => ⟨z.1, z.2, far_1 ti ta z.2⟩⟩
    · obtain ⟨hj, hcj⟩ := hx j rfl
      have tj := (h.1 j hj).1
      simp only [m_cb, if_true, Bool.and_eq_true, beq_iff_eq, decide_eq_true_eq] at hcj
      refine if_cg ?_
      simp only [m_cb, m_lt, if_true, Bool.and_eq_true, beq_iff_eq, decide_eq_true_eq]
      rw [i0_sub ti.1 ta.1]
      exact ⟨fun z => ⟨⟨z.1, z.2.1⟩, (far_R ti tj ta z.2.1 hcj.2).mp z.2.2⟩, fun z => ⟨z.1.1, z.1.2, (far_R ti tj ta z.1.2 hcj.2).mpr z.2⟩⟩
theorem cb_on {a k : Nat} {nx : Bool} (h : m_cb f a nx k = true) : gP f k 1 = gP f a 1 := by
  unfold m_cb at h; rw [Bool.and_eq_true, beq_iff_eq] at h; exact h.1
theorem VX.lt_eq (h : VX f n t B) {a j k : Nat} {nx : Bool} (hj : j < n) (hk : k < n) (h1 : m_cb f a nx j = true) (h2 : m_cb f a nx k = true) (h3 : m_lt f nx j k = false) (h4 : m_lt f nx k j = false) : j = k := by
  refine h.2.2.1 j k hj hk ((cb_on h1).trans (cb_on h2).symm) ?_
  rcases nx with _ | _
  · simp only [m_lt, Bool.false_eq_true, if_false, decide_eq_false_iff_not, Int32.not_lt] at h3 h4
    exact Int32.le_antisymm h4 h3
  · simp only [m_lt, if_true, decide_eq_false_iff_not, Int32.not_lt] at h3 h4
    exact Int32.le_antisymm h3 h4
theorem BR.before (h : BR g f B n t pi ro) {a : Nat} (ha : a < n) : f_before g (pi a) = (m_bes f n a false).map pi := by
  refine best_map (C := fun i => f_isOn g (9 + i) (g (9 + pi a) 2) && decide (g (9 + i) 3 < g (9 + pi a) 3)) (lt := fun j i => decide (g (9 + j) 3 < g (9 + i) 3)) (N := 30) (foldI_best (N := 30) (fun x i _ _ => ?_) (dlt_tr (T := fun k => g (9 + k) 3)) (dlt_to (T := fun k => g (9 + k) 3)) 30 (Nat.le_refl 30)) (h.vx.bes ha false) (fun k hk => h.pi30 hk) (fun i hi hc => h.sj hi (fun z => ?_)) (fun k hk => ?_) (fun j k hj hk _ _ => ?_) (fun j k hj hk h1 h2 h3 h4 => h.vx.lt_eq hj hk h1 h2 h3 h4)
  · rfl
  · rw [off z] at hc; cases hc
  · simp only [m_cb, Bool.false_eq_true, if_false]
    rw [h.on hk, ← (h.pe ha).2.1, ← (h.pe ha).2.2.1, ← (h.pe hk).2.2.1]
  · simp only [m_lt, Bool.false_eq_true, if_false]
    rw [← (h.pe hj).2.2.1, ← (h.pe hk).2.2.1]
theorem BR.after (h : BR g f B n t pi ro) {a : Nat} (ha : a < n) : f_after g (pi a) = (m_bes f n a true).map pi := by
  refine best_map (C := fun i => f_isOn g (9 + i) (g (9 + pi a) 2) && decide (g (9 + pi a) 3 < g (9 + i) 3)) (lt := fun j i => decide (g (9 + i) 3 < g (9 + j) 3)) (N := 30) (foldI_best (N := 30) (fun x i _ _ => ?_) (dgt_tr (T := fun k => g (9 + k) 3)) (fun a b hab => dlt_to (T := fun k => g (9 + k) 3) b a hab) 30 (Nat.le_refl 30)) (h.vx.bes ha true) (fun k hk => h.pi30 hk) (fun i hi hc => h.sj hi (fun z => ?_)) (fun k hk => ?_) (fun j k hj hk _ _ => ?_) (fun j k hj hk h1 h2 h3 h4 => h.vx.lt_eq hj hk h1 h2 h3 h4)
  · rfl
  · rw [off z] at hc; cases hc
  · simp only [m_cb, if_true]
    rw [h.on hk, ← (h.pe ha).2.1, ← (h.pe ha).2.2.1, ← (h.pe hk).2.2.1]
  · simp only [m_lt, if_true]
    rw [← (h.pe hj).2.2.1, ← (h.pe hk).2.2.1]
/-! distances and errors -/
theorem m_size_abs {x : Int32} : m_size x = iabs x := by
  unfold m_size iabs
  by_cases h : x < 0
  · rw [if_pos h, if_neg (Int32.not_le.mpr h), Int32.zero_sub]
  · rw [if_neg h, if_pos (Int32.not_lt.mp h)]
theorem BR.dist (h : BR g f B n t pi ro) {a : Nat} (ha : a < n) (r c1 : Int32) : f_dist g (9 + pi a) r c1 = m_dist f a r c1 := by
  unfold f_dist m_dist
  rw [m_size_abs, m_size_abs, (h.pe ha).2.2.2.1, (h.pe ha).2.2.2.2.1]
theorem iabs_sym {a b : Nat} (ha : a < 1000) (hb : b < 1000) : iabs (nI a - nI b) = iabs (nI b - nI a) := by
  have hx : nI b - nI a = -(nI a - nI b) := (Int32.neg_sub).symm
  rw [hx]
  rcases Nat.lt_trichotomy a b with q | q | q
  · have h1 : nI b - nI a = nI (b - a) := nI_subE rfl rfl (by omega)
    have h2 : nI a - nI b = -(nI (b - a)) := by rw [← h1, Int32.neg_sub]
    rw [h2, Int32.neg_neg]
    unfold iabs
    have hn : ¬ 0 ≤ -(nI (b - a)) := by
      have := i0_sub (x := nI a) (y := nI b) (nI_pos' (by omega)) (nI_pos' (by omega))
      intro z
      rw [← h2] at z
      have h3 : nI a - nI b + (nI b - nI a) = 0 := by rw [hx]; exact Int32.add_right_neg _
      exact absurd z (by
        rw [h2]
        have h5 : (-(nI (b - a))).toInt = -((nI (b - a)).toInt) := by
          rw [Int32.toInt_neg, nI_toInt (by omega)]
          exact Int.bmod_eq_of_le (by omega) (by omega)
        intro z2
        have h6 := Int32.le_iff_toInt_le.mp z2
        rw [h5, nI_toInt (by omega)] at h6
        have h7 : (0 : Int32).toInt = 0 := by decide
        omega)
    rw [if_neg hn, if_pos (nI_pos' (by omega)), Int32.zero_sub, Int32.neg_neg]
  · subst q
    rw [Int32.sub_self]; decide
  · have h1 : nI a - nI b = nI (a - b) := nI_subE rfl rfl (by omega)
    rw [h1]
    unfold iabs
    have hn : ¬ 0 ≤ -(nI (a - b)) := by
      intro z2
      have h5 : (-(nI (a - b))).toInt = -((nI (a - b)).toInt) := by
        rw [Int32.toInt_neg, nI_toInt (by omega)]
        exact Int.bmod_eq_of_le (by omega) (by omega)
      have h6 := Int32.le_iff_toInt_le.mp z2
      rw [h5, nI_toInt (by omega)] at h6
      have h7 : (0 : Int32).toInt = 0 := by decide
      omega
    rw [if_neg hn, if_pos (nI_pos' (by omega)), Int32.zero_sub, Int32.neg_neg]
theorem iabs_symm {x y : Int32} (hx : 0 ≤ x ∧ x ≤ 999) (hy : 0 ≤ y ∧ y ≤ 999) : iabs (x - y) = iabs (y - x) := by
  obtain ⟨a, ha, rfl⟩ := t_nat hx
  obtain ⟨b, hb, rfl⟩ := t_nat hy
  exact iabs_sym (by omega) (by omega)
end BRE
