/-! sums, counts and first places under a renumbering -/
theorem sumI_congr {F G : Nat → Int32} : ∀ {n : Nat}, (∀ j, j < n → F j = G j) → sumI F n = sumI G n
  | 0, _ => rfl
  | n + 1, h => by rw [sumI_succ, sumI_succ, sumI_congr (fun j hj => h j (by omega)), h n (by omega)]
theorem sumI_zero {F : Nat → Int32} : ∀ {n : Nat}, (∀ j, j < n → F j = 0) → sumI F n = 0
  | 0, _ => rfl
  | n + 1, h => by rw [sumI_succ, sumI_zero (fun j hj => h j (by omega)), h n (by omega)]; decide
theorem sumI_take {F : Nat → Int32} {a : Nat} : ∀ {N : Nat}, a < N → sumI F N = sumI (fun i => if i = a then 0 else F i) N + F a
  | 0, h => absurd h (Nat.not_lt_zero _)
  | N + 1, h => by
    rw [sumI_succ, sumI_succ]
    by_cases hN : a = N
    · subst hN
      rw [if_pos rfl, sumI_congr (F := fun i => if i = a then 0 else F i) (G := F) (fun j hj => if_neg (by omega))]
      rw [Int32.add_zero]
    · rw [sumI_take (F := F) (a := a) (N := N) (by omega), if_neg (fun z => hN z.symm), Int32.add_assoc, Int32.add_comm (F a), ← Int32.add_assoc]
theorem sumI_inj {pi : Nat → Nat} {N : Nat} : ∀ (n : Nat) (F : Nat → Int32), (∀ k, k < n → pi k < N) → (∀ j k, j < n → k < n → pi j = pi k → j = k) → (∀ i, i < N → (∀ k, k < n → pi k ≠ i) → F i = 0) → sumI F N = sumI (fun k => F (pi k)) n
  | 0, F, _, _, h0 => sumI_zero fun j hj => h0 j hj (fun k hk => absurd hk (Nat.not_lt_zero _))
  | n + 1, F, hb, hi, h0 => by
    rw [sumI_take (F := F) (a := pi n) (hb n (by omega)), sumI_succ]
    rw [sumI_inj n (fun i => if i = pi n then 0 else F i) (fun k hk => hb k (by omega)) (fun j k hj hk => hi j k (by omega) (by omega)) (fun i hi2 hn => ?_)]
    · rw [sumI_congr (F := fun k => if pi k = pi n then 0 else F (pi k)) (G := fun k => F (pi k)) (fun k hk => if_neg (fun z => by have := hi k n (by omega) (by omega) z; omega))]
    · by_cases hz : i = pi n
      · exact if_pos hz
      · rw [if_neg hz]
        exact h0 i hi2 (fun k hk => by
          by_cases hkn : k = n
          · subst hkn; exact fun z => hz z.symm
          · exact hn k (by omega))
theorem fstI_inj {P Q : Nat → Bool} {pi : Nat → Nat} {n N : Nat} (hb : ∀ k, k < n → pi k < N) (hs : ∀ i, i < N → P i = true → ∃ k, k < n ∧ pi k = i) (hq : ∀ k, k < n → Q k = P (pi k)) (hu : ∀ j k, j < n → k < n → Q j = true → Q k = true → j = k) : fstI P N = (fstI Q n).map pi := by
  rcases opt_em (fstI Q n) with h | ⟨k, h⟩
  · rw [h]
    refine fstI_none.mpr fun i hi => ?_
    rcases hp : P i with _ | _
    · rfl
    · obtain ⟨k, hk, rfl⟩ := hs i hi hp
      have := fstI_none.mp h k hk
      rw [hq k hk, hp] at this
      cases this
  · rw [h]
    obtain ⟨hk, hQ, -⟩ := fstI_some h
    rcases opt_em (fstI P N) with h2 | ⟨i, h2⟩
    · have := fstI_none.mp h2 (pi k) (hb k hk)
      rw [← hq k hk, hQ] at this
      cases this
    · obtain ⟨hi, hP, -⟩ := fstI_some h2
      obtain ⟨k2, hk2, rfl⟩ := hs i hi hP
      rw [h2, hu k k2 hk hk2 hQ (by rw [hq k2 hk2]; exact hP)]
      rfl
theorem foldI_congr {α : Type} {f g : α → Nat → α} {a : α} : ∀ {n : Nat}, (∀ x j, j < n → f x j = g x j) → foldI f a n = foldI g a n
  | 0, _ => rfl
  | n + 1, h => by rw [foldI_succ, foldI_succ, foldI_congr (fun x j hj => h x j (by omega)), h _ n (by omega)]
theorem foldI_sum {f : Int32 → Nat → Int32} {F : Nat → Int32} {a : Int32} (h : ∀ x j, f x j = x + F j) : ∀ n : Nat, foldI f a n = a + sumI F n
  | 0 => by show a = a + 0; rw [Int32.add_zero]
  | n + 1 => by rw [foldI_succ, h, foldI_sum h n, sumI_succ, Int32.add_assoc]
theorem sumI_add {F G : Nat → Int32} : ∀ n : Nat, sumI (fun j => F j + G j) n = sumI F n + sumI G n
  | 0 => by show (0 : Int32) = 0 + 0; decide
  | n + 1 => by
    rw [sumI_succ, sumI_succ, sumI_succ, sumI_add n]
    rw [Int32.add_assoc, Int32.add_assoc, ← Int32.add_assoc (sumI G n), Int32.add_comm (sumI G n) (F n), Int32.add_assoc (F n)]
/-- how many -/
def cntN (p : Nat → Bool) : Nat → Nat
  | 0 => 0
  | n + 1 => cntN p n + (if p n = true then 1 else 0)
theorem cntN_succ (p : Nat → Bool) (n : Nat) : cntN p (n + 1) = cntN p n + (if p n = true then 1 else 0) := rfl
theorem cntN_all : ∀ n : Nat, cntN (fun _ => true) n = n
  | 0 => rfl
  | n + 1 => by rw [cntN_succ, cntN_all n, if_pos rfl]
theorem cntN_le (p : Nat → Bool) : ∀ n : Nat, cntN p n ≤ n
  | 0 => Nat.le_refl 0
  | n + 1 => by
    have := cntN_le p n
    rw [cntN_succ]
    split <;> omega
theorem sumI_cnt {F : Nat → Int32} {p : Nat → Bool} : ∀ {n : Nat}, (∀ j, j < n → F j = b2i (p j)) → sumI F n = nI (cntN p n)
  | 0, _ => by show (0 : Int32) = nI 0; decide
  | n + 1, h => by
    rw [sumI_succ, sumI_cnt (fun j hj => h j (by omega)), h n (by omega), cntN_succ]
    rcases p n with _ | _
    · show nI _ + 0 = nI (_ + 0); rw [Int32.add_zero]; rfl
    · exact nI_1 _
theorem cntN_congr {p q : Nat → Bool} : ∀ {n : Nat}, (∀ j, j < n → p j = q j) → cntN p n = cntN q n
  | 0, _ => rfl
  | n + 1, h => by rw [cntN_succ, cntN_succ, cntN_congr (fun j hj => h j (by omega)), h n (by omega)]
theorem cntN_mono {p q : Nat → Bool} : ∀ {n : Nat}, (∀ j, j < n → p j = true → q j = true) → cntN p n ≤ cntN q n
  | 0, _ => Nat.le_refl 0
  | n + 1, h => by
    rw [cntN_succ, cntN_succ]
    have h1 := cntN_mono (p := p) (q := q) (n := n) (fun j hj => h j (by omega))
    have h2 := h n (by omega)
    by_cases hp : p n = true
    · rw [if_pos hp, if_pos (h2 hp)]; omega
    · rw [if_neg hp]; omega
theorem cntN_pos {p : Nat → Bool} : ∀ {n : Nat}, 0 < cntN p n → ∃ j, j < n ∧ p j = true
  | 0, h => absurd h (Nat.lt_irrefl 0)
  | n + 1, h => by
    by_cases hp : p n = true
    · exact ⟨n, by omega, hp⟩
    · rw [cntN_succ, if_neg hp] at h
      obtain ⟨j, hj, hpj⟩ := cntN_pos (p := p) (n := n) (by omega)
      exact ⟨j, by omega, hpj⟩
theorem cntN_ge1 {p : Nat → Bool} {a : Nat} : ∀ {n : Nat}, a < n → p a = true → 0 < cntN p n
  | 0, h, _ => absurd h (Nat.not_lt_zero _)
  | n + 1, h, hp => by
    rw [cntN_succ]
    by_cases ha : a = n
    · subst ha; rw [if_pos hp]; omega
    · have := cntN_ge1 (p := p) (n := n) (by omega) hp; omega
theorem cntN_or {p q r : Nat → Bool} : ∀ {n : Nat}, (∀ j, j < n → p j = (q j || r j)) → (∀ j, j < n → ¬ (q j = true ∧ r j = true)) → cntN p n = cntN q n + cntN r n
  | 0, _, _ => rfl
  | n + 1, h, hd => by
    rw [cntN_succ, cntN_succ, cntN_succ, cntN_or (p := p) (q := q) (r := r) (fun j hj => h j (by omega)) (fun j hj => hd j (by omega)), h n (by omega)]
    have hn := hd n (by omega)
    by_cases hq : q n = true
    · have hr : r n = false := by
        rcases hr : r n with _ | _
        · rfl
        · exact absurd ⟨hq, hr⟩ hn
      rw [hq, hr]
      show cntN q n + cntN r n + 1 = (cntN q n + 1) + (cntN r n + 0)
      omega
    · have hq2 : q n = false := by simpa using hq
      by_cases hr : r n = true
      · rw [hq2, hr]
        show cntN q n + cntN r n + 1 = (cntN q n + 0) + (cntN r n + 1)
        omega
      · have hr2 : r n = false := by simpa using hr
        rw [hq2, hr2]
        show cntN q n + cntN r n + 0 = (cntN q n + 0) + (cntN r n + 0)
        omega
theorem cntN_le1 {p : Nat → Bool} : ∀ {n : Nat}, (∀ j k, j < n → k < n → p j = true → p k = true → j = k) → cntN p n ≤ 1
  | 0, _ => by show 0 ≤ 1; omega
  | n + 1, h => by
    rw [cntN_succ]
    by_cases hp : p n = true
    · have h0 : cntN p n = 0 := by
        rcases Nat.eq_zero_or_pos (cntN p n) with q | q
        · exact q
        · obtain ⟨j, hj, hpj⟩ := cntN_pos q
          have := h j n (by omega) (by omega) hpj hp
          omega
      rw [if_pos hp, h0]; omega
    · rw [if_neg hp]
      exact cntN_le1 (fun j k hj hk => h j k (by omega) (by omega))
/-- ranks by a key below 1000, no two of a kind alike -/
def rkN (A : Nat → Bool) (T : Nat → Nat) (n x : Nat) : Nat := cntN (fun j => A j && decide (T j < x)) n
def dsN (A : Nat → Bool) (T : Nat → Nat) (n : Nat) : Prop := ∀ j k, j < n → k < n → A j = true → A k = true → T j = T k → j = k
theorem rkN_mono {A : Nat → Bool} {T : Nat → Nat} {n x y : Nat} (h : x ≤ y) : rkN A T n x ≤ rkN A T n y := cntN_mono fun j _ hj => by
  simp only [Bool.and_eq_true, decide_eq_true_eq] at hj ⊢
  exact ⟨hj.1, by omega⟩
theorem rkN_0 {A : Nat → Bool} {T : Nat → Nat} {n : Nat} : rkN A T n 0 = 0 := by
  rcases Nat.eq_zero_or_pos (rkN A T n 0) with q | q
  · exact q
  · obtain ⟨j, _, hj⟩ := cntN_pos q
    simp at hj
theorem rkN_top {A : Nat → Bool} {T : Nat → Nat} {n M : Nat} (h : ∀ j, j < n → A j = true → T j < M) : rkN A T n M = cntN A n := cntN_congr fun j hj => by
  rcases hA : A j with _ | _
  · rfl
  · simp [h j hj hA]
theorem rkN_succ {A : Nat → Bool} {T : Nat → Nat} {n x : Nat} : rkN A T n (x + 1) = rkN A T n x + cntN (fun j => A j && decide (T j = x)) n := cntN_or (fun j _ => by
    rcases A j with _ | _
    · rfl
    · by_cases h1 : T j < x
      · simp [h1, show T j < x + 1 by omega]
      · by_cases h2 : T j = x
        · simp [h2]
        · simp [h1, h2, show ¬ T j < x + 1 by omega]) (fun j _ h => by simp at h; omega)
theorem rkN_step {A : Nat → Bool} {T : Nat → Nat} {n x : Nat} (hd : dsN A T n) : rkN A T n (x + 1) ≤ rkN A T n x + 1 := by
  rw [rkN_succ]
  have := cntN_le1 (p := fun j => A j && decide (T j = x)) (n := n) (fun j k hj hk h1 h2 => by
    simp only [Bool.and_eq_true, decide_eq_true_eq] at h1 h2
    exact hd j k hj hk h1.1 h2.1 (by omega))
  omega
theorem rkN_lt {A : Nat → Bool} {T : Nat → Nat} {n j y : Nat} (hj : j < n) (hA : A j = true) (hy : T j < y) : rkN A T n (T j) < rkN A T n y := by
  have h1 : rkN A T n (T j + 1) ≤ rkN A T n y := rkN_mono hy
  rw [rkN_succ] at h1
  have := cntN_ge1 (p := fun i => A i && decide (T i = T j)) hj (by simp [hA])
  omega
theorem rkN_inj {A : Nat → Bool} {T : Nat → Nat} {n j k : Nat} (hd : dsN A T n) (hj : j < n) (hk : k < n) (hA : A j = true) (hB : A k = true) (h : rkN A T n (T j) = rkN A T n (T k)) : j = k := by
  rcases Nat.lt_trichotomy (T j) (T k) with q | q | q
  · have := rkN_lt hj hA q; omega
  · exact hd j k hj hk hA hB q
  · have := rkN_lt hk hB q; omega
/-- every rank below the number is somebody's -/
theorem rkN_some {A : Nat → Bool} {T : Nat → Nat} {n q : Nat} (hd : dsN A T n) : ∀ M : Nat, q < rkN A T n M → ∃ j, j < n ∧ A j = true ∧ rkN A T n (T j) = q
  | 0, h => by rw [rkN_0] at h; omega
  | M + 1, h => by
    by_cases hM : q < rkN A T n M
    · exact rkN_some hd M hM
    · have h1 := rkN_step (x := M) hd
      have h2 : rkN A T n M = q := by omega
      rw [rkN_succ] at h
      obtain ⟨j, hj, hp⟩ := cntN_pos (show 0 < cntN (fun j => A j && decide (T j = M)) n by omega)
      simp only [Bool.and_eq_true, decide_eq_true_eq] at hp
      exact ⟨j, hj, hp.1, by rw [hp.2]; exact h2⟩
/-- numbers from 0 -/
theorem i0_lt {x y : Int32} (hx : 0 ≤ x) (hy : 0 ≤ y) : x < y ↔ tn x < tn y := by
  obtain ⟨a, ha, rfl⟩ := nI_of (x := x) (Int32.not_lt.mpr hx)
  obtain ⟨b, hb, rfl⟩ := nI_of (x := y) (Int32.not_lt.mpr hy)
  rw [tn_nI ha, tn_nI hb]; exact nI_ltI ha hb
theorem i0_eq {x y : Int32} (hx : 0 ≤ x) (hy : 0 ≤ y) : x = y ↔ tn x = tn y := by
  obtain ⟨a, ha, rfl⟩ := nI_of (x := x) (Int32.not_lt.mpr hx)
  obtain ⟨b, hb, rfl⟩ := nI_of (x := y) (Int32.not_lt.mpr hy)
  rw [tn_nI ha, tn_nI hb]; exact nI_eq ha hb
theorem i0_le {x y : Int32} (hx : 0 ≤ x) (hy : 0 ≤ y) : x ≤ y ↔ tn x ≤ tn y := by
  obtain ⟨a, ha, rfl⟩ := nI_of (x := x) (Int32.not_lt.mpr hx)
  obtain ⟨b, hb, rfl⟩ := nI_of (x := y) (Int32.not_lt.mpr hy)
  rw [tn_nI ha, tn_nI hb]; exact nI_leI ha hb
theorem i0_tn {x : Int32} {b : Nat} (hx : 0 ≤ x) (h : x ≤ nI b) (hb : b < 2 ^ 31) : tn x ≤ b := by
  have := (i0_le hx (nI_pos' hb)).mp h
  rwa [tn_nI hb] at this
theorem i0_sub {x y : Int32} (hx : 0 ≤ x) (hy : 0 ≤ y) : 0 < x - y ↔ y < x := by
  obtain ⟨a, ha, rfl⟩ := nI_of (x := x) (Int32.not_lt.mpr hx)
  obtain ⟨b, hb, rfl⟩ := nI_of (x := y) (Int32.not_lt.mpr hy)
  rw [nI_ltI hb ha]
  rcases Nat.lt_or_ge b a with q | q
  · have h1 : nI a - nI b = nI (a - b) := nI_subE rfl rfl (by omega)
    rw [h1]
    exact ⟨fun _ => q, fun _ => nI_lt (a := 0) (by omega) (by omega)⟩
  · refine ⟨fun h => ?_, fun h => absurd h (by omega)⟩
    exfalso
    have h1 : nI b - nI a = nI (b - a) := nI_subE rfl rfl q
    have h2 : nI a - nI b = -(nI (b - a)) := by rw [← h1, Int32.neg_sub]
    rw [h2] at h
    have h3 : (-(nI (b - a))).toInt = -((nI (b - a)).toInt) := by
      rw [Int32.toInt_neg, nI_toInt (by omega)]
      exact Int.bmod_eq_of_le (by omega) (by omega)
    have h4 := Int32.lt_iff_toInt_lt.mp h
    rw [h3, nI_toInt (by omega)] at h4
    have h5 : (0 : Int32).toInt = 0 := by decide
    omega
theorem i0_sub0 {x y : Int32} : x - y = 0 ↔ x = y := by
  refine ⟨fun h => ?_, fun h => by rw [h, Int32.sub_self]⟩
  have h1 := congrArg (fun z => z + y) h
  simpa using h1
