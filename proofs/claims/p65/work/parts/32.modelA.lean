/-! the model: its numbers by place -/
theorem nI_addE {x y : Int32} {a b : Nat} (h1 : x = nI a) (h2 : y = nI b) : x + y = nI (a + b) := by rw [h1, h2]; exact (Int32.ofNat_add a b).symm
theorem nI_mulE {x y : Int32} {a b : Nat} (h1 : x = nI a) (h2 : y = nI b) : x * y = nI (a * b) := by rw [h1, h2]; exact (Int32.ofNat_mul a b).symm
theorem nI_subE {x y : Int32} {a b : Nat} (h1 : x = nI a) (h2 : y = nI b) (h : b ≤ a) : x - y = nI (a - b) := by
  rw [h1, h2, show a = (a - b) + b by omega, ← show nI (a - b) + nI b = nI (a - b + b) from nI_addE rfl rfl]
  simp
def gP (μ : Nat → Int32) (a w : Nat) : Int32 := μ (19 + 9 * a + w)
def gT (μ : Nat → Int32) (k : Nat) : Int32 := μ (7 + 2 * k)
def gS (μ : Nat → Int32) (k : Nat) : Int32 := μ (7 + 2 * k + 1)
/-- n prints, t tracks -/
def MS (μ : Nat → Int32) (n t : Nat) : Prop := μ 1 = nI n ∧ n ≤ 30 ∧ μ 0 = nI t ∧ t ≤ 6
theorem st0_1 (μ : Nat → Nat → Int32) (j : Nat) (v : Int32) : sp_st μ 0 j v 1 = μ 1 := by funext a; exact sp_st_k _ _ _ _ _ _ (by decide)
theorem MS.st0 {μ : Nat → Nat → Int32} {n t j : Nat} {v : Int32} (h : MS (μ 1) n t) : MS (sp_st μ 0 j v 1) n t := by rw [st0_1]; exact h
theorem MS.st {μ : Nat → Nat → Int32} {n t j : Nat} {v : Int32} (h : MS (μ 1) n t) (hj : 2 ≤ j) : MS (sp_st μ 1 j v 1) n t := by
  unfold MS; rw [sp_st_j _ _ _ _ _ _ (by omega), sp_st_j _ _ _ _ _ _ (by omega)]; exact h
def m_in (x a1 b1 : Int32) : Bool := decide (a1 ≤ x) && decide (x ≤ b1)
def m_isCell (r c1 : Int32) : Bool := m_in r 0 9 && m_in c1 0 19
def m_size (x : Int32) : Int32 := if x < 0 then -x else x
def mP_find (μ : Nat → Int32) (x : Int32) (k : Nat) : Bool := gP μ k 0 == x
def m_find (μ : Nat → Int32) (n : Nat) (x : Int32) : Option Nat := fstI (mP_find μ x) n
theorem m_find_lt {μ : Nat → Int32} {n : Nat} {x : Int32} {j : Nat} (h : m_find μ n x = some j) : j < n := (fstI_some h).1
def mP_ft (μ : Nat → Int32) (x : Int32) (k : Nat) : Bool := gT μ k == x
def m_ft (μ : Nat → Int32) (t : Nat) (x : Int32) : Option Nat := fstI (mP_ft μ x) t
theorem m_ft_lt {μ : Nat → Int32} {t : Nat} {x : Int32} {j : Nat} (h : m_ft μ t x = some j) : j < t := (fstI_some h).1
def mP_cell (μ : Nat → Int32) (r c1 : Int32) (k : Nat) : Bool := gP μ k 3 == r && gP μ k 4 == c1
def m_cell (μ : Nat → Int32) (n : Nat) (r c1 : Int32) : Option Nat := fstI (mP_cell μ r c1) n
theorem m_cell_lt {μ : Nat → Int32} {n : Nat} {r c1 : Int32} {j : Nat} (h : m_cell μ n r c1 = some j) : j < n := (fstI_some h).1
def mP_time (μ : Nat → Int32) (x u : Int32) (k : Nat) : Bool := gP μ k 1 == x && gP μ k 2 == u
def m_time (μ : Nat → Int32) (n : Nat) (x u : Int32) : Option Nat := fstI (mP_time μ x u) n
theorem m_time_lt {μ : Nat → Int32} {n : Nat} {x u : Int32} {j : Nat} (h : m_time μ n x u = some j) : j < n := (fstI_some h).1
def S_bes (μ : Nat → Int32) (a : Nat) (nx : Bool) (x : Option Nat) (k : Nat) : Option Nat :=
  if gP μ k 1 = gP μ a 1 ∧ 0 < (if nx = true then gP μ k 2 - gP μ a 2 else gP μ a 2 - gP μ k 2) ∧ (if nx = true then gP μ k 2 - gP μ a 2 else gP μ a 2 - gP μ k 2) < (match x with
    | none => (if nx = true then gP μ k 2 - gP μ a 2 else gP μ a 2 - gP μ k 2) + 1
    | some f => if nx = true then gP μ f 2 - gP μ a 2 else gP μ a 2 - gP μ f 2) then some k else x
theorem S_bes_or (μ : Nat → Int32) (a : Nat) (nx : Bool) : ∀ x i, S_bes μ a nx x i = x ∨ S_bes μ a nx x i = some i := fun x i => by
  unfold S_bes; exact (Decidable.em _).elim (fun h => Or.inr (if_pos h)) (fun h => Or.inl (if_neg h))
def m_bes (μ : Nat → Int32) (n a : Nat) (nx : Bool) : Option Nat := foldI (S_bes μ a nx) none n
theorem m_bes_lt {μ : Nat → Int32} {n a : Nat} {nx : Bool} {j : Nat} (h : m_bes μ n a nx = some j) : j < n := foldI_lt (S_bes_or μ a nx) h
def m_dist (μ : Nat → Int32) (a : Nat) (r c1 : Int32) : Int32 := m_size (gP μ a 3 - r) + m_size (gP μ a 4 - c1)
def m_stride (μ : Nat → Int32) (n a : Nat) : Int32 := match m_bes μ n a false with
  | none => 0
  | some j => m_dist μ j (gP μ a 3) (gP μ a 4)
def m_lim (μ : Nat → Int32) (t a : Nat) : Int32 := match m_ft μ t (gP μ a 1) with
  | none => μ 6
  | some k => gS μ k
def m_err (μ : Nat → Int32) (n t a : Nat) (z : Int32) : Bool := match m_bes μ n a false with
  | none => false
  | some j => if z = 0 then decide (m_lim μ t a < m_stride μ n a) else if z = 1 then gP μ a 5 == gP μ j 5 else decide (3 < m_size (gP μ a 6 - gP μ j 6))
def m_errs1 (μ : Nat → Int32) (n t a : Nat) : Int32 := b2i (m_err μ n t a 0) + b2i (m_err μ n t a 1) + b2i (m_err μ n t a 2)
def mF_cnt (μ : Nat → Int32) (x : Int32) (k : Nat) : Int32 := b2i (gP μ k 1 == x)
def m_count (μ : Nat → Int32) (n : Nat) (x : Int32) : Int32 := sumI (mF_cnt μ x) n
def mF_errs (μ : Nat → Int32) (n t : Nat) (x : Int32) (k : Nat) : Int32 := if gP μ k 1 = x then m_errs1 μ n t k else 0
def m_errs (μ : Nat → Int32) (n t : Nat) (x : Int32) : Int32 := sumI (mF_errs μ n t x) n
def mF_len (μ : Nat → Int32) (n : Nat) (x : Int32) (k : Nat) : Int32 := if gP μ k 1 = x then m_stride μ n k else 0
def m_len (μ : Nat → Int32) (n : Nat) (x : Int32) : Int32 := sumI (mF_len μ n x) n
def mF_below (μ : Nat → Int32) (v : Int32) (k : Nat) : Int32 := b2i (decide (gP μ k 3 < v))
def m_below (μ : Nat → Int32) (n : Nat) (v : Int32) : Int32 := sumI (mF_below μ v) n
def mF_later (μ : Nat → Int32) (x u : Int32) (k : Nat) : Int32 := b2i (gP μ k 1 == x && decide (u < gP μ k 2))
def m_later (μ : Nat → Int32) (n : Nat) (x u : Int32) : Bool := decide (0 < sumI (mF_later μ x u) n)
def mF_ah (μ : Nat → Int32) (x : Int32) (k j : Nat) : Int32 := b2i (gP μ j 1 == x && decide (gP μ j 2 < gP μ k 2))
def mP_po (μ : Nat → Int32) (n : Nat) (x q : Int32) (k : Nat) : Bool := gP μ k 1 == x && sumI (mF_ah μ x k) n == q
def m_po (μ : Nat → Int32) (n : Nat) (x q : Int32) : Option Nat := fstI (mP_po μ n x q) n
