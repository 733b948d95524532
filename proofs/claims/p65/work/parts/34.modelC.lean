/-! the model's answers -/
def m_pv (μ : Nat → Int32) (o : Option Nat) (w : Nat) : Int32 := match o with
  | none => μ (10 + w)
  | some k => gP μ k w
def upd2 (μ : Nat → Int32) (a : Nat) (v : Int32) (b : Nat) (w : Int32) : Nat → Int32 := upd (upd μ a v) b w
def m_there (μ : Nat → Int32) (n t a : Nat) (r c1 : Int32) : Int32 := m_errs (upd2 μ (19 + 9 * a + 3) r (19 + 9 * a + 4) c1) n t (gP (upd2 μ (19 + 9 * a + 3) r (19 + 9 * a + 4) c1) a 1)
def m_may (μ : Nat → Int32) (n a : Nat) (r c1 : Int32) : Bool := m_in (m_dist μ a r c1) 1 2 && decide (μ 4 ≤ r) && (m_cell μ n r c1).isNone
