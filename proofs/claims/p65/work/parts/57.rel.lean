/-! THE CALLS: what the class throws or answers is what the reference says -/
/-- the place of an exception in a clause -/
def kI : List String → String → Int32
  | [], _ => 0
  | a :: L, E => if E = a then 1 else kI L E + 1
def kC (L : List String) (x : XO) : Int32 := match x with
  | none => 0
  | some y => kI L y.1
theorem kC_1 {a : String} {L : List String} {r : Option RC} : kC (a :: L) (some (a, r)) = 1 := if_pos rfl
theorem kC_2 {a b : String} {L : List String} {r : Option RC} (h : b ≠ a) : kC (a :: b :: L) (some (b, r)) = 2 := by
  show (if b = a then 1 else (if b = b then 1 else kI L b + 1) + 1 : Int32) = 2
  rw [if_neg h, if_pos rfl]; decide
theorem kC_3 {a b c : String} {L : List String} {r : Option RC} (h : c ≠ a) (h2 : c ≠ b) : kC (a :: b :: c :: L) (some (c, r)) = 3 := by
  show (if c = a then 1 else (if c = b then 1 else (if c = c then 1 else kI L c + 1) + 1) + 1 : Int32) = 3
  rw [if_neg h, if_neg h2, if_pos rfl]; decide
theorem ne_NI : eNSE ≠ eIOO := by decide +kernel
theorem ne_AI : eARE ≠ eIOO := by decide +kernel
theorem ne_UA : eUOE ≠ eIAE := by decide +kernel
theorem ne_UI : eUOE ≠ eIOO := by decide +kernel
theorem ne_EI : eIAE ≠ eIOO := by decide +kernel
theorem ne_SA : eISE ≠ eIAE := by decide +kernel
theorem ne_US : eUOE ≠ eISE := by decide +kernel
/-- a call that reads: the code, no rejection, the answer -/
def AG (L : List String) (x : XO) (th : Int32) (ok : Prop) : Prop := kC L x = th ∧ (∀ E r, x = some (E, r) → r = none) ∧ (x = none → ok)
theorem AG.thr {E : String} {L : List String} {th : Int32} {ok : Prop} (h : kC L (some (E, none)) = th) : AG L (some (E, none)) th ok := ⟨h, fun _ _ z => (by cases z; rfl), fun z => (by cases z)⟩
theorem AG.ok {L : List String} {ok : Prop} (h : ok) : AG L none 0 ok := ⟨rfl, fun _ _ z => (by cases z), fun _ => h⟩
section AGS
variable {σ μ : Nat → Nat → Int32} {B n t : Nat} {pi ro : Nat → Nat}
theorem BR.fp (h : BR σ (μ 1) B n t pi ro) (id : Int32) : (f_findPrint σ id = none ∧ m_find (μ 1) n id = none) ∨ ∃ k, k < n ∧ f_findPrint σ id = some (pi k) ∧ m_find (μ 1) n id = some k := by
  rw [h.findP]
  rcases hq : m_find (μ 1) n id with _ | k
  · exact Or.inl ⟨rfl, rfl⟩
  · exact Or.inr ⟨k, m_find_lt hq, rfl, rfl⟩
theorem BR.ft (h : BR σ (μ 1) B n t pi ro) (id : Int32) : (f_findTrack σ id = none ∧ m_ft (μ 1) t id = none) ∨ ∃ k, k < t ∧ f_findTrack σ id = some (ro k) ∧ m_ft (μ 1) t id = some k ∧ gT (μ 1) k = id := by
  rw [h.findT]
  rcases hq : m_ft (μ 1) t id with _ | k
  · exact Or.inl ⟨rfl, rfl⟩
  · have := (fstI_some hq).2.1
    unfold mP_ft at this
    exact Or.inr ⟨k, m_ft_lt hq, rfl, rfl, beq_iff_eq.mp this⟩
theorem AG.print (h : BR σ (μ 1) B n t pi ro) (id : Int32) {ok : Prop} (hok : ∀ k, k < n → f_findPrint σ id = some (pi k) → m_find (μ 1) n id = some k → ok) : AG [eIOO] (f_xPrint σ id) (atO (m_find (μ 1) n id) 1 (fun _ => 0)) ok := by
  unfold f_xPrint
  rcases h.fp id with ⟨e1, e2⟩ | ⟨k, hk, e1, e2⟩
  · rw [e1, e2]; exact AG.thr kC_1
  · rw [e1, e2]; exact AG.ok (hok k hk e1 e2)
theorem AG.track (h : BR σ (μ 1) B n t pi ro) (id : Int32) {ok : Prop} (hok : ∀ k, k < t → f_findTrack σ id = some (ro k) → m_ft (μ 1) t id = some k → gT (μ 1) k = id → ok) : AG [eIOO] (f_xTrack σ id) (atO (m_ft (μ 1) t id) 1 (fun _ => 0)) ok := by
  unfold f_xTrack
  rcases h.ft id with ⟨e1, e2⟩ | ⟨k, hk, e1, e2, e3⟩
  · rw [e1, e2]; exact AG.thr kC_1
  · rw [e1, e2]; exact AG.ok (hok k hk e1 e2 e3)
theorem ag_get (h : BR σ (μ 1) B n t pi ro) (id : Int32) {w j : Nat} (hw : ∀ k, k < n → σ (9 + pi k) j = gP (μ 1) k w) : AG [eIOO] (f_xPrint σ id) (atO (m_find (μ 1) n id) 1 (fun _ => 0)) (atO (f_findPrint σ id) 0 (fun k => σ (9 + k) j) = atO (m_find (μ 1) n id) 0 (fun k => gP (μ 1) k w)) :=
  AG.print h id fun k hk e1 e2 => by rw [e1, e2]; exact hw k hk
theorem ag_is (h : BR σ (μ 1) B n t pi ro) (id : Int32) {w j : Nat} (hw : ∀ k, k < n → gP (μ 1) k w = bz (σ (9 + pi k) j)) : AG [eIOO] (f_xPrint σ id) (atO (m_find (μ 1) n id) 1 (fun _ => 0)) (atO (f_findPrint σ id) 0 (fun k => bz (σ (9 + k) j)) = b2i (atO (m_find (μ 1) n id) 0 (fun k => gP (μ 1) k w) == 1)) :=
  AG.print h id fun k hk e1 e2 => by
    rw [e1, e2]
    show bz (σ (9 + pi k) j) = b2i (gP (μ 1) k w == 1)
    rw [hw k hk]
    rcases bz_01 (σ (9 + pi k) j) with q | q <;> rw [q] <;> decide
theorem ag_conf (h : BR σ (μ 1) B n t pi ro) (id : Int32) : AG [eIOO] (f_xPrint σ id) (atO (m_find (μ 1) n id) 1 (fun _ => 0)) (atO (f_findPrint σ id) 0 (fun k => FP.ddiv FP.dconst1 (FP.dadd FP.dconst1 (FP.i2d (σ (9 + k) 8)))) = atO (m_find (μ 1) n id) FP.dconst0 (fun k => FP.ddiv FP.dconst1 (FP.dadd FP.dconst1 (FP.i2d (gP (μ 1) k 7))))) :=
  AG.print h id fun k hk e1 e2 => by
    rw [e1, e2]
    show FP.ddiv FP.dconst1 (FP.dadd FP.dconst1 (FP.i2d (σ (9 + pi k) 8))) = FP.ddiv FP.dconst1 (FP.dadd FP.dconst1 (FP.i2d (gP (μ 1) k 7)))
    rw [(h.pe hk).2.2.2.2.2.2.2.1]
/-- a second look that may fail -/
theorem AG.print2 (h : BR σ (μ 1) B n t pi ro) (id : Int32) {F G : Nat → Option Nat} {ok : Prop} (hFG : ∀ k, k < n → F (pi k) = (G k).map pi) (hok : ∀ k j, k < n → f_findPrint σ id = some (pi k) → m_find (μ 1) n id = some k → G k = some j → ok) : AG [eIOO, eNSE] ((f_xPrint σ id).or (atO (f_findPrint σ id) none (fun k => f_xFound (F k)))) (atO (m_find (μ 1) n id) 1 (fun k => atO (G k) 2 (fun _ => 0))) ok := by
  unfold f_xPrint
  rcases h.fp id with ⟨e1, e2⟩ | ⟨k, hk, e1, e2⟩
  · rw [e1, e2]; exact AG.thr kC_1
  · rw [e1, e2]
    show AG [eIOO, eNSE] (f_xFound (F (pi k))) (atO (G k) 2 (fun _ => 0)) ok
    rw [hFG k hk]
    rcases hg : G k with _ | j
    · exact AG.thr (kC_2 ne_NI)
    · exact AG.ok (hok k j hk e1 e2 hg)
theorem ag_prev (h : BR σ (μ 1) B n t pi ro) (id : Int32) : AG [eIOO, eNSE] ((f_xPrint σ id).or (atO (f_findPrint σ id) none (fun k => f_xFound (f_before σ k)))) (atO (m_find (μ 1) n id) 1 (fun k => atO (m_bes (μ 1) n k false) 2 (fun _ => 0))) (atO (f_findPrint σ id) 0 (fun k => atO (f_before σ k) 0 (fun j => σ (9 + j) 1)) = atO (m_find (μ 1) n id) 0 (fun k => atO (m_bes (μ 1) n k false) 0 (fun j => gP (μ 1) j 0))) :=
  AG.print2 h id (G := fun k => m_bes (μ 1) n k false) (fun k hk => h.before hk) fun k j hk e1 e2 e3 => by
    rw [e1, e2]
    show atO (f_before σ (pi k)) 0 (fun j => σ (9 + j) 1) = atO (m_bes (μ 1) n k false) 0 (fun j => gP (μ 1) j 0)
    rw [h.before hk, show m_bes (μ 1) n k false = some j from e3]
    exact (h.pe (m_bes_lt e3)).1.symm
theorem ag_next (h : BR σ (μ 1) B n t pi ro) (id : Int32) : AG [eIOO, eNSE] ((f_xPrint σ id).or (atO (f_findPrint σ id) none (fun k => f_xFound (f_after σ k)))) (atO (m_find (μ 1) n id) 1 (fun k => atO (m_bes (μ 1) n k true) 2 (fun _ => 0))) (atO (f_findPrint σ id) 0 (fun k => atO (f_after σ k) 0 (fun j => σ (9 + j) 1)) = atO (m_find (μ 1) n id) 0 (fun k => atO (m_bes (μ 1) n k true) 0 (fun j => gP (μ 1) j 0))) :=
  AG.print2 h id (G := fun k => m_bes (μ 1) n k true) (fun k hk => h.after hk) fun k j hk e1 e2 e3 => by
    rw [e1, e2]
    show atO (f_after σ (pi k)) 0 (fun j => σ (9 + j) 1) = atO (m_bes (μ 1) n k true) 0 (fun j => gP (μ 1) j 0)
    rw [h.after hk, show m_bes (μ 1) n k true = some j from e3]
    exact (h.pe (m_bes_lt e3)).1.symm
theorem ag_stride (h : BR σ (μ 1) B n t pi ro) (id : Int32) : AG [eIOO, eNSE] ((f_xPrint σ id).or (atO (f_findPrint σ id) none (fun k => f_xFound (f_before σ k)))) (atO (m_find (μ 1) n id) 1 (fun k => atO (m_bes (μ 1) n k false) 2 (fun _ => 0))) (atO (f_findPrint σ id) 0 (fun k => atO (f_before σ k) 0 (fun j => f_dist σ (9 + k) (σ (9 + j) 4) (σ (9 + j) 5))) = atO (m_find (μ 1) n id) 0 (fun k => atO (m_bes (μ 1) n k false) 0 (fun _ => m_stride (μ 1) n k))) :=
  AG.print2 h id (G := fun k => m_bes (μ 1) n k false) (fun k hk => h.before hk) fun k j hk e1 e2 e3 => by
    rw [e1, e2]
    show atO (f_before σ (pi k)) 0 (fun j => f_dist σ (9 + pi k) (σ (9 + j) 4) (σ (9 + j) 5)) = atO (m_bes (μ 1) n k false) 0 (fun _ => m_stride (μ 1) n k)
    rw [h.before hk, show m_bes (μ 1) n k false = some j from e3]
    exact (h.strideV hk (m_bes_lt e3)).trans (m_stride_some e3).symm
theorem ag_err (h : BR σ (μ 1) B n t pi ro) (id z : Int32) {F : Nat → Bool} (hF : ∀ k, k < n → F (pi k) = m_err (μ 1) n t k z) : AG [eIOO] (f_xPrint σ id) (atO (m_find (μ 1) n id) 1 (fun _ => 0)) (b2i (atO (f_findPrint σ id) false F) = b2i (atO (m_find (μ 1) n id) false (fun k => m_err (μ 1) n t k z))) :=
  AG.print h id fun k hk e1 e2 => by rw [e1, e2]; exact congrArg b2i (hF k hk)
theorem ag_maxS (h : BR σ (μ 1) B n t pi ro) (id : Int32) : AG [eIOO] (f_xTrack σ id) (atO (m_ft (μ 1) t id) 1 (fun _ => 0)) (atO (f_findTrack σ id) 0 (fun k => σ (3 + k) 2) = atO (m_ft (μ 1) t id) 0 (fun k => gS (μ 1) k)) :=
  AG.track h id fun k hk e1 e2 _ => by rw [e1, e2]; exact (h.ts hk).symm
theorem ag_cnt (h : BR σ (μ 1) B n t pi ro) (id : Int32) : AG [eIOO] (f_xTrack σ id) (atO (m_ft (μ 1) t id) 1 (fun _ => 0)) (atO (f_findTrack σ id) 0 (fun k => f_countPrints σ k) = atO (m_ft (μ 1) t id) 0 (fun _ => m_count (μ 1) n id)) :=
  AG.track h id fun k hk e1 e2 e3 => by
    rw [e1, e2]
    show f_countPrints σ (ro k) = m_count (μ 1) n id
    rw [h.count hk, e3]
theorem ag_len (h : BR σ (μ 1) B n t pi ro) (id : Int32) {F : Nat → Int32} (hF : ∀ k, k < t → F (ro k) = m_len (μ 1) n (gT (μ 1) k)) : AG [eIOO] (f_xTrack σ id) (atO (m_ft (μ 1) t id) 1 (fun _ => 0)) (atO (f_findTrack σ id) 0 F = atO (m_ft (μ 1) t id) 0 (fun _ => m_len (μ 1) n id)) :=
  AG.track h id fun k hk e1 e2 e3 => by
    rw [e1, e2]
    show F (ro k) = m_len (μ 1) n id
    rw [hF k hk, e3]
theorem ag_errs (h : BR σ (μ 1) B n t pi ro) (id : Int32) {F : Nat → Int32} (hF : ∀ k, k < t → F (ro k) = m_errs (μ 1) n t (gT (μ 1) k)) : AG [eIOO] (f_xTrack σ id) (atO (m_ft (μ 1) t id) 1 (fun _ => 0)) (atO (f_findTrack σ id) 0 F = atO (m_ft (μ 1) t id) 0 (fun _ => m_errs (μ 1) n t id)) :=
  AG.track h id fun k hk e1 e2 e3 => by
    rw [e1, e2]
    show F (ro k) = m_errs (μ 1) n t id
    rw [hF k hk, e3]
theorem BR.po2 (h : BR σ (μ 1) B n t pi ro) {r : Nat} (hr : r < t) {q : Int32} (hq : m_in q 0 (m_count (μ 1) n (gT (μ 1) r) - 1) = true) : ∃ k, m_po (μ 1) n (gT (μ 1) r) q = some k ∧ k < n := by
  unfold m_in at hq
  rw [Bool.and_eq_true, decide_eq_true_eq, decide_eq_true_eq] at hq
  have hc := cntN_le (tA (μ 1) (gT (μ 1) r)) n
  have hn := h.n30
  rw [m_count_N] at hq
  have h0 : 0 < cntN (tA (μ 1) (gT (μ 1) r)) n := by
    rcases Nat.eq_zero_or_pos (cntN (tA (μ 1) (gT (μ 1) r)) n) with z | z
    · rw [z] at hq
      exact absurd (Int32.le_trans hq.1 hq.2) (by decide)
    · exact z
  rw [show nI (cntN (tA (μ 1) (gT (μ 1) r)) n) - 1 = nI (cntN (tA (μ 1) (gT (μ 1) r)) n - 1) from nI_subE rfl rfl (by omega)] at hq
  obtain ⟨p, hp, e⟩ := nI_of2 (M := nI (cntN (tA (μ 1) (gT (μ 1) r)) n - 1)) (n := cntN (tA (μ 1) (gT (μ 1) r)) n - 1) (nI_toInt (by omega)) (Int32.not_lt.mpr hq.1) hq.2
  obtain ⟨k, hk, hkn, -⟩ := h.vx.po hn (gT (μ 1) r) (q := p) (by omega)
  exact ⟨k, by rw [e]; exact hk, hkn⟩
theorem ag_at (h : BR σ (μ 1) B n t pi ro) (id q : Int32) : AG [eIOO, eNSE] ((f_xTrack σ id).or (atO (f_findTrack σ id) none (fun k => f_xFound (f_inPlace σ k q)))) (atO (m_ft (μ 1) t id) 1 (fun _ => if m_in q 0 (m_count (μ 1) n id - 1) = true then 0 else 2)) (atO (f_findTrack σ id) 0 (fun k => atO (f_inPlace σ k q) 0 (fun j => σ (9 + j) 1)) = atO (m_ft (μ 1) t id) 0 (fun _ => if m_in q 0 (m_count (μ 1) n id - 1) = true then m_pv (μ 1) (m_po (μ 1) n id q) 0 else 0)) := by
  unfold f_xTrack
  rcases h.ft id with ⟨e1, e2⟩ | ⟨k, hk, e1, e2, e3⟩
  · rw [e1, e2]; exact AG.thr kC_1
  · rw [e1, e2]
    show AG [eIOO, eNSE] (f_xFound (f_inPlace σ (ro k) q)) (if m_in q 0 (m_count (μ 1) n id - 1) = true then 0 else 2) (atO (f_inPlace σ (ro k) q) 0 (fun j => σ (9 + j) 1) = (if m_in q 0 (m_count (μ 1) n id - 1) = true then m_pv (μ 1) (m_po (μ 1) n id q) 0 else 0))
    rw [h.po hk, ← e3]
    by_cases hq : m_in q 0 (m_count (μ 1) n (gT (μ 1) k) - 1) = true
    · obtain ⟨j, hj, hjn⟩ := h.po2 hk hq
      rw [if_pos hq, if_pos hq, hj]
      exact AG.ok (h.pe hjn).1.symm
    · rw [if_neg hq, if_neg hq, h.vx.po_none h.n30 (by simpa using hq)]
      exact AG.thr (kC_2 ne_NI)
theorem ag_dur (h : BR σ (μ 1) B n t pi ro) (id : Int32) : AG [eIOO, eNSE] ((f_xTrack σ id).or (atO (f_findTrack σ id) none (fun k => (f_xFound (f_inPlace σ k 0)).or (f_xFound (f_inPlace σ k (f_countPrints σ k - 1)))))) (atO (m_ft (μ 1) t id) 1 (fun _ => if m_count (μ 1) n id = 0 then 2 else 0)) (atO (f_findTrack σ id) 0 (fun k => atO (f_inPlace σ k 0) 0 (fun a => atO (f_inPlace σ k (f_countPrints σ k - 1)) 0 (fun b => σ (9 + b) 3 - σ (9 + a) 3))) = atO (m_ft (μ 1) t id) 0 (fun _ => if m_count (μ 1) n id = 0 then 0 else m_pv (μ 1) (m_po (μ 1) n id (m_count (μ 1) n id - 1)) 2 - m_pv (μ 1) (m_po (μ 1) n id 0) 2)) := by
  unfold f_xTrack
  rcases h.ft id with ⟨e1, e2⟩ | ⟨k, hk, e1, e2, e3⟩
  · rw [e1, e2]; exact AG.thr kC_1
  · rw [e1, e2]
    show AG [eIOO, eNSE] ((f_xFound (f_inPlace σ (ro k) 0)).or (f_xFound (f_inPlace σ (ro k) (f_countPrints σ (ro k) - 1)))) (if m_count (μ 1) n id = 0 then 2 else 0) (atO (f_inPlace σ (ro k) 0) 0 (fun a => atO (f_inPlace σ (ro k) (f_countPrints σ (ro k) - 1)) 0 (fun b => σ (9 + b) 3 - σ (9 + a) 3)) = (if m_count (μ 1) n id = 0 then 0 else m_pv (μ 1) (m_po (μ 1) n id (m_count (μ 1) n id - 1)) 2 - m_pv (μ 1) (m_po (μ 1) n id 0) 2))
    rw [h.po hk, h.po hk, h.count hk, ← e3]
    obtain ⟨c, hc, ec⟩ := m_count_nat (f := μ 1) h.n30 (gT (μ 1) k)
    by_cases q : m_count (μ 1) n (gT (μ 1) k) = 0
    · rw [if_pos q, if_pos q, h.vx.po_none h.n30 (q := 0) (by rw [q]; decide)]
      exact AG.thr (kC_2 ne_NI)
    · have hc0 : c ≠ 0 := fun z => q (by rw [ec, z]; decide)
      have h1 : m_in 0 0 (m_count (μ 1) n (gT (μ 1) k) - 1) = true := by
        rw [ec, show nI c - 1 = nI (c - 1) from nI_subE rfl rfl (by omega)]
        unfold m_in
        rw [decide_eq_true (nI_pos' (by omega))]; decide
      have h2 : m_in (m_count (μ 1) n (gT (μ 1) k) - 1) 0 (m_count (μ 1) n (gT (μ 1) k) - 1) = true := by
        rw [ec, show nI c - 1 = nI (c - 1) from nI_subE rfl rfl (by omega)]
        unfold m_in
        rw [decide_eq_true (nI_pos' (by omega)), decide_eq_true (Int32.le_refl _)]; rfl
      obtain ⟨a, ha, han⟩ := h.po2 hk h1
      obtain ⟨b, hb, hbn⟩ := h.po2 hk h2
      rw [if_neg q, if_neg q, ha, hb]
      refine AG.ok ?_
      show σ (9 + pi b) 3 - σ (9 + pi a) 3 = gP (μ 1) b 2 - gP (μ 1) a 2
      rw [(h.pe han).2.2.1, (h.pe hbn).2.2.1]
theorem ag_avg (h : BR σ (μ 1) B n t pi ro) (id : Int32) : AG [eIOO, eARE] ((f_xTrack σ id).or (atO (f_findTrack σ id) none (fun k => if f_countPrints σ k - 1 < 1 then some (eARE, none) else none))) (atO (m_ft (μ 1) t id) 1 (fun _ => if m_count (μ 1) n id < 2 then 2 else 0)) (atO (f_findTrack σ id) 0 (fun k => FP.ddiv (FP.i2d (f_len σ k)) (FP.i2d (f_countPrints σ k - 1))) = atO (m_ft (μ 1) t id) FP.dconst0 (fun _ => if m_count (μ 1) n id < 2 then FP.dconst0 else FP.ddiv (FP.i2d (m_len (μ 1) n id)) (FP.i2d (m_count (μ 1) n id - 1)))) := by
  unfold f_xTrack
  rcases h.ft id with ⟨e1, e2⟩ | ⟨k, hk, e1, e2, e3⟩
  · rw [e1, e2]; exact AG.thr kC_1
  · rw [e1, e2]
    show AG [eIOO, eARE] (if f_countPrints σ (ro k) - 1 < 1 then some (eARE, none) else none) (if m_count (μ 1) n id < 2 then 2 else 0) (FP.ddiv (FP.i2d (f_len σ (ro k))) (FP.i2d (f_countPrints σ (ro k) - 1)) = (if m_count (μ 1) n id < 2 then FP.dconst0 else FP.ddiv (FP.i2d (m_len (μ 1) n id)) (FP.i2d (m_count (μ 1) n id - 1))))
    rw [h.count hk, h.len hk, e3]
    obtain ⟨c, hc, ec⟩ := m_count_nat (f := μ 1) h.n30 id
    have hiff : m_count (μ 1) n id - 1 < 1 ↔ m_count (μ 1) n id < 2 := by
      rw [ec]
      rcases Nat.eq_zero_or_pos c with z | z
      · rw [z]; decide
      · rw [show nI c - 1 = nI (c - 1) from nI_subE rfl rfl (by omega)]
        have q1 := nI_ltI (a := c - 1) (b := 1) (by omega) (by decide)
        have q2 := nI_ltI (a := c) (b := 2) (by omega) (by decide)
        exact ⟨fun w => q2.mpr (by have := q1.mp w; omega), fun w => q1.mpr (by have := q2.mp w; omega)⟩
    by_cases q : m_count (μ 1) n id < 2
    · rw [if_pos (hiff.mpr q), if_pos q, if_pos q]; exact AG.thr (kC_2 ne_AI)
    · rw [if_neg (fun w => q (hiff.mp w)), if_neg q, if_neg q]; exact AG.ok rfl
/-! cells, rows, levels -/
theorem cell_ok {r c1 : Int32} : f_isCell r c1 = m_isCell r c1 := by
  unfold f_isCell f_isRow m_isCell m_in
  have h1 : ∀ x : Int32, (x < 10) ↔ (x ≤ 9) := fun x => ⟨fun z => Int32.not_lt.mp (fun w => by
    have a1 := Int32.lt_iff_toInt_lt.mp z
    have a2 := Int32.lt_iff_toInt_lt.mp w
    have a3 : (10 : Int32).toInt = 10 := by decide
    have a4 : (9 : Int32).toInt = 9 := by decide
    omega), fun z => Int32.lt_of_le_of_lt z (by decide)⟩
  have h2 : ∀ x : Int32, (x < 20) ↔ (x ≤ 19) := fun x => ⟨fun z => Int32.not_lt.mp (fun w => by
    have a1 := Int32.lt_iff_toInt_lt.mp z
    have a2 := Int32.lt_iff_toInt_lt.mp w
    have a3 : (20 : Int32).toInt = 20 := by decide
    have a4 : (19 : Int32).toInt = 19 := by decide
    omega), fun z => Int32.lt_of_le_of_lt z (by decide)⟩
  rw [decide_eq_decide.mpr (h1 r), decide_eq_decide.mpr (h2 c1), Bool.and_assoc]
theorem row_in {r : Int32} : f_isRow r = m_in r 0 9 := by
  have h := cell_ok (r := r) (c1 := 0)
  unfold f_isCell m_isCell at h
  have a1 : decide ((0 : Int32) ≤ 0) = true := by decide
  have a2 : decide ((0 : Int32) < 20) = true := by decide
  have a3 : m_in 0 0 19 = true := by decide
  rw [a1, a2, a3, Bool.and_true, Bool.and_true, Bool.and_true] at h
  exact h
theorem in_in {a b x : Int32} : f_in a b x = m_in x a b := rfl
theorem cell_rng {r c1 : Int32} (h : m_isCell r c1 = true) : (0 ≤ r ∧ r ≤ 9) ∧ (0 ≤ c1 ∧ c1 ≤ 19) := by
  unfold m_isCell m_in at h
  rw [Bool.and_eq_true, Bool.and_eq_true, Bool.and_eq_true, decide_eq_true_eq, decide_eq_true_eq, decide_eq_true_eq, decide_eq_true_eq] at h
  exact h
theorem ag_eim (h : BR σ (μ 1) B n t pi ro) (hB : B < 1000000) (id r c1 : Int32) : AG [eIOO] ((f_xPrint σ id).or (f_xCell r c1)) (atO (m_find (μ 1) n id) 1 (fun _ => if m_isCell r c1 = true then 0 else 1)) (atO (f_findPrint σ id) 0 (fun k => f_errsW σ k r c1) = atO (m_find (μ 1) n id) 0 (fun k => if m_isCell r c1 = true then m_there (μ 1) n t k r c1 else 0)) := by
  unfold f_xPrint f_xCell
  rw [cell_ok]
  rcases h.fp id with ⟨e1, e2⟩ | ⟨k, hk, e1, e2⟩
  · rw [e1, e2]; exact AG.thr kC_1
  · rw [e1, e2]
    show AG [eIOO] (if m_isCell r c1 = true then none else some (eIOO, none)) (if m_isCell r c1 = true then 0 else 1) (f_errsW σ (pi k) r c1 = (if m_isCell r c1 = true then m_there (μ 1) n t k r c1 else 0))
    by_cases q : m_isCell r c1 = true
    · rw [if_pos q, if_pos q, if_pos q]
      obtain ⟨q1, q2⟩ := cell_rng q
      exact AG.ok (h.errsW hk q1 q2 (by omega))
    · rw [if_neg q, if_neg q]; exact AG.thr kC_1
theorem ag_can (h : BR σ (μ 1) B n t pi ro) (hB : B < 1000000) (id r c1 : Int32) : AG [eIOO] ((f_xPrint σ id).or (f_xCell r c1)) (atO (m_find (μ 1) n id) 1 (fun _ => if m_isCell r c1 = true then 0 else 1)) (b2i (atO (f_findPrint σ id) false (fun k => (f_objMove σ k r c1).isNone)) = b2i (atO (m_find (μ 1) n id) false (fun k => m_isCell r c1 && m_may (μ 1) n k r c1))) := by
  unfold f_xPrint f_xCell
  rw [cell_ok]
  rcases h.fp id with ⟨e1, e2⟩ | ⟨k, hk, e1, e2⟩
  · rw [e1, e2]; exact AG.thr kC_1
  · rw [e1, e2]
    show AG [eIOO] (if m_isCell r c1 = true then none else some (eIOO, none)) (if m_isCell r c1 = true then 0 else 1) (b2i (f_objMove σ (pi k) r c1).isNone = b2i (m_isCell r c1 && m_may (μ 1) n k r c1))
    by_cases q : m_isCell r c1 = true
    · rw [if_pos q, if_pos q, q, Bool.true_and, h.objM hB hk, m_may_obj]
      exact AG.ok rfl
    · rw [if_neg q, if_neg q]; exact AG.thr kC_1
theorem ag_sug (h : BR σ (μ 1) B n t pi ro) (hB : B < 1000000) (id : Int32) : AG [eIOO] (f_xPrint σ id) (atO (m_find (μ 1) n id) 1 (fun _ => 0)) (atO (f_findPrint σ id) 0 (fun k => f_best σ k) = atO (m_find (μ 1) n id) 0 (fun k => m_sug (μ 1) n t k)) :=
  AG.print h id fun k hk e1 e2 => by rw [e1, e2]; exact h.best hB hk
theorem ag_tbe (h : BR σ (μ 1) B n t pi ro) (q : Int32) : AG [eNSE] (f_xFound (fstI (P_tbe σ q) 6)) (atO (fstI (mP_te (μ 1) n t q) t) 1 (fun _ => 0)) (atO (fstI (P_tbe σ q) 6) 0 (fun k => σ (3 + k) 1) = atO (fstI (mP_te (μ 1) n t q) t) 0 (fun k => gT (μ 1) k)) := by
  rw [h.byErrors]
  rcases hq : fstI (mP_te (μ 1) n t q) t with _ | k
  · exact AG.thr kC_1
  · exact AG.ok (h.tid (fstI_some hq).1).symm
theorem ag_pbd (h : BR σ (μ 1) B n t pi ro) (q : Int32) : AG [eNSE] (f_xFound (fstI (P_pbd σ q) 30)) (atO (fstI (mP_pd (μ 1) n q) n) 1 (fun _ => 0)) (atO (fstI (P_pbd σ q) 30) 0 (fun k => σ (9 + k) 1) = atO (fstI (mP_pd (μ 1) n q) n) 0 (fun k => gP (μ 1) k 0)) := by
  rw [h.byDoubts]
  rcases hq : fstI (mP_pd (μ 1) n q) n with _ | k
  · exact AG.thr kC_1
  · exact AG.ok (h.pe (fstI_some hq).1).1.symm
theorem ag_in (h : BR σ (μ 1) B n t pi ro) (hB : B < 1000000) (r c1 : Int32) : AG [eIOO, eNSE] ((f_xCell r c1).or (f_xFound (f_inCell σ r c1))) (if m_isCell r c1 = true then atO (m_cell (μ 1) n r c1) 2 (fun _ => 0) else 1) (atO (f_inCell σ r c1) 0 (fun k => σ (9 + k) 1) = (if m_isCell r c1 = true then atO (m_cell (μ 1) n r c1) 0 (fun k => gP (μ 1) k 0) else 0)) := by
  unfold f_xCell
  rw [cell_ok]
  by_cases q : m_isCell r c1 = true
  · rw [if_pos q, if_pos q, if_pos q, h.cell hB]
    rcases hq : m_cell (μ 1) n r c1 with _ | k
    · exact AG.thr (kC_2 ne_NI)
    · exact AG.ok (h.pe (m_cell_lt hq)).1.symm
  · rw [if_neg q, if_neg q]; exact AG.thr kC_1
theorem ag_row (h : BR σ (μ 1) B n t pi ro) (r : Int32) : AG [eIOO] (f_xRow r) (b2i (!m_in r 0 9)) (f_countPrintsInRows σ r (r + 1) = (if m_in r 0 9 = true then m_below (μ 1) n (r + 1) - m_below (μ 1) n r else 0)) := by
  unfold f_xRow
  rw [row_in]
  by_cases q : m_in r 0 9 = true
  · rw [if_pos q, if_pos q, q]
    have q2 := q
    unfold m_in at q2
    rw [Bool.and_eq_true, decide_eq_true_eq, decide_eq_true_eq] at q2
    exact AG.ok (h.inRow q2.1 q2.2)
  · rw [if_neg q, show m_in r 0 9 = false by simpa using q]; exact AG.thr kC_1
theorem ag_era (h : BR σ (μ 1) B n t pi ro) (v : Int32) : AG [eIAE] (f_xLevel v) (b2i (!m_in v 0 8)) (f_countPrintsInRows σ 0 v = (if m_in v 0 8 = true then m_below (μ 1) n v else 0)) := by
  unfold f_xLevel
  rw [in_in]
  by_cases q : m_in v 0 8 = true
  · rw [if_pos q, if_pos q, q]; exact AG.ok (h.below v)
  · rw [if_neg q, show m_in v 0 8 = false by simpa using q]; exact AG.thr kC_1
theorem ag_late (h : BR σ (μ 1) B n t pi ro) : AG [eARE] (f_xAr (f_countPrintsInRows σ 0 10 == 0)) (if 0 < nI n then 0 else 1) (FP.fdiv (FP.i2f (f_countLatePrints σ)) (FP.i2f (f_countPrintsInRows σ 0 10)) = (if 0 < nI n then FP.fdiv (FP.i2f (sumI (mF_late (μ 1)) n)) (FP.i2f (nI n)) else FP.fconst0)) := by
  have hn := h.n30
  rw [h.all, h.late]
  unfold f_xAr
  rcases Nat.eq_zero_or_pos n with q | q
  · subst q
    rw [if_pos (by decide), if_neg (by decide)]
    exact AG.thr kC_1
  · have h1 : (0 : Int32) < nI n := nI_lt (a := 0) q (by omega)
    rw [if_neg (fun z => by
      have := beq_iff_eq.mp z
      rw [this] at h1
      exact absurd h1 (by decide)), if_pos h1, if_pos h1]
    exact AG.ok rfl
end AGS
