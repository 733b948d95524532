/-! the changes as calls -/
section PUSH
variable {σ : Nat → Nat → Int32} {pm : Nat → Nat}
theorem push_k {b k j : Nat} (h7 : pm 7 ≤ 8) (hk : 429 ≤ k) (hj : ¬ (k = 431 ∧ j = 1)) : f_push σ pm b k j = σ k j := by
  unfold f_push f_copyB
  rw [sp_st_at, if_neg hj, if_neg (by omega)]
theorem push_c {b : Nat} : f_push σ pm b 431 1 = imin (σ 431 1 + 1) 8 := by unfold f_push; exact sp_st_s _ _ _ _
theorem push_old {b k j : Nat} (h7 : pm 7 ≤ 8) (hk : k < 39) : f_push σ pm b (39 * pm 7 + k) j = σ (39 * b + k) j := by
  unfold f_push f_copyB
  rw [sp_st_at, if_neg (by omega), if_pos (by omega)]
  congr 1; omega
theorem push_keep {b c k j : Nat} (hb : b ≠ pm 7) (hb2 : b ≤ 10) (hk : k < 39) : f_push σ pm c (39 * b + k) j = σ (39 * b + k) j := by
  unfold f_push f_copyB
  rw [sp_st_at, if_neg (by omega), if_neg (by omega)]
theorem push_0 {b k j : Nat} (h7 : 1 ≤ pm 7) (hk : k < 39) : f_push σ pm b k j = σ k j := by
  unfold f_push f_copyB
  rw [sp_st_at, if_neg (by omega), if_neg (by omega)]
end PUSH
theorem m_ends_0 {τ : Nat → Nat → Int32} {ch : Nat} {z p1 p2 p3 : Int32} (hc : ch ≤ 8) : m_ends τ ch z p1 p2 p3 0 0 = m_endv z p1 p2 p3 := by
  unfold m_ends
  split
  · rw [m_done_k hc (by decide), if_neg (by decide), sp_st_s]
  · rw [m_copy_k (by decide), sp_st_s]
/-- a call that changes: the code; on success the answer and the new worlds; else the old ones, with the rejection -/
def CHG (L : List String) (x : XO) (B B' : Nat) (σ ς : Nat → Nat → Int32) (pm : Nat → Nat) (rc : Option RC) (ρ : Nat → Nat → Int32) (ok : Prop) : Prop := ρ 0 0 = kC L x ∧ (x = none → ok ∧ RR B' ς (pm_push pm) rc ρ) ∧ ∀ E r, x = some (E, r) → RR B σ pm (r.or rc) ρ
section CHS
variable {σ ς μ τ : Nat → Nat → Int32} {B n t ch : Nat} {pi ro pm : Nat → Nat} {rc : Option RC}
theorem CHG.fail {L : List String} {x : XO} {E : String} {r : Option RC} {B' : Nat} {z p1 p2 p3 v : Int32} {ok : Prop} (h : RR B σ pm rc μ) (hB : B < 1000000) (hc : ch ≤ 8) (hx : x = some (E, r)) (hF : MF (m_copy μ 0 10) τ) (h1 : ∀ j, 289 ≤ j → τ 1 j = m_copy μ 0 10 1 j) (hj : RJ (r.or rc) τ) (hv : m_endv z p1 p2 p3 = v) (hk : kC L x = v) (hv0 : v ≠ 0) : CHG L x B B' σ ς pm rc (m_ends τ ch z p1 p2 p3) ok := by
  refine ⟨by rw [m_ends_0 hc, hv, hk], fun q => by (rw [hx] at q; cases q), fun E9 r9 q => ?_⟩
  rw [hx] at q
  cases q
  unfold m_ends
  rw [hv, if_neg hv0]
  exact h.fail hB hF h1 hj v
theorem CHG.succ {L : List String} {x : XO} {B' : Nat} {z p1 p2 p3 : Int32} {ok : Prop} (h : RR B σ pm rc μ) (hch : μ 0 2 = nI ch) (hc : ch ≤ 8) (hB : B ≤ B') (hB2 : B' < 1000000) (hx : x = none) (hout : ∀ k j, 39 ≤ k → ς k j = f_push σ pm 0 k j) (hbe : BE ς (τ 1) B') (hF : MF (m_copy μ 0 10) τ) (h1 : ∀ j, 289 ≤ j → τ 1 j = m_copy μ 0 10 1 j) (h5 : ∀ j, 5 ≤ j → j ≤ 8 → τ 0 j = μ 0 j) (hv : m_endv z p1 p2 p3 = 0) (hok : ok) : CHG L x B B' σ ς pm rc (m_ends τ ch z p1 p2 p3) ok := by
  refine ⟨by rw [m_ends_0 hc, hv, hx]; rfl, fun _ => ⟨hok, ?_⟩, fun E9 r9 q => by (rw [hx] at q; cases q)⟩
  unfold m_ends
  rw [hv, if_pos rfl]
  obtain ⟨a, ⟨hist, p1', p2'⟩, s, j, o, i, e, hh⟩ := h
  have h7 := p1' 7 (by decide)
  have hFk : ∀ k j, k ≠ 1 → ¬ (k = 0 ∧ 4 ≤ j ∧ j ≤ 7) → τ k j = μ k j := fun k j q1 q2 => by rw [hF k j (by unfold mfx; omega), m_copy_k q1]
  exact RR.done ⟨a, ⟨hist, p1', p2'⟩, s, j, o, i, e, hh⟩ hch hc hB hB2 hbe (fun j hj => hFk 0 j (by decide) (by omega)) h1 (by rw [hout _ _ (by decide), push_c]) (fun k j hk => by rw [hout _ _ (by omega), push_old h7.2 hk]; congr 1; omega) (fun b k j hb1 hb2 hb3 hk => by rw [hout _ _ (by omega), push_keep hb3 (by omega) hk]) (by rw [hout _ _ (by decide), push_k h7.2 (by decide) (by decide)]) (j.congr h5) (o.congr (hFk 0 10 (by decide) (by decide)) (fun j => hFk 2 j (by decide) (by omega)) (by rw [hout _ _ (by decide), push_k h7.2 (by decide) (by decide)]) (fun j => by rw [hout _ _ (by decide), push_k h7.2 (by decide) (by omega)])) (i.congr (hFk 0 12 (by decide) (by decide)) (fun j => hFk 3 j (by decide) (by omega)) (by rw [hout _ _ (by decide), push_k h7.2 (by decide) (by decide)]) (fun j => by rw [hout _ _ (by decide), push_k h7.2 (by decide) (by omega)])) (by rw [hFk 0 15 (by decide) (by decide), hout _ _ (by decide), push_k h7.2 (by decide) (by decide)]; exact e) (by rw [hFk 0 13 (by decide) (by decide)]; exact hh)
/-- the two worlds as a change finds them -/
theorem RR.brs (h : RR B σ pm rc μ) (hB : B < 1000000) (hbr : BR σ (μ 1) B n t pi ro) : BR σ (m_copy μ 0 10 1) B n t pi ro ∧ BR (f_push σ pm 0) (m_copy μ 0 10 1) B n t pi ro := by
  have h7 := h.2.1.2.1 7 (by decide)
  exact ⟨hbr.congr (fun _ _ _ => rfl) (fun j hj => m_copy1 (by omega)) (Nat.le_refl B) hB, hbr.congr (fun k j hk => push_0 h7.1 hk) (fun j hj => m_copy1 (by omega)) (Nat.le_refl B) hB⟩
theorem RR.rj0 (h : RR B σ pm rc μ) : RJ rc (m_copy μ 0 10) := h.2.2.2.1.congr (fun j _ _ => m_copy_k (by decide))
theorem rej_J {ρ : Nat → Nat → Int32} {x y : Int32} (hx : x ≠ 0) : RJ (((some (x, y, none) : Option RC)).or rc) (m_rej ρ x y) := by
  show m_rej ρ x y 0 5 = x ∧ x ≠ 0 ∧ m_rej ρ x y 0 6 = y ∧ m_rej ρ x y 0 7 = 0
  unfold m_rej
  refine ⟨?_, hx, ?_, sp_st_s _ _ _ _⟩
  · rw [sp_st_j _ _ _ _ _ _ (by decide), sp_st_j _ _ _ _ _ _ (by decide), sp_st_s]
  · rw [sp_st_j _ _ _ _ _ _ (by decide), sp_st_s]
theorem rej_1 {ρ : Nat → Nat → Int32} {x y : Int32} {j : Nat} : m_rej ρ x y 1 j = ρ 1 j := by
  unfold m_rej
  rw [sp_st_k _ _ _ _ _ _ (by decide), sp_st_k _ _ _ _ _ _ (by decide), sp_st_k _ _ _ _ _ _ (by decide)]
theorem goes_hi {ρ : Nat → Nat → Int32} {a j : Nat} (hn : n ≤ 30) (ha : a < n) (hj : 289 ≤ j) : m_goes ρ n a 1 j = ρ 1 j := by
  unfold m_goes
  rw [sp_st_j _ _ _ _ _ _ (by omega)]
  unfold m_g2 m_g1
  rw [if_neg (by omega), if_neg (by omega)]
theorem rm_hi {P : (Nat → Nat → Int32) → Nat → Bool} {ρ : Nat → Nat → Int32} {j : Nat} (hms : MS (ρ 1) n t) (hj : 289 ≤ j) : ∀ i : Nat, i ≤ n → (m_rm P n ρ i).2 1 j = ρ 1 j
  | 0, _ => rfl
  | i + 1, hi => by
    have ih := rm_hi (P := P) hms hj i (by omega)
    obtain ⟨m1, m2⟩ := m_rm_ok (P := P) hms i (by omega)
    rw [m_rm_s]
    unfold S_rm
    by_cases hc : P (m_rm P n ρ i).2 (n - 1 - i) = true
    · rw [if_pos hc]
      show m_goes _ _ _ 1 j = _
      rw [goes_hi m1.2.1 (by omega) hj, ih]
    · rw [if_neg hc]; exact ih
theorem ch_addTrack (h : RR B σ pm rc μ) (hbr : BR σ (μ 1) B n t pi ro) (hch : μ 0 2 = nI ch) (hc : ch ≤ 8) (hB : B + 1 < 1000000) (z : Int32) : CHG [eIAE, eUOE] ((f_xIn (f_in 1 9 z)).or (f_xRej (f_objTrack σ))) B (B + 1) σ (f_putT (f_push σ pm 0) z) pm rc (m_ends (m_addT (m_copy μ 0 10) t z) ch (m_addTv t z) 0 1 2) (f_putTv (f_push σ pm 0) = m_endr (m_addT (m_copy μ 0 10) t z) (m_addTv t z) 0 1 2) := by
  obtain ⟨hS, hp⟩ := h.brs (by omega) hbr
  have ht := hbr.t6
  unfold m_addT m_addTv f_xIn
  rw [in_in, hS.objT]
  by_cases q : m_in z 1 9 = true
  · rw [if_pos q, if_pos q, if_pos q]
    by_cases q6 : nI t = 6
    · rw [if_pos q6, if_pos q6, if_pos q6]
      exact CHG.fail (E := eUOE) (r := some (1, 6, none)) h (by omega) hc rfl MF.rf.rej (fun j _ => rej_1) (rej_J (by decide)) (show m_endv 3 0 1 2 = 2 by decide) (kC_2 ne_UA) (by decide)
    · rw [if_neg q6, if_neg q6, if_neg q6]
      have ht6 : t < 6 := by
        rcases Nat.lt_or_ge t 6 with w | w
        · exact w
        · exact absurd (show nI t = 6 by rw [show t = 6 by omega]; rfl) q6
      have qz := q
      unfold m_in at qz
      rw [Bool.and_eq_true, decide_eq_true_eq, decide_eq_true_eq] at qz
      obtain ⟨ro', hbe⟩ := hp.putT hB ht6 qz
      obtain ⟨i, hi, hi6, -⟩ := hp.freeT ht6
      refine CHG.succ h hch hc (by omega) hB rfl (fun k j hk => ?_) ⟨_, _, _, _, hbe⟩ ?_ (fun j hj => ?_) (fun j hj hj8 => ?_) (by decide) ?_
      · unfold f_putT
        rw [hi]
        show sp_st (sp_st (sp_st (sp_st (f_push σ pm 0) (3 + i) 0 1) (3 + i) 1 (f_push σ pm 0 0 3)) (3 + i) 2 z) 0 3 (f_push σ pm 0 0 3 + 1) k j = _
        rw [sp_st_k _ _ _ _ _ _ (by omega), sp_st_k _ _ _ _ _ _ (by omega), sp_st_k _ _ _ _ _ _ (by omega), sp_st_k _ _ _ _ _ _ (by omega)]
      · exact ((((MF.rf.st (by decide)).st (Or.inl rfl)).st (Or.inl rfl)).st (Or.inl rfl)).st (Or.inl rfl)
      · rw [sp_st_j _ _ _ _ _ _ (by omega), sp_st_j _ _ _ _ _ _ (by omega), sp_st_j _ _ _ _ _ _ (by omega), sp_st_j _ _ _ _ _ _ (by omega), sp_st_k _ _ _ _ _ _ (by decide)]
      · rw [sp_st_k _ _ _ _ _ _ (by decide), sp_st_k _ _ _ _ _ _ (by decide), sp_st_k _ _ _ _ _ _ (by decide), sp_st_k _ _ _ _ _ _ (by decide), sp_st_j _ _ _ _ _ _ (by omega), m_copy_k (by decide)]
      · unfold f_putTv m_endr
        rw [hi, if_pos (by decide)]
        show f_push σ pm 0 0 3 = _
        rw [sp_st_k _ _ _ _ _ _ (by decide), sp_st_k _ _ _ _ _ _ (by decide), sp_st_k _ _ _ _ _ _ (by decide), sp_st_k _ _ _ _ _ _ (by decide), sp_st_s]
        exact hp.sx.1.symm
  · rw [if_neg q, if_neg q, if_neg q]
    exact CHG.fail (E := eIAE) (r := none) h (by omega) hc rfl MF.rf (fun j _ => rfl) h.rj0 (show m_endv 2 0 1 2 = 1 by decide) kC_1 (by decide)
end CHS
