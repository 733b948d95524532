/-! THE CLASS'S ANSWERS, BY PLACES: what a valid call answers -/
theorem vx_quiet {l : Launch} {y : MethodName} {ws : List Cond} {rm : Room} {Pc : Array Value → State → Prop} {x : XO} {D : va_G} {v : Option Value} {w : va_W} {A : Nat → Prop} {Bx : Option RC → Heap → Prop} {mc ms : Nat} {free : Addr → Prop} (h : vx_Met l y ws rm Pc (sp_QT x D v w A) (sp_XT x Bx A) mc ms free) (hx : x = none) : Met l y ws rm Pc (sp_Q D v w A) mc ms free := fun p e h1 h2 h3 s m args below h4 h5 h6 h7 => by
  obtain ⟨k, o, q1, q2, q3, hQ⟩ := h p e h1 h2 h3 s m args below h4 h5 h6 h7
  refine ⟨k, o, q1, q2, q3, ?_⟩
  rcases hQ with ⟨z1, z2⟩ | ⟨q, -, E, ce, L, hX, -⟩
  · exact ⟨z1.2, z2⟩
  · obtain ⟨r, e9, -⟩ := hX
    rw [hx] at e9
    cases e9
theorem met_v {l : Launch} {y : MethodName} {ws : List Cond} {rm : Room} {Pc : Array Value → State → Prop} {D : va_G} {v v2 : Option Value} {w w2 : va_W} {A : Nat → Prop} {mc ms : Nat} {free : Addr → Prop} (h : Met l y ws rm Pc (sp_Q D v w A) mc ms free) (e : v = v2) (e2 : w = w2) : Met l y ws rm Pc (sp_Q D v2 w2 A) mc ms free := by
  subst e; subst e2; exact h
theorem met_s {l : Launch} {y : MethodName} {ws : List Cond} {rm : Room} {Pc : Array Value → State → Prop} {v v2 : Option Value} {mc ms : Nat} {free : Addr → Prop} (h : Met l y ws rm Pc (sp_S v) mc ms free) (e : v = v2) : Met l y ws rm Pc (sp_S v2) mc ms free := by
  subst e; exact h
theorem vInt {x y : Int32} (h : x = y) : some (Value.int x) = some (Value.int y) := by rw [h]
theorem vDbl {x y : UInt64} (h : x = y) : some (Value.double x) = some (Value.double y) := by rw [h]
theorem vFlt {x y : UInt32} (h : x = y) : some (Value.float x) = some (Value.float y) := by rw [h]
section KLE
variable {σ τ : Nat → Nat → Int32} {f : Nat → Int32} {B n t : Nat} {pi ro : Nat → Nat}
theorem VX.findk (h : VX f n t B) {k : Nat} (hk : k < n) : m_find f n (gP f k 0) = some k := by
  rcases opt_em (m_find f n (gP f k 0)) with e | ⟨j, e⟩
  · have h1 := fstI_none.mp e k hk
    unfold mP_find at h1
    rw [beq_self_eq_true] at h1
    cases h1
  · obtain ⟨hj, hp, -⟩ := fstI_some e
    unfold mP_find at hp
    rw [beq_iff_eq] at hp
    rw [e, h.id hj hk hp]
theorem VX.ftk (h : VX f n t B) {r : Nat} (hr : r < t) : m_ft f t (gT f r) = some r := by
  rcases opt_em (m_ft f t (gT f r)) with e | ⟨j, e⟩
  · have h1 := fstI_none.mp e r hr
    unfold mP_ft at h1
    rw [beq_self_eq_true] at h1
    cases h1
  · obtain ⟨hj, hp, -⟩ := fstI_some e
    unfold mP_ft at hp
    rw [beq_iff_eq] at hp
    rw [e, h.tid hj hr hp]
theorem VX.cellk (h : VX f n t B) (hB : B < 1000000) {k : Nat} (hk : k < n) : m_cell f n (gP f k 3) (gP f k 4) = some k := by
  rcases opt_em (m_cell f n (gP f k 3) (gP f k 4)) with e | ⟨j, e⟩
  · have h1 := fstI_none.mp e k hk
    unfold mP_cell at h1
    rw [beq_self_eq_true, beq_self_eq_true] at h1
    cases h1
  · obtain ⟨hj, hp, -⟩ := fstI_some e
    unfold mP_cell at hp
    rw [Bool.and_eq_true, beq_iff_eq, beq_iff_eq] at hp
    rw [e, (h.2.2.2.1 hB).1 j k hj hk hp.1 hp.2]
theorem BR.fpk (h : BR σ f B n t pi ro) {k : Nat} (hk : k < n) : f_findPrint σ (gP f k 0) = some (pi k) := by
  rw [h.findP, h.vx.findk hk]; rfl
theorem BR.ftk (h : BR σ f B n t pi ro) {r : Nat} (hr : r < t) : f_findTrack σ (gT f r) = some (ro r) := by
  rw [h.findT, h.vx.ftk hr]; rfl
theorem BR.xp (h : BR σ f B n t pi ro) {k : Nat} (hk : k < n) : f_xPrint σ (gP f k 0) = none := by
  unfold f_xPrint; rw [h.fpk hk]; rfl
theorem BR.xt (h : BR σ f B n t pi ro) {r : Nat} (hr : r < t) : f_xTrack σ (gT f r) = none := by
  unfold f_xTrack; rw [h.ftk hr]; rfl
theorem cell_in {r c : Nat} (hr : r < 10) (hc : c < 20) : f_isCell (nI r) (nI c) = true := by
  unfold f_isCell f_isRow
  rw [decide_eq_true (nI_pos' (by omega)), decide_eq_true (nI_pos' (by omega)), decide_eq_true (show nI r < 10 from nI_lt (b := 10) hr (by decide)), decide_eq_true (show nI c < 20 from nI_lt (b := 20) hc (by decide))]
  rfl
theorem VX.isc (h : VX f n t B) {k : Nat} (hk : k < n) : f_isCell (gP f k 3) (gP f k 4) = true := by
  obtain ⟨R, C, e1, e2, h1, h2⟩ := h.rc hk
  rw [e1, e2]; exact cell_in h1 h2
theorem xc_no {r c1 : Int32} (hc : f_isCell r c1 = true) : f_xCell r c1 = none := if_pos hc
theorem po_at (h : BR σ f B n t pi ro) {r q : Nat} (hr : r < t) (hq : q < cN f n (gT f r)) : f_inPlace σ (ro r) (nI q) = some (pi (plP f n (gT f r) q)) := by
  rw [h.po hr, (plP_ok h.vx h.n30 hq).1]; rfl
theorem po_end (h : BR σ f B n t pi ro) {r : Nat} (hr : r < t) : f_inPlace σ (ro r) (nI (cN f n (gT f r))) = none := by
  have hc := cntN_le (tA f (gT f r)) n
  have h30 := h.n30
  have hcE : cN f n (gT f r) = cntN (tA f (gT f r)) n := rfl
  rw [h.po hr, h.vx.po_none h.n30]; · rfl
  rw [hcE]
  generalize hg : cntN (tA f (gT f r)) n = c at *
  unfold m_in
  rw [m_count_N, hg, Bool.and_eq_false_iff]
  refine Or.inr (decide_eq_false fun z => ?_)
  rcases Nat.eq_zero_or_pos c with e | e
  · rw [e] at z
    exact absurd z (by decide)
  · rw [show nI c - 1 = nI (c - 1) from nI_subE rfl rfl e] at z
    have := (nI_leI (a := c) (b := c - 1) (by omega) (by omega)).mp z
    omega
theorem rows_in (h : BR σ f B n t pi ro) {r : Nat} (hr : r < 10) : f_countPrintsInRows σ (nI r) (nI r + 1) = nI (cntN (inW f r 20) n) := by
  rw [h.inRow (nI_pos' (by omega)) (nI_le (a := r) (b := 9) (by omega) (by decide)), show nI r + 1 = nI (r + 1) from nI_addE (a := r) (b := 1) rfl rfl, below_N h.vx (by omega), below_N h.vx (by omega), bl_succ h.vx (by omega)]
  rw [show nI (blN f n r + cntN (inW f r 20) n) - nI (blN f n r) = nI (blN f n r + cntN (inW f r 20) n - blN f n r) from nI_subE rfl rfl (by omega)]
  rw [show blN f n r + cntN (inW f r 20) n - blN f n r = cntN (inW f r 20) n by omega]
theorem avg_pos (h : BR σ f B n t pi ro) {r : Nat} (hr : r < t) (h2 : 2 ≤ cN f n (gT f r)) : ¬ f_countPrints σ (ro r) - 1 < 1 := by
  have hcE : cN f n (gT f r) = cntN (tA f (gT f r)) n := rfl
  have hc := cntN_le (tA f (gT f r)) n
  have h30 := h.n30
  rw [h.count hr, m_count_N, show nI (cntN (tA f (gT f r)) n) - 1 = nI (cntN (tA f (gT f r)) n - 1) from nI_subE rfl rfl (by omega)]
  exact nI_nlt (a := cntN (tA f (gT f r)) n - 1) (b := 1) (by omega) (by omega)
/-! what the law calls a print before, behind; its errors -/
def eB (f : Nat → Int32) (n k : Nat) : Int32 := atO (m_bes f n k false) (-30000) (fun j => gP f j 0)
def eN (f : Nat → Int32) (n k : Nat) : Int32 := atO (m_bes f n k true) (-30000) (fun j => gP f j 0)
def eS (f : Nat → Int32) (n k : Nat) : Int32 := atO (m_bes f n k false) (-30000) (fun _ => m_stride f n k)
def eI (f : Nat → Int32) (n r c : Nat) : Int32 := atO (m_cell f n (nI r) (nI c)) (-30000) (fun k => gP f k 0)
def eD9 (f : Nat → Int32) (n : Nat) (x : Int32) : Int32 := if cN f n x = 0 then -30000 else gP f (plP f n x (cN f n x - 1)) 2 - gP f (plP f n x 0) 2
def eE (f : Nat → Int32) (n t k : Nat) : Nat := (if m_err f n t k 0 = true then 1 else 0) + (if m_err f n t k 1 = true then 2 else 0) + (if m_err f n t k 2 = true then 4 else 0)
theorem eE_8 {k : Nat} : eE f n t k < 8 := by
  unfold eE
  split <;> split <;> split <;> omega
/-! LINES: the letters that the class writes -/
def ltP (f : Nat → Int32) (n t k : Nat) : List Nat := (if gP f k 5 = 0 then 82 else 76) :: ((if 0 < gP f k 7 then [63] else []) ++ (if 0 < m_errs1 f n t k then [33] else []))
def lnT (f : Nat → Int32) (n t : Nat) (x : Int32) : Nat → List Nat
  | 0 => []
  | q + 1 => lnT f n t x q ++ ltP f n t (plP f n x q)
theorem ltP_len (k : Nat) : (ltP f n t k).length ≤ 3 := by
  unfold ltP
  split <;> split <;> split <;> simp
theorem lnT_len (x : Int32) : ∀ q : Nat, (lnT f n t x q).length ≤ 3 * q
  | 0 => Nat.le_refl 0
  | q + 1 => by
    have h1 := lnT_len x q
    have h2 := ltP_len (f := f) (n := n) (t := t) (plP f n x q)
    show (lnT f n t x q ++ ltP f n t (plP f n x q)).length ≤ 3 * (q + 1)
    rw [List.length_append]; omega
def sgR (f : Nat → Int32) (n r c : Nat) : Nat := if nI r < f 4 then 126 else atO (m_cell f n (nI r) (nI c)) 46 (fun k => 48 + tn (gP f k 0) % 10)
def lnR (f : Nat → Int32) (n r : Nat) : Nat → List Nat
  | 0 => []
  | c + 1 => lnR f n r c ++ [sgR f n r c]
theorem lnR_len (r : Nat) : ∀ c : Nat, (lnR f n r c).length = c
  | 0 => rfl
  | c + 1 => by
    show (lnR f n r c ++ [sgR f n r c]).length = c + 1
    rw [List.length_append, lnR_len r c]; rfl
/-- the output holds these letters, all else as it was -/
def OL (σ τ : Nat → Nat → Int32) (L : List Nat) : Prop := τ 436 1 = nI L.length ∧ L.length ≤ 90 ∧ (∀ j, j < L.length → cz (τ 437 j) = nI (L.getD j 0)) ∧ ∀ k j, ¬ (k = 436 ∧ j = 1) → k ≠ 437 → τ k j = σ k j
theorem OL.start (σ : Nat → Nat → Int32) : OL σ (sp_st σ 436 1 0) [] := ⟨by rw [sp_st_s]; decide, Nat.zero_le _, fun j h => absurd h (Nat.not_lt_zero j), fun k j h _ => by rw [sp_st_at, if_neg h]⟩
theorem OL.app {L : List Nat} (w : OL σ τ L) (hl : L.length < 90) {c : Nat} {y : Int32} (hy : cz y = nI c) : OL σ (f_appO τ y) (L ++ [c]) := by
  obtain ⟨w1, w2, w3, w4⟩ := w
  have hlt : τ 436 1 < 90 := by rw [w1]; exact (nI_ltI (a := L.length) (b := 90) (by omega) (by decide)).mpr hl
  have htn : tn (τ 436 1) = L.length := by rw [w1]; exact tn_nI (by omega)
  have e1 : f_appO τ y = sp_st (sp_st τ 437 L.length y) 436 1 (nI L.length + 1) := by unfold f_appO; rw [if_pos hlt, htn, w1]
  have hlen : (L ++ [c]).length = L.length + 1 := by rw [List.length_append]; rfl
  rw [e1]
  refine ⟨by rw [sp_st_s, hlen]; exact nI_1 _, by omega, fun j hj => ?_, fun k j h1 h2 => ?_⟩
  · rw [sp_st_k _ 436 1 _ 437 j (by decide), sp_st_at]
    by_cases q : j = L.length
    · rw [if_pos ⟨rfl, q⟩, hy, q, List.getD_eq_getElem?_getD, List.getElem?_append_right (Nat.le_refl _), Nat.sub_self]; rfl
    · rw [if_neg (fun z => q z.2), w3 j (by omega), List.getD_eq_getElem?_getD, List.getD_eq_getElem?_getD, List.getElem?_append_left (by omega)]
  · rw [sp_st_at, if_neg h1, sp_st_k _ _ _ _ _ _ h2]; exact w4 k j h1 h2
theorem OL.br {L : List Nat} (w : OL σ τ L) (h : BR σ f B n t pi ro) (hB : B < 1000000) : BR τ f B n t pi ro := h.congr (fun k j hk => w.2.2.2 k j (by omega) (by omega)) (fun _ _ => rfl) (Nat.le_refl B) hB
theorem OL.if {L : List Nat} (w : OL σ τ L) (hl : L.length < 90) {c : Nat} {y : Int32} (hy : cz y = nI c) {p q : Prop} [Decidable p] [Decidable q] (hpq : p ↔ q) : OL σ (if p then f_appO τ y else τ) (L ++ (if q then [c] else [])) := by
  by_cases z : p
  · rw [if_pos z, if_pos (hpq.mp z)]; exact w.app hl hy
  · rw [if_neg z, if_neg (fun z2 => z (hpq.mpr z2)), List.append_nil]; exact w
theorem OL.print {L : List Nat} (w : OL σ τ L) (h : BR σ f B n t pi ro) (hB : B < 1000000) (hl : L.length ≤ 87) {k : Nat} (hk : k < n) : OL σ (f_wrP τ (some (pi k))) (L ++ ltP f n t k) := by
  have hb := w.br h hB
  show OL σ (f_wrE (f_wrD (f_appO τ (if τ (9 + pi k) 6 = 0 then 82 else 76)) (pi k)) (pi k)) _
  have e5 : gP f k 5 = 0 ↔ τ (9 + pi k) 6 = 0 := by rw [(hb.pe hk).2.2.2.2.2.1]; exact bz_eq0
  have w1 : OL σ (f_appO τ (if τ (9 + pi k) 6 = 0 then 82 else 76)) (L ++ [if gP f k 5 = 0 then 82 else 76]) := w.app (by omega) (by
    by_cases z : gP f k 5 = 0
    · rw [if_pos (e5.mp z), if_pos z]; decide
    · rw [if_neg (fun z2 => z (e5.mpr z2)), if_neg z]; decide)
  have l1 : (L ++ [if gP f k 5 = 0 then 82 else 76]).length = L.length + 1 := by rw [List.length_append]; rfl
  generalize f_appO τ (if τ (9 + pi k) 6 = 0 then 82 else 76) = τ1 at *
  have hb1 := w1.br h hB
  have w2 : OL σ (f_wrD τ1 (pi k)) ((L ++ [if gP f k 5 = 0 then 82 else 76]) ++ (if 0 < gP f k 7 then [63] else [])) := w1.if (by omega) (by decide) (by rw [(hb1.pe hk).2.2.2.2.2.2.2.1])
  have l2 : ((L ++ [if gP f k 5 = 0 then 82 else 76]) ++ (if 0 < gP f k 7 then [63] else [])).length ≤ L.length + 2 := by
    rw [List.length_append, l1]
    split <;> simp
  generalize f_wrD τ1 (pi k) = τ2 at *
  have hb2 := w2.br h hB
  have w3 : OL σ (f_wrE τ2 (pi k)) (((L ++ [if gP f k 5 = 0 then 82 else 76]) ++ (if 0 < gP f k 7 then [63] else [])) ++ (if 0 < m_errs1 f n t k then [33] else [])) := w2.if (by omega) (by decide) (by rw [hb2.hasErr hk, decide_eq_true_iff])
  have e9 : ((L ++ [if gP f k 5 = 0 then 82 else 76]) ++ (if 0 < gP f k 7 then [63] else [])) ++ (if 0 < m_errs1 f n t k then [33] else []) = L ++ ltP f n t k := by
    unfold ltP
    rw [List.append_assoc, List.append_assoc]; rfl
  rw [e9] at w3
  exact w3
theorem OL.trk (h : BR σ f B n t pi ro) (hB : B < 1000000) {r : Nat} (hr : r < t) : ∀ q : Nat, q ≤ cN f n (gT f r) → OL σ (f_wrT σ (ro r) q) (lnT f n t (gT f r) q)
  | 0, _ => OL.start σ
  | q + 1, hq => by
    have w := OL.trk h hB hr q (by omega)
    have hb := w.br h hB
    have hc := cntN_le (tA f (gT f r)) n
    have h30 := h.n30
    have hl := lnT_len (f := f) (n := n) (t := t) (gT f r) q
    have hl9 : cN f n (gT f r) = cntN (tA f (gT f r)) n := rfl
    have w2 := w.print h hB (by omega) (plP_ok h.vx h.n30 (show q < cN f n (gT f r) by omega)).2.1
    rw [f_wrT_s (po_at hb hr (by omega))] at w2
    exact w2
theorem OL.trkN (h : BR σ f B n t pi ro) (hB : B < 1000000) {r : Nat} (hr : r < t) : OL σ (f_wrTn σ (ro r)) (lnT f n t (gT f r) (cN f n (gT f r))) := by
  have hb := (OL.start σ).br h hB
  have hc := cntN_le (tA f (gT f r)) n
  have h30 := h.n30
  unfold f_wrTn
  rw [hb.count hr, m_count_N, tn_nI (by omega)]
  exact OL.trk h hB hr _ (Nat.le_refl _)
theorem digit {x : Int32} (h0 : 0 ≤ x) : x - x / 10 * 10 = nI (tn x % 10) := by
  obtain ⟨a, ha, rfl⟩ := nI_of (x := x) (Int32.not_lt.mpr h0)
  rw [tn_nI ha]
  have h1 : nI a / 10 = nI (a / 10) := by
    apply Int32.toInt_inj.mp
    rw [Int32.toInt_div_of_ne_right _ _ (by decide), nI_toInt ha, nI_toInt (by omega), show (10 : Int32).toInt = 10 by decide]
    rw [show ((a : Int).tdiv 10) = ((a / 10 : Nat) : Int) from Int.ofNat_tdiv a 10]
  have h2 : nI (a / 10) * 10 = nI (a / 10 * 10) := nI_mulE (a := a / 10) (b := 10) rfl rfl
  have h3 : a - a / 10 * 10 = a % 10 := by omega
  rw [h1, h2, show nI a - nI (a / 10 * 10) = nI (a - a / 10 * 10) from nI_subE rfl rfl (by omega), h3]
theorem cz_lo : ∀ c, c < 200 → cz (nI c) = nI c := by decide +kernel
theorem sign_ok (h : BR σ f B n t pi ro) (hB : B < 1000000) {r c : Nat} : cz (f_signOf σ (nI r) (nI c)) = nI (sgR f n r c) ∧ sgR f n r c < 200 := by
  unfold f_signOf sgR f_under
  rw [← h.sx.2.2.1]
  by_cases q : nI r < f 4
  · rw [if_pos (decide_eq_true q), if_pos q]; exact ⟨by decide, by decide⟩
  · rw [if_neg (by rw [decide_eq_true_iff]; exact q), if_neg q, h.cell hB]
    rcases opt_em (m_cell f n (nI r) (nI c)) with e | ⟨k, e⟩
    · rw [e]; exact ⟨show cz 46 = nI 46 by decide, show (46 : Nat) < 200 by decide⟩
    · rw [e]
      have hk := m_cell_lt e
      show cz (cz (48 + (σ (9 + pi k) 1 - σ (9 + pi k) 1 / 10 * 10))) = nI (48 + tn (gP f k 0) % 10) ∧ 48 + tn (gP f k 0) % 10 < 200
      rw [cz_cz, ← (h.pe hk).1, digit (h.vp hk).2.2.2.2.2.2.2.2.1, show (48 : Int32) + nI (tn (gP f k 0) % 10) = nI (48 + tn (gP f k 0) % 10) from nI_addE (a := 48) rfl rfl]
      have h9 : tn (gP f k 0) % 10 < 10 := Nat.mod_lt _ (by decide)
      exact ⟨cz_lo _ (by omega), by omega⟩
theorem OL.row (h : BR σ f B n t pi ro) (hB : B < 1000000) {r : Nat} : ∀ c : Nat, c ≤ 20 → OL σ (f_wrR σ (nI r) c) (lnR f n r c)
  | 0, _ => OL.start σ
  | c + 1, hc => by
    have w := OL.row h hB (r := r) c (by omega)
    have hl := lnR_len (f := f) (n := n) r c
    exact w.app (by omega) (sign_ok (w.br h hB) hB).1
end KLE
