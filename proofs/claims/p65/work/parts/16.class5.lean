/-! texts, arguments, suggestions, orders, the whole, commands -/
def tn (x : Int32) : Nat := x.toNatClampNeg
theorem nI_tn {x : Int32} (h : 0 ≤ x) : nI (tn x) = x := by
  obtain ⟨j, hj, rfl⟩ := nI_of (x := x) (Int32.not_lt.mpr h)
  unfold tn
  rw [nI_clamp hj]
theorem tn_nI {j : Nat} (h : j < 2 ^ 31) : tn (nI j) = j := nI_clamp h
theorem tn_lt {x : Int32} {b : Nat} (h0 : 0 ≤ x) (hb : b < 2 ^ 31) (h : x < nI b) : tn x < b := by
  obtain ⟨j, hj, rfl⟩ := nI_of (x := x) (Int32.not_lt.mpr h0)
  rw [tn_nI hj]
  exact (Nat.lt_of_not_le fun z => Int32.not_lt.mpr (nI_le z hj) h)
def f_appI (σ : Nat → Nat → Int32) (x : Int32) : Nat → Nat → Int32 := if σ 434 1 < 60 then sp_st (sp_st σ 435 (tn (σ 434 1)) x) 434 1 (σ 434 1 + 1) else σ
def f_appO (σ : Nat → Nat → Int32) (x : Int32) : Nat → Nat → Int32 := if σ 436 1 < 90 then sp_st (sp_st σ 437 (tn (σ 436 1)) x) 436 1 (σ 436 1 + 1) else σ
def f_reachI (σ : Nat → Nat → Int32) (i : Int32) : Bool := decide (0 ≤ i) && decide (i < σ 434 1) && decide (i < 60)
def f_reachO (σ : Nat → Nat → Int32) (i : Int32) : Bool := decide (0 ≤ i) && decide (i < σ 436 1) && decide (i < 90)
theorem reachI_0 {σ : Nat → Nat → Int32} {i : Int32} (h : ¬ f_reachI σ i = false) : 0 ≤ i := by
  simp only [f_reachI, Bool.not_eq_false, Bool.and_eq_true, decide_eq_true_eq] at h; exact h.1.1
theorem reachO_0 {σ : Nat → Nat → Int32} {i : Int32} (h : ¬ f_reachO σ i = false) : 0 ≤ i := by
  simp only [f_reachO, Bool.not_eq_false, Bool.and_eq_true, decide_eq_true_eq] at h; exact h.1.1
theorem reachI_lt {σ : Nat → Nat → Int32} {i : Int32} (h : ¬ f_reachI σ i = false) : tn i < 60 := by
  have h1 := reachI_0 h
  simp only [f_reachI, Bool.not_eq_false, Bool.and_eq_true, decide_eq_true_eq] at h; exact tn_lt (b := 60) h1 (by decide) h.2
theorem reachO_lt {σ : Nat → Nat → Int32} {i : Int32} (h : ¬ f_reachO σ i = false) : tn i < 90 := by
  have h1 := reachO_0 h
  simp only [f_reachO, Bool.not_eq_false, Bool.and_eq_true, decide_eq_true_eq] at h; exact tn_lt (b := 90) h1 (by decide) h.2
def f_signI (σ : Nat → Nat → Int32) (i : Int32) : Int32 := if f_reachI σ i = true then cz (σ 435 (tn i)) else 0
def f_signO (σ : Nat → Nat → Int32) (i : Int32) : Int32 := if f_reachO σ i = true then cz (σ 437 (tn i)) else 0
def f_in (a1 b1 x : Int32) : Bool := decide (a1 ≤ x) && decide (x ≤ b1)
def f_isRow (x : Int32) : Bool := decide (0 ≤ x) && decide (x < 10)
def f_isCell (r c1 : Int32) : Bool := f_isRow r && decide (0 ≤ c1) && decide (c1 < 20)
theorem sp_back (σ : Nat → Nat → Int32) (k : Nat) (r c1 : Int32) : sp_st (sp_st (sp_st (sp_st σ (9 + k) 4 r) (9 + k) 5 c1) (9 + k) 4 (σ (9 + k) 4)) (9 + k) 5 (σ (9 + k) 5) = σ := by
  funext a b
  simp only [sp_st_at]
  by_cases ha : a = 9 + k
  · subst ha
    by_cases h4 : b = 4
    · subst h4; simp
    · by_cases h5 : b = 5
      · subst h5; simp
      · simp [h4, h5]
  · simp [ha]
def f_errsW (σ : Nat → Nat → Int32) (k : Nat) (r c1 : Int32) : Int32 := f_errs (sp_st (sp_st σ (9 + k) 4 r) (9 + k) 5 c1) (σ (9 + k) 2)
def S_best (σ : Nat → Nat → Int32) (k : Nat) (x : Int32 × Int32 × Int32) (i : Nat) : Int32 × Int32 × Int32 :=
  if f_isCell (σ (9 + k) 4 - 2 + nI i / 5) (σ (9 + k) 5 - 2 + (nI i - nI i / 5 * 5)) = true then
    (match f_objMove σ k (σ (9 + k) 4 - 2 + nI i / 5) (σ (9 + k) 5 - 2 + (nI i - nI i / 5 * 5)) with
    | some _ => x
    | none =>
      if f_errsW σ k (σ (9 + k) 4 - 2 + nI i / 5) (σ (9 + k) 5 - 2 + (nI i - nI i / 5 * 5)) < x.2.1 ∨ (f_errsW σ k (σ (9 + k) 4 - 2 + nI i / 5) (σ (9 + k) 5 - 2 + (nI i - nI i / 5 * 5)) = x.2.1 ∧ f_dist σ (9 + k) (σ (9 + k) 4 - 2 + nI i / 5) (σ (9 + k) 5 - 2 + (nI i - nI i / 5 * 5)) < x.2.2) then
        ((σ (9 + k) 4 - 2 + nI i / 5) * 20 + (σ (9 + k) 5 - 2 + (nI i - nI i / 5 * 5)), f_errsW σ k (σ (9 + k) 4 - 2 + nI i / 5) (σ (9 + k) 5 - 2 + (nI i - nI i / 5 * 5)), f_dist σ (9 + k) (σ (9 + k) 4 - 2 + nI i / 5) (σ (9 + k) 5 - 2 + (nI i - nI i / 5 * 5)))
      else x)
  else x
def f_best (σ : Nat → Nat → Int32) (k : Nat) : Int32 := (foldI (S_best σ k) (σ (9 + k) 4 * 20 + σ (9 + k) 5, f_errs σ (σ (9 + k) 2), 0) 25).1
def fdT (σ : Nat → Nat → Int32) (k i : Nat) : Int32 := if f_errs σ (σ (3 + i) 1) - f_errs σ (σ (3 + k) 1) = 0 then (if f_countPrints σ i - f_countPrints σ k = 0 then σ (3 + k) 1 - σ (3 + i) 1 else f_countPrints σ i - f_countPrints σ k) else f_errs σ (σ (3 + i) 1) - f_errs σ (σ (3 + k) 1)
def F_aheadT (σ : Nat → Nat → Int32) (k i : Nat) : Int32 := b2i (σ (3 + i) 0 != 0 && decide (0 < fdT σ k i))
def f_aheadT (σ : Nat → Nat → Int32) (k : Nat) : Int32 := sumI (F_aheadT σ k) 6
theorem sumI_b2i (p : Nat → Bool) : ∀ n : Nat, ∃ m : Nat, m ≤ n ∧ sumI (fun i => b2i (p i)) n = nI m
  | 0 => ⟨0, Nat.le_refl _, rfl⟩
  | n + 1 => by
    obtain ⟨m, h1, h2⟩ := sumI_b2i p n
    rw [sumI_succ, h2]
    cases hp : p n
    · exact ⟨m, by omega, by show nI m + 0 = nI m; simp⟩
    · exact ⟨m + 1, by omega, nI_1 m⟩
theorem f_countPrints_nI (σ : Nat → Nat → Int32) (k : Nat) : ∃ n : Nat, n ≤ 30 ∧ f_countPrints σ k = nI n := sumI_b2i (fun i => f_isOn σ (9 + i) (σ (3 + k) 1) && decide (-1 < σ (9 + i) 3) && decide (σ (9 + i) 3 < 1000)) 30
def S_ord (σ : Nat → Nat → Int32) (k : Nat) (x : Option Int32) (i : Nat) : Option Int32 := match x with
  | none => none
  | some y => match f_inPlace σ k (nI i) with
    | none => none
    | some j => if y < σ (9 + j) 3 then some (σ (9 + j) 3) else none
theorem S_ord_none {σ : Nat → Nat → Int32} {k i : Nat} {x : Option Int32} (h : f_inPlace σ k (nI i) = none) : S_ord σ k x i = none := by
  rcases x with _ | y
  · rfl
  · unfold S_ord; rw [h]
theorem S_ord_some {σ : Nat → Nat → Int32} {k i j : Nat} {y : Int32} (h : f_inPlace σ k (nI i) = some j) : S_ord σ k (some y) i = if y < σ (9 + j) 3 then some (σ (9 + j) 3) else none := by unfold S_ord; rw [h]
def f_ord (σ : Nat → Nat → Int32) (k : Nat) : Bool := (foldI (S_ord σ k) (some (-1)) (tn (f_countPrints σ k))).isSome
theorem ord_some {σ : Nat → Nat → Int32} {k n : Nat} {x : Int32} (hN : f_countPrints σ k = nI n) (h : some x = foldI (S_ord σ k) (some (-1)) n) (hn : n ≤ 30 := by omega) : f_ord σ k = true := by
  unfold f_ord
  rw [hN, tn_nI (by omega), ← h]
  rfl
theorem ord_stay {σ : Nat → Nat → Int32} {k i : Nat} (h : foldI (S_ord σ k) (some (-1)) i = none) : ∀ m : Nat, foldI (S_ord σ k) (some (-1)) (i + m) = none
  | 0 => h
  | m + 1 => by
    show foldI (S_ord σ k) (some (-1)) (i + m + 1) = none
    rw [foldI_succ, ord_stay h m]
    rfl
theorem ord_none {σ : Nat → Nat → Int32} {k n i : Nat} (hN : f_countPrints σ k = nI n) (h : foldI (S_ord σ k) (some (-1)) (i + 1) = none) (hi : i < n) (hn : n ≤ 30 := by omega) : f_ord σ k = false := by
  unfold f_ord
  have := ord_stay h (n - (i + 1))
  rw [hN, tn_nI (by omega), show n = i + 1 + (n - (i + 1)) by omega, this]
  rfl
def f_trackOk (σ : Nat → Nat → Int32) (k : Nat) : Bool := f_len σ k == f_lenD σ k && f_errs σ (σ (3 + k) 1) == f_errsK σ (σ (3 + k) 1) && f_ord σ k
def P_badT (σ : Nat → Nat → Int32) (i : Nat) : Bool := σ (3 + i) 0 != 0 && !f_trackOk σ i
def P_badP (σ : Nat → Nat → Int32) (i : Nat) : Bool := σ (9 + i) 0 != 0 && (f_under σ (σ (9 + i) 4) || f_inCell σ (σ (9 + i) 4) (σ (9 + i) 5) != some i)
def f_holds (σ : Nat → Nat → Int32) : Bool := (fstI (P_badT σ) 6).isNone && (fstI (P_badP σ) 30).isNone
def f_tide (σ : Nat → Nat → Int32) (v : Int32) : Nat → Nat → Int32 := sp_st (f_tideP σ v 30) 0 5 (σ 0 5 + f_below σ v)
theorem wi_X7_append_434_X7 : ∀ w ∈ wsX70, w ∈ wsX7_append := by decide +kernel
set_option maxHeartbeats 4000000 in
set_option maxRecDepth 100000 in
theorem c_X7_append_434 (l : Launch) (D : va_G) (ad : Nat → Nat) (cy : Nat → ClassId) (pm : Nat → Nat) (rj : Option Nat) (σ : Nat → Nat → Int32) (sz : Nat) (hi : sp_inj ad 459) (h0 : 0 ≤ σ 434 1) (x : Int32) : Met l yX7_append wsX7_append ({ frames := 0, cells := 0, slots := 0, locals := 0 } : Room) (sp_Pm D (tyG cy) sz [.ref (ad (434)), .int (x)] (cW ad cy pm rj σ)) (sp_Q D (none) (cW ad cy (pm) (rj) (f_appI σ x)) (sp_A ad 459 sz)) 0 0 (sp_A ad 459 sz) := by
  refine Met.ofW (cc := cX7_append) (maxL := 2) (ret := none) (by decide) rfl ?_
  intro p e s m args below meth c s₁ B hml hv
  obtain ⟨rfl, hsz, hP, hK⟩ := hv
  have hx := B.exec
  have hb := B.bytes
  have hr := B.returns
  have hts := atoms_spec (ws := wsX7_append) B.pre
  have hown : s.vm.findClass RX7 = some m.cls := findClass_of_methodNamed B.named
  have hlocks := B.notSynchronized
  subst hsz
  have hS : va_S (sp_A ad 459 s.heap.size) s.heap s.heap [] := va_S.rf
  have hAk : ∀ k, k < 459 → (sp_A ad 459 s.heap.size) (ad k) := fun k hk => Or.inl ⟨k, hk, rfl⟩
  skip
  have hl := lv_entry ([.ref (ad (434)), .int (x)]) (n := 2) (Nat.le_of_ble_eq_true rfl)
  refine W.eq (lg_entry_eq _ ([.ref (ad (434)), .int (x)]) _) ?_
  generalize (lg_sl ([.ref (ad (434)), .int (x)]) ++ List.replicate (2 - (lg_sl ([.ref (ad (434)), .int (x)])).length) Slot.unset).toArray = ls at hl ⊢
  have hl : lv_has ls 2 [(0, .ref (ad (434))), (1, .int (x))] := hl
  refine lv_aload_n hx hb dX7_append_0 rfl (lv_at hl 0 rfl) ?_
  refine sp_get hx hb hts wi_X7_append_434_X7 hown hK hP (κ := 434) (by decide) cE_in rfl 1 (by decide) (hts _ (List.mem_of_getElem? (i := 1) rfl)) (fun _ h => h) rfl dX7_append_1 ?_
  refine lv_aload_n hx hb dX7_append_4 rfl (lv_at hl 0 rfl) ?_
  refine sp_get hx hb hts wi_X7_append_434_X7 hown hK hP (κ := 434) (by decide) cE_in rfl 0 (by decide) (hts _ (List.mem_of_getElem? (i := 2) rfl)) (fun _ h => h) rfl dX7_append_5 ?_
  refine sp_alen hx hb hK hP (κ := 435) (by decide) 0 cE_inc rfl (v := 60) rfl dX7_append_8 ?_
  refine lv_icmp_ge (tgt := 32) hx hb dX7_append_9 (by decide) (fun c_1 => ?_) (fun c_1 => ?_)
  · skip
    have c_1d := Int32.not_lt.mpr c_1
    have hE9 : cW ad cy (pm) (rj) (σ) = cW ad cy (pm) (rj) (f_appI σ x) := by exact cW_eq rfl (by simp only [f_appI]; first | rw [if_pos (by assumption)] | rw [if_neg (Int32.not_lt.mpr (by assumption))])
    have hP : va_P D vwCl (cW ad cy (pm) (rj) (f_appI σ x)) s.heap := by rw [← hE9]; exact hP
    exact W.vret hx hb hr (fun T9 hT9 _ => ⟨rfl, by rw [hT9]; exact hP, hS.F hT9⟩) hS.2.2 dX7_append_32
  · skip
    have c_1d := Int32.not_le.mp c_1
    have hb9 : tn (σ 434 1) < 60 := tn_lt (b := 60) h0 (by decide) c_1d
    refine lv_aload_n hx hb dX7_append_12 rfl (lv_at hl 0 rfl) ?_
    refine sp_get hx hb hts wi_X7_append_434_X7 hown hK hP (κ := 434) (by decide) cE_in rfl 0 (by decide) (hts _ (List.mem_of_getElem? (i := 2) rfl)) (fun _ h => h) rfl dX7_append_13 ?_
    refine lv_aload_n hx hb dX7_append_16 rfl (lv_at hl 0 rfl) ?_
    refine sp_get hx hb hts wi_X7_append_434_X7 hown hK hP (κ := 434) (by decide) cE_in rfl 1 (by decide) (hts _ (List.mem_of_getElem? (i := 1) rfl)) (fun _ h => h) rfl dX7_append_17 ?_
    refine lv_iload_n hx hb dX7_append_20 rfl (lv_at hl 1 rfl) ?_
    refine sp_cast hx hb hK hP hi hAk hS (κ := 435) (by decide) 0 cE_inc rfl (tn (σ 434 1)) (nI_tn h0).symm (by omega) (by decide) (r1 := upd (σ 435) (tn (σ 434 1)) x) (by rw [cE_inc, cz_upd]) dX7_append_21 (fun H locs hP hS => ?_)
    have hP : va_P D vwCl (cW ad cy pm rj (sp_st σ 435 (tn (σ 434 1)) x)) H := hP
    refine lv_aload_n hx hb dX7_append_22 rfl (lv_at hl 0 rfl) ?_
    refine lv_dup hx hb dX7_append_23 rfl ?_
    refine sp_get hx hb hts wi_X7_append_434_X7 hown hK hP (κ := 434) (by decide) cE_in rfl 1 (by decide) (hts _ (List.mem_of_getElem? (i := 1) rfl)) (fun _ h => h) rfl dX7_append_24 ?_
    refine W.eq (g2 := F0 m 27 ls [.int (σ 434 1), .ref (ad (434))]) (by rw [sp_st_k _ _ _ _ _ _ (by omega)]) ?_
    refine lv_iconst (v := 1) hx hb dX7_append_27 (by decide) ?_
    refine lv_iadd hx hb dX7_append_28 ?_
    refine sp_put hx hb hts wi_X7_append_434_X7 tyX7 tyX7_ok nmX7 hown hK hP hi hAk hS (κ := 434) (by decide) cE_in rfl 1 (by decide) (hts _ (List.mem_of_getElem? (i := 1) rfl)) (fun _ h => h) rfl (ty := tyX7 1) (by decide +kernel) ⟨rfl, rfl⟩ (Nat.le_of_ble_eq_true rfl) (r1 := upd ((sp_st σ 435 (tn (σ 434 1)) x) 434) 1 ((σ 434 1) + 1)) (cE_of cE_in (by simp [upd])) dX7_append_29 (fun H locs hP hS => ?_)
    have hP : va_P D vwCl (cW ad cy pm rj (sp_st (sp_st σ 435 (tn (σ 434 1)) x) 434 1 ((σ 434 1) + 1))) H := hP
    have hE9 : cW ad cy (pm) (rj) (sp_st (sp_st σ 435 (tn (σ 434 1)) x) 434 1 ((σ 434 1) + 1)) = cW ad cy (pm) (rj) (f_appI σ x) := by exact cW_eq rfl (by simp only [f_appI]; first | rw [if_pos (by assumption)] | rw [if_neg (Int32.not_lt.mpr (by assumption))])
    have hP : va_P D vwCl (cW ad cy (pm) (rj) (f_appI σ x)) H := by rw [← hE9]; exact hP
    exact W.vret hx hb hr (fun T9 hT9 _ => ⟨rfl, by rw [hT9]; exact hP, hS.F hT9⟩) hS.2.2 dX7_append_32

theorem wi_X7_reaches_434_X7 : ∀ w ∈ wsX70, w ∈ wsX7_reaches := by decide +kernel
set_option maxHeartbeats 4000000 in
set_option maxRecDepth 100000 in
theorem c_X7_reaches_434 (l : Launch) (D : va_G) (ad : Nat → Nat) (cy : Nat → ClassId) (pm : Nat → Nat) (rj : Option Nat) (σ : Nat → Nat → Int32) (i : Int32) : Met l yX7_reaches wsX7_reaches ({ frames := 0, cells := 0, slots := 0, locals := 0 } : Room) (sp_Pc D (tyG cy) [.ref (ad (434)), .int (i)] (cW ad cy pm rj σ)) (sp_S (some (.int (b2i (f_reachI σ i))))) 0 0 (fun _ => False) := by
  refine Met.ofW (cc := cX7_reaches) (maxL := 2) (ret := (some .boolean)) (by decide) rfl ?_
  intro p e s m args below meth c s₁ B hml hv
  obtain ⟨rfl, hP, hK⟩ := hv
  have hx := B.exec
  have hb := B.bytes
  have hr := B.returns
  have hts := atoms_spec (ws := wsX7_reaches) B.pre
  have hown : s.vm.findClass RX7 = some m.cls := findClass_of_methodNamed B.named
  have hlocks := B.notSynchronized
  have hl := lv_entry ([.ref (ad (434)), .int (i)]) (n := 2) (Nat.le_of_ble_eq_true rfl)
  refine W.eq (lg_entry_eq _ ([.ref (ad (434)), .int (i)]) _) ?_
  generalize (lg_sl ([.ref (ad (434)), .int (i)]) ++ List.replicate (2 - (lg_sl ([.ref (ad (434)), .int (i)])).length) Slot.unset).toArray = ls at hl ⊢
  have hl : lv_has ls 2 [(0, .ref (ad (434))), (1, .int (i))] := hl
  refine lv_iload_n hx hb dX7_reaches_0 rfl (lv_at hl 1 rfl) ?_
  refine lv_if_lt (tgt := 25) hx hb dX7_reaches_1 (by decide) (fun c_1 => ?_) (fun c_1 => ?_)
  · skip
    have c_1d := Int32.not_le.mpr c_1
    refine lv_iconst (v := 0) hx hb dX7_reaches_25 (by decide) ?_
    exact W.zret (v := 0) hx hb hr (by decide) (fun T9 hT9 _ => ⟨congrArg (fun z9 => Outcome.returned (some (Value.int z9))) (show (0 : Int32) = b2i (f_reachI σ i) from (by first | rfl | (simp [f_reachI, b2i, c_1, c_1d]; done))), hT9⟩) (fun _ h => by cases h) dX7_reaches_26
  · skip
    have c_1d := Int32.not_lt.mp c_1
    refine lv_iload_n hx hb dX7_reaches_4 rfl (lv_at hl 1 rfl) ?_
    refine lv_aload_n hx hb dX7_reaches_5 rfl (lv_at hl 0 rfl) ?_
    refine sp_get hx hb hts wi_X7_reaches_434_X7 hown hK hP (κ := 434) (by decide) cE_in rfl 1 (by decide) (hts _ (List.mem_of_getElem? (i := 1) rfl)) (fun _ h => h) rfl dX7_reaches_6 ?_
    refine lv_icmp_ge (tgt := 25) hx hb dX7_reaches_9 (by decide) (fun c_2 => ?_) (fun c_2 => ?_)
    · skip
      have c_2d := Int32.not_lt.mpr c_2
      refine lv_iconst (v := 0) hx hb dX7_reaches_25 (by decide) ?_
      exact W.zret (v := 0) hx hb hr (by decide) (fun T9 hT9 _ => ⟨congrArg (fun z9 => Outcome.returned (some (Value.int z9))) (show (0 : Int32) = b2i (f_reachI σ i) from (by first | rfl | (simp [f_reachI, b2i, c_1, c_1d, c_2, c_2d]; done))), hT9⟩) (fun _ h => by cases h) dX7_reaches_26
    · skip
      have c_2d := Int32.not_le.mp c_2
      refine lv_iload_n hx hb dX7_reaches_12 rfl (lv_at hl 1 rfl) ?_
      refine lv_aload_n hx hb dX7_reaches_13 rfl (lv_at hl 0 rfl) ?_
      refine sp_get hx hb hts wi_X7_reaches_434_X7 hown hK hP (κ := 434) (by decide) cE_in rfl 0 (by decide) (hts _ (List.mem_of_getElem? (i := 2) rfl)) (fun _ h => h) rfl dX7_reaches_14 ?_
      refine sp_alen hx hb hK hP (κ := 435) (by decide) 0 cE_inc rfl (v := 60) rfl dX7_reaches_17 ?_
      refine lv_icmp_ge (tgt := 25) hx hb dX7_reaches_18 (by decide) (fun c_3 => ?_) (fun c_3 => ?_)
      · skip
        have c_3d := Int32.not_lt.mpr c_3
        refine lv_iconst (v := 0) hx hb dX7_reaches_25 (by decide) ?_
        exact W.zret (v := 0) hx hb hr (by decide) (fun T9 hT9 _ => ⟨congrArg (fun z9 => Outcome.returned (some (Value.int z9))) (show (0 : Int32) = b2i (f_reachI σ i) from (by first | rfl | (simp [f_reachI, b2i, c_1, c_1d, c_2, c_2d, c_3, c_3d]; done))), hT9⟩) (fun _ h => by cases h) dX7_reaches_26
      · skip
        have c_3d := Int32.not_le.mp c_3
        refine lv_iconst (v := 1) hx hb dX7_reaches_21 (by decide) ?_
        refine lv_goto (tgt := 26) hx hb dX7_reaches_22 (by decide) ?_
        exact W.zret (v := 1) hx hb hr (by decide) (fun T9 hT9 _ => ⟨congrArg (fun z9 => Outcome.returned (some (Value.int z9))) (show (1 : Int32) = b2i (f_reachI σ i) from (by first | rfl | (simp [f_reachI, b2i, c_1, c_1d, c_2, c_2d, c_3, c_3d]; done))), hT9⟩) (fun _ h => by cases h) dX7_reaches_26

theorem wi_X7_signAt_434_X7 : ∀ w ∈ wsX70, w ∈ wsX7_signAt := by decide +kernel
set_option maxHeartbeats 4000000 in
set_option maxRecDepth 100000 in
theorem c_X7_signAt_434 (l : Launch) (D : va_G) (ad : Nat → Nat) (cy : Nat → ClassId) (pm : Nat → Nat) (rj : Option Nat) (σ : Nat → Nat → Int32) (i : Int32) : Met l yX7_signAt wsX7_signAt ({ frames := 1, cells := 0, slots := 0, locals := 21 } : Room) (sp_Pc D (tyG cy) [.ref (ad (434)), .int (i)] (cW ad cy pm rj σ)) (sp_S (some (.int (f_signI σ i)))) 0 0 (fun _ => False) := by
  refine Met.ofW (cc := cX7_signAt) (maxL := 2) (ret := (some .char)) (by decide) rfl ?_
  intro p e s m args below meth c s₁ B hml hv
  obtain ⟨rfl, hP, hK⟩ := hv
  have hx := B.exec
  have hb := B.bytes
  have hr := B.returns
  have hts := atoms_spec (ws := wsX7_signAt) B.pre
  have hown : s.vm.findClass RX7 = some m.cls := findClass_of_methodNamed B.named
  have hlocks := B.notSynchronized
  have hl := lv_entry ([.ref (ad (434)), .int (i)]) (n := 2) (Nat.le_of_ble_eq_true rfl)
  refine W.eq (lg_entry_eq _ ([.ref (ad (434)), .int (i)]) _) ?_
  generalize (lg_sl ([.ref (ad (434)), .int (i)]) ++ List.replicate (2 - (lg_sl ([.ref (ad (434)), .int (i)])).length) Slot.unset).toArray = ls at hl ⊢
  have hl : lv_has ls 2 [(0, .ref (ad (434))), (1, .int (i))] := hl
  refine lv_aload_n hx hb dX7_signAt_0 rfl (lv_at hl 0 rfl) ?_
  refine lv_iload_n hx hb dX7_signAt_1 rfl (lv_at hl 1 rfl) ?_
  refine sp_call (W.runV (As := [.int (i)]) (rest := []) ⟨hx, hb, hml, hown, hts⟩ (c_X7_reaches_434 l D ad cy pm rj σ i) (cwV 1 hts gX7_signAt_X7_reaches rfl rfl rfl (by decide +kernel) ⟨Nat.le_of_ble_eq_true rfl, Nat.le_of_ble_eq_true rfl⟩) (sp_preV hK hP (κ := 434) (by decide) cE_in rfl) rfl rfl hl.1 rfl (lv_room (Nat.le_of_ble_eq_true rfl)) dX7_signAt_2 ⟨Nat.le_of_ble_eq_true rfl, Nat.le_of_ble_eq_true rfl⟩) ?_
  refine W.eq (g2 := F0 m 5 ls [.int (b2i (f_reachI σ i))]) rfl ?_
  refine lv_if_eq (tgt := 17) hx hb dX7_signAt_5 (by decide) (fun c_1 => ?_) (fun c_1 => ?_)
  · rw [b2i_eq0] at c_1
    refine lv_iconst (v := 0) hx hb dX7_signAt_17 (by decide) ?_
    exact W.zret (v := 0) hx hb hr (by decide) (fun T9 hT9 _ => ⟨congrArg (fun z9 => Outcome.returned (some (Value.int z9))) (show (0 : Int32) = f_signI σ i from (by first | rfl | (simp [f_signI, b2i, c_1]; done))), hT9⟩) (fun _ h => by cases h) dX7_signAt_18
  · rw [b2i_eq0] at c_1
    have h0 : 0 ≤ i := reachI_0 c_1
    have hb9 : tn i < 60 := reachI_lt c_1
    refine lv_aload_n hx hb dX7_signAt_8 rfl (lv_at hl 0 rfl) ?_
    refine sp_get hx hb hts wi_X7_signAt_434_X7 hown hK hP (κ := 434) (by decide) cE_in rfl 0 (by decide) (hts _ (List.mem_of_getElem? (i := 1) rfl)) (fun _ h => h) rfl dX7_signAt_9 ?_
    refine lv_iload_n hx hb dX7_signAt_12 rfl (lv_at hl 1 rfl) ?_
    refine sp_cald hx hb hK hP (κ := 435) (by decide) 0 cE_inc rfl (tn i) (nI_tn h0).symm (by omega) (by decide) dX7_signAt_13 ?_
    refine lv_goto (tgt := 18) hx hb dX7_signAt_14 (by decide) ?_
    exact W.zret (v := cz (σ 435 (tn i))) hx hb hr (pk_nc _) (fun T9 hT9 _ => ⟨congrArg (fun z9 => Outcome.returned (some (Value.int z9))) (show (cz (σ 435 (tn i)) : Int32) = f_signI σ i from (by first | rfl | (simp [f_signI, b2i, c_1]; done))), hT9⟩) (fun _ h => by cases h) dX7_signAt_18

theorem wi_X7_clear_434_X7 : ∀ w ∈ wsX70, w ∈ wsX7_clear := by decide +kernel
set_option maxHeartbeats 4000000 in
set_option maxRecDepth 100000 in
theorem c_X7_clear_434 (l : Launch) (D : va_G) (ad : Nat → Nat) (cy : Nat → ClassId) (pm : Nat → Nat) (rj : Option Nat) (σ : Nat → Nat → Int32) (sz : Nat) (hi : sp_inj ad 459) : Met l yX7_clear wsX7_clear ({ frames := 0, cells := 0, slots := 0, locals := 0 } : Room) (sp_Pm D (tyG cy) sz [.ref (ad (434))] (cW ad cy pm rj σ)) (sp_Q D (none) (cW ad cy (pm) (rj) (sp_st σ 434 1 0)) (sp_A ad 459 sz)) 0 0 (sp_A ad 459 sz) := by
  refine Met.ofW (cc := cX7_clear) (maxL := 1) (ret := none) (by decide) rfl ?_
  intro p e s m args below meth c s₁ B hml hv
  obtain ⟨rfl, hsz, hP, hK⟩ := hv
  have hx := B.exec
  have hb := B.bytes
  have hr := B.returns
  have hts := atoms_spec (ws := wsX7_clear) B.pre
  have hown : s.vm.findClass RX7 = some m.cls := findClass_of_methodNamed B.named
  have hlocks := B.notSynchronized
  subst hsz
  have hS : va_S (sp_A ad 459 s.heap.size) s.heap s.heap [] := va_S.rf
  have hAk : ∀ k, k < 459 → (sp_A ad 459 s.heap.size) (ad k) := fun k hk => Or.inl ⟨k, hk, rfl⟩
  skip
  have hl := lv_entry ([.ref (ad (434))]) (n := 1) (Nat.le_of_ble_eq_true rfl)
  refine W.eq (lg_entry_eq _ ([.ref (ad (434))]) _) ?_
  generalize (lg_sl ([.ref (ad (434))]) ++ List.replicate (1 - (lg_sl ([.ref (ad (434))])).length) Slot.unset).toArray = ls at hl ⊢
  have hl : lv_has ls 1 [(0, .ref (ad (434)))] := hl
  refine lv_aload_n hx hb dX7_clear_0 rfl (lv_at hl 0 rfl) ?_
  refine lv_iconst (v := 0) hx hb dX7_clear_1 (by decide) ?_
  refine sp_put hx hb hts wi_X7_clear_434_X7 tyX7 tyX7_ok nmX7 hown hK hP hi hAk hS (κ := 434) (by decide) cE_in rfl 1 (by decide) (hts _ (List.mem_of_getElem? (i := 1) rfl)) (fun _ h => h) rfl (ty := tyX7 1) (by decide +kernel) ⟨rfl, rfl⟩ (Nat.le_of_ble_eq_true rfl) (r1 := upd (σ 434) 1 0) (cE_of cE_in (by simp [upd])) dX7_clear_2 (fun H locs hP hS => ?_)
  have hP : va_P D vwCl (cW ad cy pm rj (sp_st σ 434 1 0)) H := hP
  exact W.vret hx hb hr (fun T9 hT9 _ => ⟨rfl, by rw [hT9]; exact hP, hS.F hT9⟩) hS.2.2 dX7_clear_5

theorem wi_X7_append_436_X7 : ∀ w ∈ wsX70, w ∈ wsX7_append := by decide +kernel
set_option maxHeartbeats 4000000 in
set_option maxRecDepth 100000 in
theorem c_X7_append_436 (l : Launch) (D : va_G) (ad : Nat → Nat) (cy : Nat → ClassId) (pm : Nat → Nat) (rj : Option Nat) (σ : Nat → Nat → Int32) (sz : Nat) (hi : sp_inj ad 459) (h0 : 0 ≤ σ 436 1) (x : Int32) : Met l yX7_append wsX7_append ({ frames := 0, cells := 0, slots := 0, locals := 0 } : Room) (sp_Pm D (tyG cy) sz [.ref (ad (436)), .int (x)] (cW ad cy pm rj σ)) (sp_Q D (none) (cW ad cy (pm) (rj) (f_appO σ x)) (sp_A ad 459 sz)) 0 0 (sp_A ad 459 sz) := by
  refine Met.ofW (cc := cX7_append) (maxL := 2) (ret := none) (by decide) rfl ?_
  intro p e s m args below meth c s₁ B hml hv
  obtain ⟨rfl, hsz, hP, hK⟩ := hv
  have hx := B.exec
  have hb := B.bytes
  have hr := B.returns
  have hts := atoms_spec (ws := wsX7_append) B.pre
  have hown : s.vm.findClass RX7 = some m.cls := findClass_of_methodNamed B.named
  have hlocks := B.notSynchronized
  subst hsz
  have hS : va_S (sp_A ad 459 s.heap.size) s.heap s.heap [] := va_S.rf
  have hAk : ∀ k, k < 459 → (sp_A ad 459 s.heap.size) (ad k) := fun k hk => Or.inl ⟨k, hk, rfl⟩
  skip
  have hl := lv_entry ([.ref (ad (436)), .int (x)]) (n := 2) (Nat.le_of_ble_eq_true rfl)
  refine W.eq (lg_entry_eq _ ([.ref (ad (436)), .int (x)]) _) ?_
  generalize (lg_sl ([.ref (ad (436)), .int (x)]) ++ List.replicate (2 - (lg_sl ([.ref (ad (436)), .int (x)])).length) Slot.unset).toArray = ls at hl ⊢
  have hl : lv_has ls 2 [(0, .ref (ad (436))), (1, .int (x))] := hl
  refine lv_aload_n hx hb dX7_append_0 rfl (lv_at hl 0 rfl) ?_
  refine sp_get hx hb hts wi_X7_append_436_X7 hown hK hP (κ := 436) (by decide) cE_out rfl 1 (by decide) (hts _ (List.mem_of_getElem? (i := 1) rfl)) (fun _ h => h) rfl dX7_append_1 ?_
  refine lv_aload_n hx hb dX7_append_4 rfl (lv_at hl 0 rfl) ?_
  refine sp_get hx hb hts wi_X7_append_436_X7 hown hK hP (κ := 436) (by decide) cE_out rfl 0 (by decide) (hts _ (List.mem_of_getElem? (i := 2) rfl)) (fun _ h => h) rfl dX7_append_5 ?_
  refine sp_alen hx hb hK hP (κ := 437) (by decide) 0 cE_outc rfl (v := 90) rfl dX7_append_8 ?_
  refine lv_icmp_ge (tgt := 32) hx hb dX7_append_9 (by decide) (fun c_1 => ?_) (fun c_1 => ?_)
  · skip
    have c_1d := Int32.not_lt.mpr c_1
    have hE9 : cW ad cy (pm) (rj) (σ) = cW ad cy (pm) (rj) (f_appO σ x) := by exact cW_eq rfl (by simp only [f_appO]; first | rw [if_pos (by assumption)] | rw [if_neg (Int32.not_lt.mpr (by assumption))])
    have hP : va_P D vwCl (cW ad cy (pm) (rj) (f_appO σ x)) s.heap := by rw [← hE9]; exact hP
    exact W.vret hx hb hr (fun T9 hT9 _ => ⟨rfl, by rw [hT9]; exact hP, hS.F hT9⟩) hS.2.2 dX7_append_32
  · skip
    have c_1d := Int32.not_le.mp c_1
    have hb9 : tn (σ 436 1) < 90 := tn_lt (b := 90) h0 (by decide) c_1d
    refine lv_aload_n hx hb dX7_append_12 rfl (lv_at hl 0 rfl) ?_
    refine sp_get hx hb hts wi_X7_append_436_X7 hown hK hP (κ := 436) (by decide) cE_out rfl 0 (by decide) (hts _ (List.mem_of_getElem? (i := 2) rfl)) (fun _ h => h) rfl dX7_append_13 ?_
    refine lv_aload_n hx hb dX7_append_16 rfl (lv_at hl 0 rfl) ?_
    refine sp_get hx hb hts wi_X7_append_436_X7 hown hK hP (κ := 436) (by decide) cE_out rfl 1 (by decide) (hts _ (List.mem_of_getElem? (i := 1) rfl)) (fun _ h => h) rfl dX7_append_17 ?_
    refine lv_iload_n hx hb dX7_append_20 rfl (lv_at hl 1 rfl) ?_
    refine sp_cast hx hb hK hP hi hAk hS (κ := 437) (by decide) 0 cE_outc rfl (tn (σ 436 1)) (nI_tn h0).symm (by omega) (by decide) (r1 := upd (σ 437) (tn (σ 436 1)) x) (by rw [cE_outc, cz_upd]) dX7_append_21 (fun H locs hP hS => ?_)
    have hP : va_P D vwCl (cW ad cy pm rj (sp_st σ 437 (tn (σ 436 1)) x)) H := hP
    refine lv_aload_n hx hb dX7_append_22 rfl (lv_at hl 0 rfl) ?_
    refine lv_dup hx hb dX7_append_23 rfl ?_
    refine sp_get hx hb hts wi_X7_append_436_X7 hown hK hP (κ := 436) (by decide) cE_out rfl 1 (by decide) (hts _ (List.mem_of_getElem? (i := 1) rfl)) (fun _ h => h) rfl dX7_append_24 ?_
    refine W.eq (g2 := F0 m 27 ls [.int (σ 436 1), .ref (ad (436))]) (by rw [sp_st_k _ _ _ _ _ _ (by omega)]) ?_
    refine lv_iconst (v := 1) hx hb dX7_append_27 (by decide) ?_
    refine lv_iadd hx hb dX7_append_28 ?_
    refine sp_put hx hb hts wi_X7_append_436_X7 tyX7 tyX7_ok nmX7 hown hK hP hi hAk hS (κ := 436) (by decide) cE_out rfl 1 (by decide) (hts _ (List.mem_of_getElem? (i := 1) rfl)) (fun _ h => h) rfl (ty := tyX7 1) (by decide +kernel) ⟨rfl, rfl⟩ (Nat.le_of_ble_eq_true rfl) (r1 := upd ((sp_st σ 437 (tn (σ 436 1)) x) 436) 1 ((σ 436 1) + 1)) (cE_of cE_out (by simp [upd])) dX7_append_29 (fun H locs hP hS => ?_)
    have hP : va_P D vwCl (cW ad cy pm rj (sp_st (sp_st σ 437 (tn (σ 436 1)) x) 436 1 ((σ 436 1) + 1))) H := hP
    have hE9 : cW ad cy (pm) (rj) (sp_st (sp_st σ 437 (tn (σ 436 1)) x) 436 1 ((σ 436 1) + 1)) = cW ad cy (pm) (rj) (f_appO σ x) := by exact cW_eq rfl (by simp only [f_appO]; first | rw [if_pos (by assumption)] | rw [if_neg (Int32.not_lt.mpr (by assumption))])
    have hP : va_P D vwCl (cW ad cy (pm) (rj) (f_appO σ x)) H := by rw [← hE9]; exact hP
    exact W.vret hx hb hr (fun T9 hT9 _ => ⟨rfl, by rw [hT9]; exact hP, hS.F hT9⟩) hS.2.2 dX7_append_32

theorem wi_X7_reaches_436_X7 : ∀ w ∈ wsX70, w ∈ wsX7_reaches := by decide +kernel
set_option maxHeartbeats 4000000 in
set_option maxRecDepth 100000 in
theorem c_X7_reaches_436 (l : Launch) (D : va_G) (ad : Nat → Nat) (cy : Nat → ClassId) (pm : Nat → Nat) (rj : Option Nat) (σ : Nat → Nat → Int32) (i : Int32) : Met l yX7_reaches wsX7_reaches ({ frames := 0, cells := 0, slots := 0, locals := 0 } : Room) (sp_Pc D (tyG cy) [.ref (ad (436)), .int (i)] (cW ad cy pm rj σ)) (sp_S (some (.int (b2i (f_reachO σ i))))) 0 0 (fun _ => False) := by
  refine Met.ofW (cc := cX7_reaches) (maxL := 2) (ret := (some .boolean)) (by decide) rfl ?_
  intro p e s m args below meth c s₁ B hml hv
  obtain ⟨rfl, hP, hK⟩ := hv
  have hx := B.exec
  have hb := B.bytes
  have hr := B.returns
  have hts := atoms_spec (ws := wsX7_reaches) B.pre
  have hown : s.vm.findClass RX7 = some m.cls := findClass_of_methodNamed B.named
  have hlocks := B.notSynchronized
  have hl := lv_entry ([.ref (ad (436)), .int (i)]) (n := 2) (Nat.le_of_ble_eq_true rfl)
  refine W.eq (lg_entry_eq _ ([.ref (ad (436)), .int (i)]) _) ?_
  generalize (lg_sl ([.ref (ad (436)), .int (i)]) ++ List.replicate (2 - (lg_sl ([.ref (ad (436)), .int (i)])).length) Slot.unset).toArray = ls at hl ⊢
  have hl : lv_has ls 2 [(0, .ref (ad (436))), (1, .int (i))] := hl
  refine lv_iload_n hx hb dX7_reaches_0 rfl (lv_at hl 1 rfl) ?_
  refine lv_if_lt (tgt := 25) hx hb dX7_reaches_1 (by decide) (fun c_1 => ?_) (fun c_1 => ?_)
  · skip
    have c_1d := Int32.not_le.mpr c_1
    refine lv_iconst (v := 0) hx hb dX7_reaches_25 (by decide) ?_
    exact W.zret (v := 0) hx hb hr (by decide) (fun T9 hT9 _ => ⟨congrArg (fun z9 => Outcome.returned (some (Value.int z9))) (show (0 : Int32) = b2i (f_reachO σ i) from (by first | rfl | (simp [f_reachO, b2i, c_1, c_1d]; done))), hT9⟩) (fun _ h => by cases h) dX7_reaches_26
  · skip
    have c_1d := Int32.not_lt.mp c_1
    refine lv_iload_n hx hb dX7_reaches_4 rfl (lv_at hl 1 rfl) ?_
    refine lv_aload_n hx hb dX7_reaches_5 rfl (lv_at hl 0 rfl) ?_
    refine sp_get hx hb hts wi_X7_reaches_436_X7 hown hK hP (κ := 436) (by decide) cE_out rfl 1 (by decide) (hts _ (List.mem_of_getElem? (i := 1) rfl)) (fun _ h => h) rfl dX7_reaches_6 ?_
    refine lv_icmp_ge (tgt := 25) hx hb dX7_reaches_9 (by decide) (fun c_2 => ?_) (fun c_2 => ?_)
    · skip
      have c_2d := Int32.not_lt.mpr c_2
      refine lv_iconst (v := 0) hx hb dX7_reaches_25 (by decide) ?_
      exact W.zret (v := 0) hx hb hr (by decide) (fun T9 hT9 _ => ⟨congrArg (fun z9 => Outcome.returned (some (Value.int z9))) (show (0 : Int32) = b2i (f_reachO σ i) from (by first | rfl | (simp [f_reachO, b2i, c_1, c_1d, c_2, c_2d]; done))), hT9⟩) (fun _ h => by cases h) dX7_reaches_26
    · skip
      have c_2d := Int32.not_le.mp c_2
      refine lv_iload_n hx hb dX7_reaches_12 rfl (lv_at hl 1 rfl) ?_
      refine lv_aload_n hx hb dX7_reaches_13 rfl (lv_at hl 0 rfl) ?_
      refine sp_get hx hb hts wi_X7_reaches_436_X7 hown hK hP (κ := 436) (by decide) cE_out rfl 0 (by decide) (hts _ (List.mem_of_getElem? (i := 2) rfl)) (fun _ h => h) rfl dX7_reaches_14 ?_
      refine sp_alen hx hb hK hP (κ := 437) (by decide) 0 cE_outc rfl (v := 90) rfl dX7_reaches_17 ?_
      refine lv_icmp_ge (tgt := 25) hx hb dX7_reaches_18 (by decide) (fun c_3 => ?_) (fun c_3 => ?_)
      · skip
        have c_3d := Int32.not_lt.mpr c_3
        refine lv_iconst (v := 0) hx hb dX7_reaches_25 (by decide) ?_
        exact W.zret (v := 0) hx hb hr (by decide) (fun T9 hT9 _ => ⟨congrArg (fun z9 => Outcome.returned (some (Value.int z9))) (show (0 : Int32) = b2i (f_reachO σ i) from (by first | rfl | (simp [f_reachO, b2i, c_1, c_1d, c_2, c_2d, c_3, c_3d]; done))), hT9⟩) (fun _ h => by cases h) dX7_reaches_26
      · skip
        have c_3d := Int32.not_le.mp c_3
        refine lv_iconst (v := 1) hx hb dX7_reaches_21 (by decide) ?_
        refine lv_goto (tgt := 26) hx hb dX7_reaches_22 (by decide) ?_
        exact W.zret (v := 1) hx hb hr (by decide) (fun T9 hT9 _ => ⟨congrArg (fun z9 => Outcome.returned (some (Value.int z9))) (show (1 : Int32) = b2i (f_reachO σ i) from (by first | rfl | (simp [f_reachO, b2i, c_1, c_1d, c_2, c_2d, c_3, c_3d]; done))), hT9⟩) (fun _ h => by cases h) dX7_reaches_26

theorem wi_X7_signAt_436_X7 : ∀ w ∈ wsX70, w ∈ wsX7_signAt := by decide +kernel
set_option maxHeartbeats 4000000 in
set_option maxRecDepth 100000 in
theorem c_X7_signAt_436 (l : Launch) (D : va_G) (ad : Nat → Nat) (cy : Nat → ClassId) (pm : Nat → Nat) (rj : Option Nat) (σ : Nat → Nat → Int32) (i : Int32) : Met l yX7_signAt wsX7_signAt ({ frames := 1, cells := 0, slots := 0, locals := 21 } : Room) (sp_Pc D (tyG cy) [.ref (ad (436)), .int (i)] (cW ad cy pm rj σ)) (sp_S (some (.int (f_signO σ i)))) 0 0 (fun _ => False) := by
  refine Met.ofW (cc := cX7_signAt) (maxL := 2) (ret := (some .char)) (by decide) rfl ?_
  intro p e s m args below meth c s₁ B hml hv
  obtain ⟨rfl, hP, hK⟩ := hv
  have hx := B.exec
  have hb := B.bytes
  have hr := B.returns
  have hts := atoms_spec (ws := wsX7_signAt) B.pre
  have hown : s.vm.findClass RX7 = some m.cls := findClass_of_methodNamed B.named
  have hlocks := B.notSynchronized
  have hl := lv_entry ([.ref (ad (436)), .int (i)]) (n := 2) (Nat.le_of_ble_eq_true rfl)
  refine W.eq (lg_entry_eq _ ([.ref (ad (436)), .int (i)]) _) ?_
  generalize (lg_sl ([.ref (ad (436)), .int (i)]) ++ List.replicate (2 - (lg_sl ([.ref (ad (436)), .int (i)])).length) Slot.unset).toArray = ls at hl ⊢
  have hl : lv_has ls 2 [(0, .ref (ad (436))), (1, .int (i))] := hl
  refine lv_aload_n hx hb dX7_signAt_0 rfl (lv_at hl 0 rfl) ?_
  refine lv_iload_n hx hb dX7_signAt_1 rfl (lv_at hl 1 rfl) ?_
  refine sp_call (W.runV (As := [.int (i)]) (rest := []) ⟨hx, hb, hml, hown, hts⟩ (c_X7_reaches_436 l D ad cy pm rj σ i) (cwV 1 hts gX7_signAt_X7_reaches rfl rfl rfl (by decide +kernel) ⟨Nat.le_of_ble_eq_true rfl, Nat.le_of_ble_eq_true rfl⟩) (sp_preV hK hP (κ := 436) (by decide) cE_out rfl) rfl rfl hl.1 rfl (lv_room (Nat.le_of_ble_eq_true rfl)) dX7_signAt_2 ⟨Nat.le_of_ble_eq_true rfl, Nat.le_of_ble_eq_true rfl⟩) ?_
  refine W.eq (g2 := F0 m 5 ls [.int (b2i (f_reachO σ i))]) rfl ?_
  refine lv_if_eq (tgt := 17) hx hb dX7_signAt_5 (by decide) (fun c_1 => ?_) (fun c_1 => ?_)
  · rw [b2i_eq0] at c_1
    refine lv_iconst (v := 0) hx hb dX7_signAt_17 (by decide) ?_
    exact W.zret (v := 0) hx hb hr (by decide) (fun T9 hT9 _ => ⟨congrArg (fun z9 => Outcome.returned (some (Value.int z9))) (show (0 : Int32) = f_signO σ i from (by first | rfl | (simp [f_signO, b2i, c_1]; done))), hT9⟩) (fun _ h => by cases h) dX7_signAt_18
  · rw [b2i_eq0] at c_1
    have h0 : 0 ≤ i := reachO_0 c_1
    have hb9 : tn i < 90 := reachO_lt c_1
    refine lv_aload_n hx hb dX7_signAt_8 rfl (lv_at hl 0 rfl) ?_
    refine sp_get hx hb hts wi_X7_signAt_436_X7 hown hK hP (κ := 436) (by decide) cE_out rfl 0 (by decide) (hts _ (List.mem_of_getElem? (i := 1) rfl)) (fun _ h => h) rfl dX7_signAt_9 ?_
    refine lv_iload_n hx hb dX7_signAt_12 rfl (lv_at hl 1 rfl) ?_
    refine sp_cald hx hb hK hP (κ := 437) (by decide) 0 cE_outc rfl (tn i) (nI_tn h0).symm (by omega) (by decide) dX7_signAt_13 ?_
    refine lv_goto (tgt := 18) hx hb dX7_signAt_14 (by decide) ?_
    exact W.zret (v := cz (σ 437 (tn i))) hx hb hr (pk_nc _) (fun T9 hT9 _ => ⟨congrArg (fun z9 => Outcome.returned (some (Value.int z9))) (show (cz (σ 437 (tn i)) : Int32) = f_signO σ i from (by first | rfl | (simp [f_signO, b2i, c_1]; done))), hT9⟩) (fun _ h => by cases h) dX7_signAt_18

theorem wi_X7_clear_436_X7 : ∀ w ∈ wsX70, w ∈ wsX7_clear := by decide +kernel
set_option maxHeartbeats 4000000 in
set_option maxRecDepth 100000 in
theorem c_X7_clear_436 (l : Launch) (D : va_G) (ad : Nat → Nat) (cy : Nat → ClassId) (pm : Nat → Nat) (rj : Option Nat) (σ : Nat → Nat → Int32) (sz : Nat) (hi : sp_inj ad 459) : Met l yX7_clear wsX7_clear ({ frames := 0, cells := 0, slots := 0, locals := 0 } : Room) (sp_Pm D (tyG cy) sz [.ref (ad (436))] (cW ad cy pm rj σ)) (sp_Q D (none) (cW ad cy (pm) (rj) (sp_st σ 436 1 0)) (sp_A ad 459 sz)) 0 0 (sp_A ad 459 sz) := by
  refine Met.ofW (cc := cX7_clear) (maxL := 1) (ret := none) (by decide) rfl ?_
  intro p e s m args below meth c s₁ B hml hv
  obtain ⟨rfl, hsz, hP, hK⟩ := hv
  have hx := B.exec
  have hb := B.bytes
  have hr := B.returns
  have hts := atoms_spec (ws := wsX7_clear) B.pre
  have hown : s.vm.findClass RX7 = some m.cls := findClass_of_methodNamed B.named
  have hlocks := B.notSynchronized
  subst hsz
  have hS : va_S (sp_A ad 459 s.heap.size) s.heap s.heap [] := va_S.rf
  have hAk : ∀ k, k < 459 → (sp_A ad 459 s.heap.size) (ad k) := fun k hk => Or.inl ⟨k, hk, rfl⟩
  skip
  have hl := lv_entry ([.ref (ad (436))]) (n := 1) (Nat.le_of_ble_eq_true rfl)
  refine W.eq (lg_entry_eq _ ([.ref (ad (436))]) _) ?_
  generalize (lg_sl ([.ref (ad (436))]) ++ List.replicate (1 - (lg_sl ([.ref (ad (436))])).length) Slot.unset).toArray = ls at hl ⊢
  have hl : lv_has ls 1 [(0, .ref (ad (436)))] := hl
  refine lv_aload_n hx hb dX7_clear_0 rfl (lv_at hl 0 rfl) ?_
  refine lv_iconst (v := 0) hx hb dX7_clear_1 (by decide) ?_
  refine sp_put hx hb hts wi_X7_clear_436_X7 tyX7 tyX7_ok nmX7 hown hK hP hi hAk hS (κ := 436) (by decide) cE_out rfl 1 (by decide) (hts _ (List.mem_of_getElem? (i := 1) rfl)) (fun _ h => h) rfl (ty := tyX7 1) (by decide +kernel) ⟨rfl, rfl⟩ (Nat.le_of_ble_eq_true rfl) (r1 := upd (σ 436) 1 0) (cE_of cE_out (by simp [upd])) dX7_clear_2 (fun H locs hP hS => ?_)
  have hP : va_P D vwCl (cW ad cy pm rj (sp_st σ 436 1 0)) H := hP
  exact W.vret hx hb hr (fun T9 hT9 _ => ⟨rfl, by rw [hT9]; exact hP, hS.F hT9⟩) hS.2.2 dX7_clear_5

set_option maxHeartbeats 4000000 in
set_option maxRecDepth 100000 in
theorem c_X9_isStride (l : Launch) (D : va_G) (ad : Nat → Nat) (cy : Nat → ClassId) (pm : Nat → Nat) (rj : Option Nat) (σ : Nat → Nat → Int32) (x : Int32) : Met l yX9_isStride wsX9_isStride ({ frames := 0, cells := 0, slots := 0, locals := 0 } : Room) (sp_Pc D (tyG cy) [.int (x)] (cW ad cy pm rj σ)) (sp_S (some (.int (b2i (f_in 1 9 x))))) 0 0 (fun _ => False) := by
  refine Met.ofW (cc := cX9_isStride) (maxL := 1) (ret := (some .boolean)) (by decide) rfl ?_
  intro p e s m args below meth c s₁ B hml hv
  obtain ⟨rfl, hP, hK⟩ := hv
  have hx := B.exec
  have hb := B.bytes
  have hr := B.returns
  have hts := atoms_spec (ws := wsX9_isStride) B.pre
  have hown : s.vm.findClass RX9 = some m.cls := findClass_of_methodNamed B.named
  have hlocks := B.notSynchronized
  have hl := lv_entry ([.int (x)]) (n := 1) (Nat.le_of_ble_eq_true rfl)
  refine W.eq (lg_entry_eq _ ([.int (x)]) _) ?_
  generalize (lg_sl ([.int (x)]) ++ List.replicate (1 - (lg_sl ([.int (x)])).length) Slot.unset).toArray = ls at hl ⊢
  have hl : lv_has ls 1 [(0, .int (x))] := hl
  refine lv_iload_n hx hb dX9_isStride_0 rfl (lv_at hl 0 rfl) ?_
  refine lv_iconst (v := 1) hx hb dX9_isStride_1 (by decide) ?_
  refine lv_icmp_lt (tgt := 15) hx hb dX9_isStride_2 (by decide) (fun c_1 => ?_) (fun c_1 => ?_)
  · skip
    have c_1d := Int32.not_le.mpr c_1
    refine lv_iconst (v := 0) hx hb dX9_isStride_15 (by decide) ?_
    exact W.zret (v := 0) hx hb hr (by decide) (fun T9 hT9 _ => ⟨congrArg (fun z9 => Outcome.returned (some (Value.int z9))) (show (0 : Int32) = b2i (f_in 1 9 x) from (by first | rfl | (simp [f_in, b2i, c_1, c_1d]; done))), hT9⟩) (fun _ h => by cases h) dX9_isStride_16
  · skip
    have c_1d := Int32.not_lt.mp c_1
    refine lv_iload_n hx hb dX9_isStride_5 rfl (lv_at hl 0 rfl) ?_
    refine lv_bipush (v := 9) hx hb dX9_isStride_6 (by decide) ?_
    refine lv_icmp_gt (tgt := 15) hx hb dX9_isStride_8 (by decide) (fun c_2 => ?_) (fun c_2 => ?_)
    · skip
      have c_2d := Int32.not_le.mpr c_2
      refine lv_iconst (v := 0) hx hb dX9_isStride_15 (by decide) ?_
      exact W.zret (v := 0) hx hb hr (by decide) (fun T9 hT9 _ => ⟨congrArg (fun z9 => Outcome.returned (some (Value.int z9))) (show (0 : Int32) = b2i (f_in 1 9 x) from (by first | rfl | (simp [f_in, b2i, c_1, c_1d, c_2, c_2d]; done))), hT9⟩) (fun _ h => by cases h) dX9_isStride_16
    · skip
      have c_2d := Int32.not_lt.mp c_2
      refine lv_iconst (v := 1) hx hb dX9_isStride_11 (by decide) ?_
      refine lv_goto (tgt := 16) hx hb dX9_isStride_12 (by decide) ?_
      exact W.zret (v := 1) hx hb hr (by decide) (fun T9 hT9 _ => ⟨congrArg (fun z9 => Outcome.returned (some (Value.int z9))) (show (1 : Int32) = b2i (f_in 1 9 x) from (by first | rfl | (simp [f_in, b2i, c_1, c_1d, c_2, c_2d]; done))), hT9⟩) (fun _ h => by cases h) dX9_isStride_16

set_option maxHeartbeats 4000000 in
set_option maxRecDepth 100000 in
theorem c_X9_isTime (l : Launch) (D : va_G) (ad : Nat → Nat) (cy : Nat → ClassId) (pm : Nat → Nat) (rj : Option Nat) (σ : Nat → Nat → Int32) (x : Int32) : Met l yX9_isTime wsX9_isTime ({ frames := 0, cells := 0, slots := 0, locals := 0 } : Room) (sp_Pc D (tyG cy) [.int (x)] (cW ad cy pm rj σ)) (sp_S (some (.int (b2i (f_in 0 999 x))))) 0 0 (fun _ => False) := by
  refine Met.ofW (cc := cX9_isTime) (maxL := 1) (ret := (some .boolean)) (by decide) rfl ?_
  intro p e s m args below meth c s₁ B hml hv
  obtain ⟨rfl, hP, hK⟩ := hv
  have hx := B.exec
  have hb := B.bytes
  have hr := B.returns
  have hts := atoms_spec (ws := wsX9_isTime) B.pre
  have hown : s.vm.findClass RX9 = some m.cls := findClass_of_methodNamed B.named
  have hlocks := B.notSynchronized
  have hl := lv_entry ([.int (x)]) (n := 1) (Nat.le_of_ble_eq_true rfl)
  refine W.eq (lg_entry_eq _ ([.int (x)]) _) ?_
  generalize (lg_sl ([.int (x)]) ++ List.replicate (1 - (lg_sl ([.int (x)])).length) Slot.unset).toArray = ls at hl ⊢
  have hl : lv_has ls 1 [(0, .int (x))] := hl
  refine lv_iload_n hx hb dX9_isTime_0 rfl (lv_at hl 0 rfl) ?_
  refine lv_if_lt (tgt := 15) hx hb dX9_isTime_1 (by decide) (fun c_1 => ?_) (fun c_1 => ?_)
  · skip
    have c_1d := Int32.not_le.mpr c_1
    refine lv_iconst (v := 0) hx hb dX9_isTime_15 (by decide) ?_
    exact W.zret (v := 0) hx hb hr (by decide) (fun T9 hT9 _ => ⟨congrArg (fun z9 => Outcome.returned (some (Value.int z9))) (show (0 : Int32) = b2i (f_in 0 999 x) from (by first | rfl | (simp [f_in, b2i, c_1, c_1d]; done))), hT9⟩) (fun _ h => by cases h) dX9_isTime_16
  · skip
    have c_1d := Int32.not_lt.mp c_1
    refine lv_iload_n hx hb dX9_isTime_4 rfl (lv_at hl 0 rfl) ?_
    refine lv_sipush (v := 999) hx hb dX9_isTime_5 (by decide) ?_
    refine lv_icmp_gt (tgt := 15) hx hb dX9_isTime_8 (by decide) (fun c_2 => ?_) (fun c_2 => ?_)
    · skip
      have c_2d := Int32.not_le.mpr c_2
      refine lv_iconst (v := 0) hx hb dX9_isTime_15 (by decide) ?_
      exact W.zret (v := 0) hx hb hr (by decide) (fun T9 hT9 _ => ⟨congrArg (fun z9 => Outcome.returned (some (Value.int z9))) (show (0 : Int32) = b2i (f_in 0 999 x) from (by first | rfl | (simp [f_in, b2i, c_1, c_1d, c_2, c_2d]; done))), hT9⟩) (fun _ h => by cases h) dX9_isTime_16
    · skip
      have c_2d := Int32.not_lt.mp c_2
      refine lv_iconst (v := 1) hx hb dX9_isTime_11 (by decide) ?_
      refine lv_goto (tgt := 16) hx hb dX9_isTime_12 (by decide) ?_
      exact W.zret (v := 1) hx hb hr (by decide) (fun T9 hT9 _ => ⟨congrArg (fun z9 => Outcome.returned (some (Value.int z9))) (show (1 : Int32) = b2i (f_in 0 999 x) from (by first | rfl | (simp [f_in, b2i, c_1, c_1d, c_2, c_2d]; done))), hT9⟩) (fun _ h => by cases h) dX9_isTime_16

set_option maxHeartbeats 4000000 in
set_option maxRecDepth 100000 in
theorem c_X9_isDepth (l : Launch) (D : va_G) (ad : Nat → Nat) (cy : Nat → ClassId) (pm : Nat → Nat) (rj : Option Nat) (σ : Nat → Nat → Int32) (x : Int32) : Met l yX9_isDepth wsX9_isDepth ({ frames := 0, cells := 0, slots := 0, locals := 0 } : Room) (sp_Pc D (tyG cy) [.int (x)] (cW ad cy pm rj σ)) (sp_S (some (.int (b2i (f_in 1 9 x))))) 0 0 (fun _ => False) := by
  refine Met.ofW (cc := cX9_isDepth) (maxL := 1) (ret := (some .boolean)) (by decide) rfl ?_
  intro p e s m args below meth c s₁ B hml hv
  obtain ⟨rfl, hP, hK⟩ := hv
  have hx := B.exec
  have hb := B.bytes
  have hr := B.returns
  have hts := atoms_spec (ws := wsX9_isDepth) B.pre
  have hown : s.vm.findClass RX9 = some m.cls := findClass_of_methodNamed B.named
  have hlocks := B.notSynchronized
  have hl := lv_entry ([.int (x)]) (n := 1) (Nat.le_of_ble_eq_true rfl)
  refine W.eq (lg_entry_eq _ ([.int (x)]) _) ?_
  generalize (lg_sl ([.int (x)]) ++ List.replicate (1 - (lg_sl ([.int (x)])).length) Slot.unset).toArray = ls at hl ⊢
  have hl : lv_has ls 1 [(0, .int (x))] := hl
  refine lv_iload_n hx hb dX9_isDepth_0 rfl (lv_at hl 0 rfl) ?_
  refine lv_iconst (v := 1) hx hb dX9_isDepth_1 (by decide) ?_
  refine lv_icmp_lt (tgt := 15) hx hb dX9_isDepth_2 (by decide) (fun c_1 => ?_) (fun c_1 => ?_)
  · skip
    have c_1d := Int32.not_le.mpr c_1
    refine lv_iconst (v := 0) hx hb dX9_isDepth_15 (by decide) ?_
    exact W.zret (v := 0) hx hb hr (by decide) (fun T9 hT9 _ => ⟨congrArg (fun z9 => Outcome.returned (some (Value.int z9))) (show (0 : Int32) = b2i (f_in 1 9 x) from (by first | rfl | (simp [f_in, b2i, c_1, c_1d]; done))), hT9⟩) (fun _ h => by cases h) dX9_isDepth_16
  · skip
    have c_1d := Int32.not_lt.mp c_1
    refine lv_iload_n hx hb dX9_isDepth_5 rfl (lv_at hl 0 rfl) ?_
    refine lv_bipush (v := 9) hx hb dX9_isDepth_6 (by decide) ?_
    refine lv_icmp_gt (tgt := 15) hx hb dX9_isDepth_8 (by decide) (fun c_2 => ?_) (fun c_2 => ?_)
    · skip
      have c_2d := Int32.not_le.mpr c_2
      refine lv_iconst (v := 0) hx hb dX9_isDepth_15 (by decide) ?_
      exact W.zret (v := 0) hx hb hr (by decide) (fun T9 hT9 _ => ⟨congrArg (fun z9 => Outcome.returned (some (Value.int z9))) (show (0 : Int32) = b2i (f_in 1 9 x) from (by first | rfl | (simp [f_in, b2i, c_1, c_1d, c_2, c_2d]; done))), hT9⟩) (fun _ h => by cases h) dX9_isDepth_16
    · skip
      have c_2d := Int32.not_lt.mp c_2
      refine lv_iconst (v := 1) hx hb dX9_isDepth_11 (by decide) ?_
      refine lv_goto (tgt := 16) hx hb dX9_isDepth_12 (by decide) ?_
      exact W.zret (v := 1) hx hb hr (by decide) (fun T9 hT9 _ => ⟨congrArg (fun z9 => Outcome.returned (some (Value.int z9))) (show (1 : Int32) = b2i (f_in 1 9 x) from (by first | rfl | (simp [f_in, b2i, c_1, c_1d, c_2, c_2d]; done))), hT9⟩) (fun _ h => by cases h) dX9_isDepth_16

set_option maxHeartbeats 4000000 in
set_option maxRecDepth 100000 in
theorem c_X9_isLevel (l : Launch) (D : va_G) (ad : Nat → Nat) (cy : Nat → ClassId) (pm : Nat → Nat) (rj : Option Nat) (σ : Nat → Nat → Int32) (x : Int32) : Met l yX9_isLevel wsX9_isLevel ({ frames := 0, cells := 0, slots := 0, locals := 0 } : Room) (sp_Pc D (tyG cy) [.int (x)] (cW ad cy pm rj σ)) (sp_S (some (.int (b2i (f_in 0 8 x))))) 0 0 (fun _ => False) := by
  refine Met.ofW (cc := cX9_isLevel) (maxL := 1) (ret := (some .boolean)) (by decide) rfl ?_
  intro p e s m args below meth c s₁ B hml hv
  obtain ⟨rfl, hP, hK⟩ := hv
  have hx := B.exec
  have hb := B.bytes
  have hr := B.returns
  have hts := atoms_spec (ws := wsX9_isLevel) B.pre
  have hown : s.vm.findClass RX9 = some m.cls := findClass_of_methodNamed B.named
  have hlocks := B.notSynchronized
  have hl := lv_entry ([.int (x)]) (n := 1) (Nat.le_of_ble_eq_true rfl)
  refine W.eq (lg_entry_eq _ ([.int (x)]) _) ?_
  generalize (lg_sl ([.int (x)]) ++ List.replicate (1 - (lg_sl ([.int (x)])).length) Slot.unset).toArray = ls at hl ⊢
  have hl : lv_has ls 1 [(0, .int (x))] := hl
  refine lv_iload_n hx hb dX9_isLevel_0 rfl (lv_at hl 0 rfl) ?_
  refine lv_if_lt (tgt := 14) hx hb dX9_isLevel_1 (by decide) (fun c_1 => ?_) (fun c_1 => ?_)
  · skip
    have c_1d := Int32.not_le.mpr c_1
    refine lv_iconst (v := 0) hx hb dX9_isLevel_14 (by decide) ?_
    exact W.zret (v := 0) hx hb hr (by decide) (fun T9 hT9 _ => ⟨congrArg (fun z9 => Outcome.returned (some (Value.int z9))) (show (0 : Int32) = b2i (f_in 0 8 x) from (by first | rfl | (simp [f_in, b2i, c_1, c_1d]; done))), hT9⟩) (fun _ h => by cases h) dX9_isLevel_15
  · skip
    have c_1d := Int32.not_lt.mp c_1
    refine lv_iload_n hx hb dX9_isLevel_4 rfl (lv_at hl 0 rfl) ?_
    refine lv_bipush (v := 8) hx hb dX9_isLevel_5 (by decide) ?_
    refine lv_icmp_gt (tgt := 14) hx hb dX9_isLevel_7 (by decide) (fun c_2 => ?_) (fun c_2 => ?_)
    · skip
      have c_2d := Int32.not_le.mpr c_2
      refine lv_iconst (v := 0) hx hb dX9_isLevel_14 (by decide) ?_
      exact W.zret (v := 0) hx hb hr (by decide) (fun T9 hT9 _ => ⟨congrArg (fun z9 => Outcome.returned (some (Value.int z9))) (show (0 : Int32) = b2i (f_in 0 8 x) from (by first | rfl | (simp [f_in, b2i, c_1, c_1d, c_2, c_2d]; done))), hT9⟩) (fun _ h => by cases h) dX9_isLevel_15
    · skip
      have c_2d := Int32.not_lt.mp c_2
      refine lv_iconst (v := 1) hx hb dX9_isLevel_10 (by decide) ?_
      refine lv_goto (tgt := 15) hx hb dX9_isLevel_11 (by decide) ?_
      exact W.zret (v := 1) hx hb hr (by decide) (fun T9 hT9 _ => ⟨congrArg (fun z9 => Outcome.returned (some (Value.int z9))) (show (1 : Int32) = b2i (f_in 0 8 x) from (by first | rfl | (simp [f_in, b2i, c_1, c_1d, c_2, c_2d]; done))), hT9⟩) (fun _ h => by cases h) dX9_isLevel_15

set_option maxHeartbeats 4000000 in
set_option maxRecDepth 100000 in
theorem c_X9_isRow (l : Launch) (D : va_G) (ad : Nat → Nat) (cy : Nat → ClassId) (pm : Nat → Nat) (rj : Option Nat) (σ : Nat → Nat → Int32) (x : Int32) : Met l yX9_isRow wsX9_isRow ({ frames := 0, cells := 0, slots := 0, locals := 0 } : Room) (sp_Pc D (tyG cy) [.int (x)] (cW ad cy pm rj σ)) (sp_S (some (.int (b2i (f_isRow x))))) 0 0 (fun _ => False) := by
  refine Met.ofW (cc := cX9_isRow) (maxL := 1) (ret := (some .boolean)) (by decide) rfl ?_
  intro p e s m args below meth c s₁ B hml hv
  obtain ⟨rfl, hP, hK⟩ := hv
  have hx := B.exec
  have hb := B.bytes
  have hr := B.returns
  have hts := atoms_spec (ws := wsX9_isRow) B.pre
  have hown : s.vm.findClass RX9 = some m.cls := findClass_of_methodNamed B.named
  have hlocks := B.notSynchronized
  have hl := lv_entry ([.int (x)]) (n := 1) (Nat.le_of_ble_eq_true rfl)
  refine W.eq (lg_entry_eq _ ([.int (x)]) _) ?_
  generalize (lg_sl ([.int (x)]) ++ List.replicate (1 - (lg_sl ([.int (x)])).length) Slot.unset).toArray = ls at hl ⊢
  have hl : lv_has ls 1 [(0, .int (x))] := hl
  refine lv_iload_n hx hb dX9_isRow_0 rfl (lv_at hl 0 rfl) ?_
  refine lv_if_lt (tgt := 14) hx hb dX9_isRow_1 (by decide) (fun c_1 => ?_) (fun c_1 => ?_)
  · skip
    have c_1d := Int32.not_le.mpr c_1
    refine lv_iconst (v := 0) hx hb dX9_isRow_14 (by decide) ?_
    exact W.zret (v := 0) hx hb hr (by decide) (fun T9 hT9 _ => ⟨congrArg (fun z9 => Outcome.returned (some (Value.int z9))) (show (0 : Int32) = b2i (f_isRow x) from (by first | rfl | (simp [f_isRow, b2i, c_1, c_1d]; done))), hT9⟩) (fun _ h => by cases h) dX9_isRow_15
  · skip
    have c_1d := Int32.not_lt.mp c_1
    refine lv_iload_n hx hb dX9_isRow_4 rfl (lv_at hl 0 rfl) ?_
    refine lv_bipush (v := 10) hx hb dX9_isRow_5 (by decide) ?_
    refine lv_icmp_ge (tgt := 14) hx hb dX9_isRow_7 (by decide) (fun c_2 => ?_) (fun c_2 => ?_)
    · skip
      have c_2d := Int32.not_lt.mpr c_2
      refine lv_iconst (v := 0) hx hb dX9_isRow_14 (by decide) ?_
      exact W.zret (v := 0) hx hb hr (by decide) (fun T9 hT9 _ => ⟨congrArg (fun z9 => Outcome.returned (some (Value.int z9))) (show (0 : Int32) = b2i (f_isRow x) from (by first | rfl | (simp [f_isRow, b2i, c_1, c_1d, c_2, c_2d]; done))), hT9⟩) (fun _ h => by cases h) dX9_isRow_15
    · skip
      have c_2d := Int32.not_le.mp c_2
      refine lv_iconst (v := 1) hx hb dX9_isRow_10 (by decide) ?_
      refine lv_goto (tgt := 15) hx hb dX9_isRow_11 (by decide) ?_
      exact W.zret (v := 1) hx hb hr (by decide) (fun T9 hT9 _ => ⟨congrArg (fun z9 => Outcome.returned (some (Value.int z9))) (show (1 : Int32) = b2i (f_isRow x) from (by first | rfl | (simp [f_isRow, b2i, c_1, c_1d, c_2, c_2d]; done))), hT9⟩) (fun _ h => by cases h) dX9_isRow_15

set_option maxHeartbeats 4000000 in
set_option maxRecDepth 100000 in
theorem c_X9_isCell (l : Launch) (D : va_G) (ad : Nat → Nat) (cy : Nat → ClassId) (pm : Nat → Nat) (rj : Option Nat) (σ : Nat → Nat → Int32) (r : Int32) (c1 : Int32) : Met l yX9_isCell wsX9_isCell ({ frames := 1, cells := 0, slots := 0, locals := 20 } : Room) (sp_Pc D (tyG cy) [.int (r), .int (c1)] (cW ad cy pm rj σ)) (sp_S (some (.int (b2i (f_isCell r c1))))) 0 0 (fun _ => False) := by
  refine Met.ofW (cc := cX9_isCell) (maxL := 2) (ret := (some .boolean)) (by decide) rfl ?_
  intro p e s m args below meth c s₁ B hml hv
  obtain ⟨rfl, hP, hK⟩ := hv
  have hx := B.exec
  have hb := B.bytes
  have hr := B.returns
  have hts := atoms_spec (ws := wsX9_isCell) B.pre
  have hown : s.vm.findClass RX9 = some m.cls := findClass_of_methodNamed B.named
  have hlocks := B.notSynchronized
  have hl := lv_entry ([.int (r), .int (c1)]) (n := 2) (Nat.le_of_ble_eq_true rfl)
  refine W.eq (lg_entry_eq _ ([.int (r), .int (c1)]) _) ?_
  generalize (lg_sl ([.int (r), .int (c1)]) ++ List.replicate (2 - (lg_sl ([.int (r), .int (c1)])).length) Slot.unset).toArray = ls at hl ⊢
  have hl : lv_has ls 2 [(0, .int (r)), (1, .int (c1))] := hl
  refine lv_iload_n hx hb dX9_isCell_0 rfl (lv_at hl 0 rfl) ?_
  refine sp_call (W.runS (As := [.int (r)]) (rest := []) ⟨hx, hb, hml, hown, hts⟩ (c_X9_isRow l D ad cy pm rj σ r) (va_cwS 1 hts gX9_isCell_X9_isRow rfl rfl rfl (by decide +kernel) ⟨Nat.le_of_ble_eq_true rfl, Nat.le_of_ble_eq_true rfl⟩) (sp_preS hK hP) rfl rfl hl.1 rfl (lv_room (Nat.le_of_ble_eq_true rfl)) dX9_isCell_1 ⟨Nat.le_of_ble_eq_true rfl, Nat.le_of_ble_eq_true rfl⟩) ?_
  refine W.eq (g2 := F0 m 4 ls [.int (b2i (f_isRow r))]) rfl ?_
  refine lv_if_eq (tgt := 21) hx hb dX9_isCell_4 (by decide) (fun c_1 => ?_) (fun c_1 => ?_)
  · rw [b2i_eq0] at c_1
    refine lv_iconst (v := 0) hx hb dX9_isCell_21 (by decide) ?_
    exact W.zret (v := 0) hx hb hr (by decide) (fun T9 hT9 _ => ⟨congrArg (fun z9 => Outcome.returned (some (Value.int z9))) (show (0 : Int32) = b2i (f_isCell r c1) from (by first | rfl | (simp [f_isCell, b2i, c_1]; done))), hT9⟩) (fun _ h => by cases h) dX9_isCell_22
  · rw [b2i_eq0] at c_1
    refine lv_iload_n hx hb dX9_isCell_7 rfl (lv_at hl 1 rfl) ?_
    refine lv_if_lt (tgt := 21) hx hb dX9_isCell_8 (by decide) (fun c_2 => ?_) (fun c_2 => ?_)
    · skip
      have c_2d := Int32.not_le.mpr c_2
      refine lv_iconst (v := 0) hx hb dX9_isCell_21 (by decide) ?_
      exact W.zret (v := 0) hx hb hr (by decide) (fun T9 hT9 _ => ⟨congrArg (fun z9 => Outcome.returned (some (Value.int z9))) (show (0 : Int32) = b2i (f_isCell r c1) from (by first | rfl | (simp [f_isCell, b2i, c_1, c_2, c_2d]; done))), hT9⟩) (fun _ h => by cases h) dX9_isCell_22
    · skip
      have c_2d := Int32.not_lt.mp c_2
      refine lv_iload_n hx hb dX9_isCell_11 rfl (lv_at hl 1 rfl) ?_
      refine lv_bipush (v := 20) hx hb dX9_isCell_12 (by decide) ?_
      refine lv_icmp_ge (tgt := 21) hx hb dX9_isCell_14 (by decide) (fun c_3 => ?_) (fun c_3 => ?_)
      · skip
        have c_3d := Int32.not_lt.mpr c_3
        refine lv_iconst (v := 0) hx hb dX9_isCell_21 (by decide) ?_
        exact W.zret (v := 0) hx hb hr (by decide) (fun T9 hT9 _ => ⟨congrArg (fun z9 => Outcome.returned (some (Value.int z9))) (show (0 : Int32) = b2i (f_isCell r c1) from (by first | rfl | (simp [f_isCell, b2i, c_1, c_2, c_2d, c_3, c_3d]; done))), hT9⟩) (fun _ h => by cases h) dX9_isCell_22
      · skip
        have c_3d := Int32.not_le.mp c_3
        refine lv_iconst (v := 1) hx hb dX9_isCell_17 (by decide) ?_
        refine lv_goto (tgt := 22) hx hb dX9_isCell_18 (by decide) ?_
        exact W.zret (v := 1) hx hb hr (by decide) (fun T9 hT9 _ => ⟨congrArg (fun z9 => Outcome.returned (some (Value.int z9))) (show (1 : Int32) = b2i (f_isCell r c1) from (by first | rfl | (simp [f_isCell, b2i, c_1, c_2, c_2d, c_3, c_3d]; done))), hT9⟩) (fun _ h => by cases h) dX9_isCell_22

theorem wi_X4_errorsWith_X3 : ∀ w ∈ wsX30, w ∈ wsX4_errorsWith := by decide +kernel
set_option maxHeartbeats 4000000 in
set_option maxRecDepth 100000 in
theorem c_X4_errorsWith (l : Launch) (D : va_G) (ad : Nat → Nat) (cy : Nat → ClassId) (pm : Nat → Nat) (rj : Option Nat) (σ : Nat → Nat → Int32) (sz : Nat) (hi : sp_inj ad 459) (k : Nat) (hk : k < 30) (r : Int32) (c1 : Int32) : Met l yX4_errorsWith wsX4_errorsWith ({ frames := 4, cells := 0, slots := 0, locals := 94 } : Room) (sp_Pm D (tyG cy) sz [.ref (ad (430)), .ref (ad (9 + k)), .int (r), .int (c1)] (cW ad cy pm rj σ)) (sp_Q D (some (.int (f_errsW σ k r c1))) (cW ad cy (pm) (rj) (σ)) (sp_A ad 459 sz)) 0 0 (sp_A ad 459 sz) := by
  refine Met.ofW (cc := cX4_errorsWith) (maxL := 7) (ret := (some .int)) (by decide) rfl ?_
  intro p e s m args below meth c s₁ B hml hv
  obtain ⟨rfl, hsz, hP, hK⟩ := hv
  have hx := B.exec
  have hb := B.bytes
  have hr := B.returns
  have hts := atoms_spec (ws := wsX4_errorsWith) B.pre
  have hown : s.vm.findClass RX4 = some m.cls := findClass_of_methodNamed B.named
  have hlocks := B.notSynchronized
  subst hsz
  have hS : va_S (sp_A ad 459 s.heap.size) s.heap s.heap [] := va_S.rf
  have hAk : ∀ k, k < 459 → (sp_A ad 459 s.heap.size) (ad k) := fun k hk => Or.inl ⟨k, hk, rfl⟩
  skip
  have hl := lv_entry ([.ref (ad (430)), .ref (ad (9 + k)), .int (r), .int (c1)]) (n := 7) (Nat.le_of_ble_eq_true rfl)
  refine W.eq (lg_entry_eq _ ([.ref (ad (430)), .ref (ad (9 + k)), .int (r), .int (c1)]) _) ?_
  generalize (lg_sl ([.ref (ad (430)), .ref (ad (9 + k)), .int (r), .int (c1)]) ++ List.replicate (7 - (lg_sl ([.ref (ad (430)), .ref (ad (9 + k)), .int (r), .int (c1)])).length) Slot.unset).toArray = ls at hl ⊢
  have hl : lv_has ls 7 [(0, .ref (ad (430))), (1, .ref (ad (9 + k))), (2, .int (r)), (3, .int (c1))] := hl
  refine lv_aload_n hx hb dX4_errorsWith_0 rfl (lv_at hl 1 rfl) ?_
  refine sp_get hx hb hts wi_X4_errorsWith_X3 hown hK hP (κ := 9 + k) (by omega) (cE_print (by omega) (by omega)) rfl 4 (by decide) (hts _ (List.mem_of_getElem? (i := 1) rfl)) (fun _ h => h) rfl dX4_errorsWith_1 ?_
  refine lv_istore (lv' := [(4, .int (σ (9 + k) 4)), (0, .ref (ad (430))), (1, .ref (ad (9 + k))), (2, .int (r)), (3, .int (c1))]) hx hb dX4_errorsWith_4 hl (by decide) rfl (fun ls hl => ?_)
  refine lv_aload_n hx hb dX4_errorsWith_6 rfl (lv_at hl 2 rfl) ?_
  refine sp_get hx hb hts wi_X4_errorsWith_X3 hown hK hP (κ := 9 + k) (by omega) (cE_print (by omega) (by omega)) rfl 5 (by decide) (hts _ (List.mem_of_getElem? (i := 2) rfl)) (fun _ h => h) rfl dX4_errorsWith_7 ?_
  refine lv_istore (lv' := [(5, .int (σ (9 + k) 5)), (4, .int (σ (9 + k) 4)), (0, .ref (ad (430))), (1, .ref (ad (9 + k))), (2, .int (r)), (3, .int (c1))]) hx hb dX4_errorsWith_10 hl (by decide) rfl (fun ls hl => ?_)
  refine lv_aload_n hx hb dX4_errorsWith_12 rfl (lv_at hl 3 rfl) ?_
  refine lv_iload_n hx hb dX4_errorsWith_13 rfl (lv_at hl 4 rfl) ?_
  refine sp_put hx hb hts wi_X4_errorsWith_X3 tyX3 tyX3_ok nmX3 hown hK hP hi hAk hS (κ := 9 + k) (by omega) (cE_print (by omega) (by omega)) rfl 4 (by decide) (hts _ (List.mem_of_getElem? (i := 1) rfl)) (fun _ h => h) rfl (ty := tyX3 4) (by decide +kernel) ⟨rfl, rfl⟩ (Nat.le_of_ble_eq_true rfl) (r1 := upd (σ (9 + k)) 4 r) (cE_of (cE_print (by omega) (by omega)) (by simp [upd])) dX4_errorsWith_14 (fun H locs hP hS => ?_)
  have hP : va_P D vwCl (cW ad cy pm rj (sp_st σ (9 + k) 4 r)) H := hP
  refine lv_aload_n hx hb dX4_errorsWith_17 rfl (lv_at hl 3 rfl) ?_
  refine lv_iload_n hx hb dX4_errorsWith_18 rfl (lv_at hl 5 rfl) ?_
  refine sp_put hx hb hts wi_X4_errorsWith_X3 tyX3 tyX3_ok nmX3 hown hK hP hi hAk hS (κ := 9 + k) (by omega) (cE_print (by omega) (by omega)) rfl 5 (by decide) (hts _ (List.mem_of_getElem? (i := 2) rfl)) (fun _ h => h) rfl (ty := tyX3 5) (by decide +kernel) ⟨rfl, rfl⟩ (Nat.le_of_ble_eq_true rfl) (r1 := upd ((sp_st σ (9 + k) 4 r) (9 + k)) 5 c1) (cE_of (cE_print (by omega) (by omega)) (by simp [upd])) dX4_errorsWith_19 (fun H locs hP hS => ?_)
  have hP : va_P D vwCl (cW ad cy pm rj (sp_st (sp_st σ (9 + k) 4 r) (9 + k) 5 c1)) H := hP
  refine lv_aload_n hx hb dX4_errorsWith_22 rfl (lv_at hl 2 rfl) ?_
  refine lv_aload_n hx hb dX4_errorsWith_23 rfl (lv_at hl 3 rfl) ?_
  refine sp_get hx hb hts wi_X4_errorsWith_X3 hown hK hP (κ := 9 + k) (by omega) (cE_print (by omega) (by omega)) rfl 2 (by decide) (hts _ (List.mem_of_getElem? (i := 3) rfl)) (fun _ h => h) rfl dX4_errorsWith_24 ?_
  refine W.eq (g2 := F0 m 27 ls [.int (σ (9 + k) 2), .ref (ad (430))]) (by rw [sp_st_j _ _ _ _ _ _ (by decide), sp_st_j _ _ _ _ _ _ (by decide)]) ?_
  refine sp_call (W.runV (As := [.int (σ (9 + k) 2)]) (rest := []) ⟨hx, hb, hml, hown, hts⟩ (c_X4_errorsByPrints l D ad cy pm rj (sp_st (sp_st σ (9 + k) 4 r) (9 + k) 5 c1) (σ (9 + k) 2)) (cwV 1 hts gX4_errorsWith_X4_errorsByPrints rfl rfl rfl (by decide +kernel) ⟨Nat.le_of_ble_eq_true rfl, Nat.le_of_ble_eq_true rfl⟩) (sp_preV hK hP (κ := 430) (by decide) cE_proof rfl) rfl rfl hl.1 rfl (lv_room (Nat.le_of_ble_eq_true rfl)) dX4_errorsWith_27 ⟨Nat.le_of_ble_eq_true rfl, Nat.le_of_ble_eq_true rfl⟩) ?_
  refine W.eq (g2 := F0 m 30 ls [.int (f_errs (sp_st (sp_st σ (9 + k) 4 r) (9 + k) 5 c1) (σ (9 + k) 2))]) rfl ?_
  refine lv_istore (lv' := [(6, .int (f_errs (sp_st (sp_st σ (9 + k) 4 r) (9 + k) 5 c1) (σ (9 + k) 2))), (5, .int (σ (9 + k) 5)), (4, .int (σ (9 + k) 4)), (0, .ref (ad (430))), (1, .ref (ad (9 + k))), (2, .int (r)), (3, .int (c1))]) hx hb dX4_errorsWith_30 hl (by decide) rfl (fun ls hl => ?_)
  refine lv_aload_n hx hb dX4_errorsWith_32 rfl (lv_at hl 4 rfl) ?_
  refine lv_iload hx hb dX4_errorsWith_33 (lv_at hl 2 rfl) ?_
  refine sp_put hx hb hts wi_X4_errorsWith_X3 tyX3 tyX3_ok nmX3 hown hK hP hi hAk hS (κ := 9 + k) (by omega) (cE_print (by omega) (by omega)) rfl 4 (by decide) (hts _ (List.mem_of_getElem? (i := 1) rfl)) (fun _ h => h) rfl (ty := tyX3 4) (by decide +kernel) ⟨rfl, rfl⟩ (Nat.le_of_ble_eq_true rfl) (r1 := upd ((sp_st (sp_st σ (9 + k) 4 r) (9 + k) 5 c1) (9 + k)) 4 (σ (9 + k) 4)) (cE_of (cE_print (by omega) (by omega)) (by simp [upd])) dX4_errorsWith_35 (fun H locs hP hS => ?_)
  have hP : va_P D vwCl (cW ad cy pm rj (sp_st (sp_st (sp_st σ (9 + k) 4 r) (9 + k) 5 c1) (9 + k) 4 (σ (9 + k) 4))) H := hP
  refine lv_aload_n hx hb dX4_errorsWith_38 rfl (lv_at hl 4 rfl) ?_
  refine lv_iload hx hb dX4_errorsWith_39 (lv_at hl 1 rfl) ?_
  refine sp_put hx hb hts wi_X4_errorsWith_X3 tyX3 tyX3_ok nmX3 hown hK hP hi hAk hS (κ := 9 + k) (by omega) (cE_print (by omega) (by omega)) rfl 5 (by decide) (hts _ (List.mem_of_getElem? (i := 2) rfl)) (fun _ h => h) rfl (ty := tyX3 5) (by decide +kernel) ⟨rfl, rfl⟩ (Nat.le_of_ble_eq_true rfl) (r1 := upd ((sp_st (sp_st (sp_st σ (9 + k) 4 r) (9 + k) 5 c1) (9 + k) 4 (σ (9 + k) 4)) (9 + k)) 5 (σ (9 + k) 5)) (cE_of (cE_print (by omega) (by omega)) (by simp [upd])) dX4_errorsWith_41 (fun H locs hP hS => ?_)
  have hP : va_P D vwCl (cW ad cy pm rj (sp_st (sp_st (sp_st (sp_st σ (9 + k) 4 r) (9 + k) 5 c1) (9 + k) 4 (σ (9 + k) 4)) (9 + k) 5 (σ (9 + k) 5))) H := hP
  refine lv_iload hx hb dX4_errorsWith_44 (lv_at hl 0 rfl) ?_
  have hE9 : cW ad cy (pm) (rj) (sp_st (sp_st (sp_st (sp_st σ (9 + k) 4 r) (9 + k) 5 c1) (9 + k) 4 (σ (9 + k) 4)) (9 + k) 5 (σ (9 + k) 5)) = cW ad cy (pm) (rj) (σ) := by exact cW_eq rfl (sp_back _ _ _ _)
  have hP : va_P D vwCl (cW ad cy (pm) (rj) (σ)) H := by rw [← hE9]; exact hP
  exact W.iret (v := f_errs (sp_st (sp_st σ (9 + k) 4 r) (9 + k) 5 c1) (σ (9 + k) 2)) hx hb hr (fun T9 hT9 _ => ⟨congrArg (fun z9 => Outcome.returned (some (Value.int z9))) (show (f_errs (sp_st (sp_st σ (9 + k) 4 r) (9 + k) 5 c1) (σ (9 + k) 2) : Int32) = f_errsW σ k r c1 from (by first | rfl | (simp [f_errsW, b2i]; done))), by rw [hT9]; exact hP, hS.F hT9⟩) hS.2.2 dX4_errorsWith_46

theorem wi_X4_bestCellFor_X3 : ∀ w ∈ wsX30, w ∈ wsX4_bestCellFor := by decide +kernel
theorem wi_X4_bestCellFor_X4 : ∀ w ∈ wsX40, w ∈ wsX4_bestCellFor := by decide +kernel
set_option maxHeartbeats 4000000 in
set_option maxRecDepth 100000 in
theorem c_X4_bestCellFor (l : Launch) (D : va_G) (ad : Nat → Nat) (cy : Nat → ClassId) (pm : Nat → Nat) (rj : Option Nat) (σ : Nat → Nat → Int32) (xq : Nat → Nat) (sz : Nat) (hi : sp_inj ad 459) (k : Nat) (hk : k < 30) : Met l yX4_bestCellFor wsX4_bestCellFor ({ frames := 5, cells := 25, slots := 75, locals := 120 } : Room) (sp_Pmx xq ad 459 D (tyG cy) sz [.ref (ad (430)), .ref (ad (9 + k))] (cW ad cy pm rj σ)) (sp_Q D (some (.int (f_best σ k))) (cW ad cy (pm) (rj) (σ)) (sp_A ad 459 sz)) 25 75 (sp_A ad 459 sz) := by
  refine Met.ofW (cc := cX4_bestCellFor) (maxL := 10) (ret := (some .int)) (by decide) rfl ?_
  intro p e s m args below meth c s₁ B hml hv
  obtain ⟨rfl, hsz, hP, hK, hE⟩ := hv
  have hx := B.exec
  have hb := B.bytes
  have hr := B.returns
  have hts := atoms_spec (ws := wsX4_bestCellFor) B.pre
  have hown : s.vm.findClass RX4 = some m.cls := findClass_of_methodNamed B.named
  have hlocks := B.notSynchronized
  subst hsz
  have hS : va_S (sp_A ad 459 s.heap.size) s.heap s.heap [] := va_S.rf
  have hAk : ∀ k, k < 459 → (sp_A ad 459 s.heap.size) (ad k) := fun k hk => Or.inl ⟨k, hk, rfl⟩
  skip
  have hl := lv_entry ([.ref (ad (430)), .ref (ad (9 + k))]) (n := 10) (Nat.le_of_ble_eq_true rfl)
  refine W.eq (lg_entry_eq _ ([.ref (ad (430)), .ref (ad (9 + k))]) _) ?_
  generalize (lg_sl ([.ref (ad (430)), .ref (ad (9 + k))]) ++ List.replicate (10 - (lg_sl ([.ref (ad (430)), .ref (ad (9 + k))])).length) Slot.unset).toArray = ls at hl ⊢
  have hl : lv_has ls 10 [(0, .ref (ad (430))), (1, .ref (ad (9 + k)))] := hl
  refine lv_aload_n hx hb dX4_bestCellFor_0 rfl (lv_at hl 1 rfl) ?_
  refine sp_get hx hb hts wi_X4_bestCellFor_X3 hown hK hP (κ := 9 + k) (by omega) (cE_print (by omega) (by omega)) rfl 4 (by decide) (hts _ (List.mem_of_getElem? (i := 1) rfl)) (fun _ h => h) rfl dX4_bestCellFor_1 ?_
  refine lv_bipush (v := 20) hx hb dX4_bestCellFor_4 (by decide) ?_
  refine lv_imul hx hb dX4_bestCellFor_6 ?_
  refine lv_aload_n hx hb dX4_bestCellFor_7 rfl (lv_at hl 1 rfl) ?_
  refine sp_get hx hb hts wi_X4_bestCellFor_X3 hown hK hP (κ := 9 + k) (by omega) (cE_print (by omega) (by omega)) rfl 5 (by decide) (hts _ (List.mem_of_getElem? (i := 2) rfl)) (fun _ h => h) rfl dX4_bestCellFor_8 ?_
  refine lv_iadd hx hb dX4_bestCellFor_11 ?_
  refine lv_istore_n (lv' := [(2, .int (((σ (9 + k) 4) * 20) + (σ (9 + k) 5))), (0, .ref (ad (430))), (1, .ref (ad (9 + k)))]) hx hb dX4_bestCellFor_12 rfl hl (by decide) rfl (fun ls hl => ?_)
  refine lv_aload_n hx hb dX4_bestCellFor_13 rfl (lv_at hl 1 rfl) ?_
  refine lv_aload_n hx hb dX4_bestCellFor_14 rfl (lv_at hl 2 rfl) ?_
  refine sp_get hx hb hts wi_X4_bestCellFor_X3 hown hK hP (κ := 9 + k) (by omega) (cE_print (by omega) (by omega)) rfl 2 (by decide) (hts _ (List.mem_of_getElem? (i := 3) rfl)) (fun _ h => h) rfl dX4_bestCellFor_15 ?_
  refine sp_call (W.runV (As := [.int (σ (9 + k) 2)]) (rest := []) ⟨hx, hb, hml, hown, hts⟩ (c_X4_errorsByPrints l D ad cy pm rj σ (σ (9 + k) 2)) (cwV 1 hts gX4_bestCellFor_X4_errorsByPrints rfl rfl rfl (by decide +kernel) ⟨Nat.le_of_ble_eq_true rfl, Nat.le_of_ble_eq_true rfl⟩) (sp_preV hK hP (κ := 430) (by decide) cE_proof rfl) rfl rfl hl.1 rfl (lv_room (Nat.le_of_ble_eq_true rfl)) dX4_bestCellFor_18 ⟨by show _ ≤ 25; omega, by show _ ≤ 75; omega⟩) ?_
  refine W.eq (g2 := F0 m 21 ls [.int (f_errs σ (σ (9 + k) 2))]) rfl ?_
  refine lv_istore_n (lv' := [(3, .int (f_errs σ (σ (9 + k) 2))), (2, .int (((σ (9 + k) 4) * 20) + (σ (9 + k) 5))), (0, .ref (ad (430))), (1, .ref (ad (9 + k)))]) hx hb dX4_bestCellFor_21 rfl hl (by decide) rfl (fun ls hl => ?_)
  refine lv_iconst (v := 0) hx hb dX4_bestCellFor_22 (by decide) ?_
  refine lv_istore (lv' := [(4, .int (0)), (3, .int (f_errs σ (σ (9 + k) 2))), (2, .int (((σ (9 + k) 4) * 20) + (σ (9 + k) 5))), (0, .ref (ad (430))), (1, .ref (ad (9 + k)))]) hx hb dX4_bestCellFor_23 hl (by decide) rfl (fun ls hl => ?_)
  refine lv_iconst (v := 0) hx hb dX4_bestCellFor_25 (by decide) ?_
  refine lv_istore (lv' := [(5, .int (0)), (4, .int (0)), (3, .int (f_errs σ (σ (9 + k) 2))), (2, .int (((σ (9 + k) 4) * 20) + (σ (9 + k) 5))), (0, .ref (ad (430))), (1, .ref (ad (9 + k)))]) hx hb dX4_bestCellFor_26 hl (by decide) rfl (fun ls hl => ?_)
  have loop_28 : ∀ (n i : Nat) (x : Int32) (y : Int32) (z : Int32) (H : Heap) (locs : List Loc), (i ≤ 25) → (25 - i < n) → ((x, y, z) = foldI (S_best σ k) (σ (9 + k) 4 * 20 + σ (9 + k) 5, f_errs σ (σ (9 + k) 2), 0) i) → (va_P D vwCl (cW ad cy pm rj (σ)) H) → (va_S (sp_A ad 459 s.heap.size) s.heap H locs) → ∀ ls : Array Slot, lv_has ls 10 [(5, .int (nI i)), (4, .int (z)), (3, .int (y)), (2, .int (x)), (0, .ref (ad (430))), (1, .ref (ad (9 + k)))] → W p l e (headSpec wsX4_bestCellFor ({ frames := 5, cells := 25, slots := 75, locals := 120 } : Room)).room s m ([.ref (ad (430)), .ref (ad (9 + k))] : List Value).toArray below meth c H locs i (3 * i) (MQ below (sp_Q D (some (.int (f_best σ k))) (cW ad cy (pm) (rj) (σ)) (sp_A ad 459 s.heap.size)) ([.ref (ad (430)), .ref (ad (9 + k))] : List Value).toArray s 25 75 (sp_A ad 459 s.heap.size)) (F0 m 28 ls []) := by
    intro n
    induction n with
    | zero => intro i x y z H locs hle hlt hi_0 hP hS ls hl; exact absurd hlt (Nat.not_lt_zero _)
    | succ n ih =>
      intro i x y z H locs hle hlt hi_0 hP hS ls hl
      refine lv_iload hx hb dX4_bestCellFor_28 (lv_at hl 0 rfl) ?_
      refine lv_bipush (v := 25) hx hb dX4_bestCellFor_30 (by decide) ?_
      refine lv_icmp_ge (tgt := 148) hx hb dX4_bestCellFor_32 (by decide) (fun c_1 => ?_) (fun c_1 => ?_)
      · skip
        have c_1d := Int32.not_lt.mpr c_1
        have hx_i : i = 25 := by have := (nI_leI (a := 25) (b := i) (by omega) (by omega)).mp c_1; omega
        try rw [hx_i] at hi_0
        refine lv_iload_n hx hb dX4_bestCellFor_148 rfl (lv_at hl 3 rfl) ?_
        refine W.widen (k := 25) (n := 75) (by omega) (by omega) ?_
        exact W.iret (v := x) hx hb hr (fun T9 hT9 _ => ⟨congrArg (fun z9 => Outcome.returned (some (Value.int z9))) (show (x : Int32) = f_best σ k from (by unfold f_best; rw [← hi_0])), by rw [hT9]; exact hP, hS.F hT9⟩) hS.2.2 dX4_bestCellFor_149
      · skip
        have c_1d := Int32.not_le.mp c_1
        have hb_i : i < 25 := Nat.lt_of_not_le (fun z => c_1 (nI_le z (by omega)))
        refine lv_aload_n hx hb dX4_bestCellFor_35 rfl (lv_at hl 5 rfl) ?_
        refine sp_get hx hb hts wi_X4_bestCellFor_X3 hown hK hP (κ := 9 + k) (by omega) (cE_print (by omega) (by omega)) rfl 4 (by decide) (hts _ (List.mem_of_getElem? (i := 1) rfl)) (fun _ h => h) rfl dX4_bestCellFor_36 ?_
        refine lv_iconst (v := 2) hx hb dX4_bestCellFor_39 (by decide) ?_
        refine lv_isub hx hb dX4_bestCellFor_40 ?_
        refine lv_iload hx hb dX4_bestCellFor_41 (lv_at hl 0 rfl) ?_
        refine lv_iconst (v := 5) hx hb dX4_bestCellFor_43 (by decide) ?_
        refine lv_idiv hx hb dX4_bestCellFor_44 (by decide) ?_
        refine lv_iadd hx hb dX4_bestCellFor_45 ?_
        refine lv_istore (lv' := [(6, .int (((σ (9 + k) 4) - 2) + ((nI i) / 5))), (5, .int (nI i)), (4, .int (z)), (3, .int (y)), (2, .int (x)), (0, .ref (ad (430))), (1, .ref (ad (9 + k)))]) hx hb dX4_bestCellFor_46 hl (by decide) rfl (fun ls hl => ?_)
        refine lv_aload_n hx hb dX4_bestCellFor_48 rfl (lv_at hl 6 rfl) ?_
        refine sp_get hx hb hts wi_X4_bestCellFor_X3 hown hK hP (κ := 9 + k) (by omega) (cE_print (by omega) (by omega)) rfl 5 (by decide) (hts _ (List.mem_of_getElem? (i := 2) rfl)) (fun _ h => h) rfl dX4_bestCellFor_49 ?_
        refine lv_iconst (v := 2) hx hb dX4_bestCellFor_52 (by decide) ?_
        refine lv_isub hx hb dX4_bestCellFor_53 ?_
        refine lv_iload hx hb dX4_bestCellFor_54 (lv_at hl 1 rfl) ?_
        refine lv_iconst (v := 5) hx hb dX4_bestCellFor_56 (by decide) ?_
        refine lv_irem hx hb dX4_bestCellFor_57 (by decide) ?_
        refine lv_iadd hx hb dX4_bestCellFor_58 ?_
        refine lv_istore (lv' := [(7, .int (((σ (9 + k) 5) - 2) + ((nI i) - (nI i) / 5 * 5))), (6, .int (((σ (9 + k) 4) - 2) + ((nI i) / 5))), (5, .int (nI i)), (4, .int (z)), (3, .int (y)), (2, .int (x)), (0, .ref (ad (430))), (1, .ref (ad (9 + k)))]) hx hb dX4_bestCellFor_59 hl (by decide) rfl (fun ls hl => ?_)
        refine lv_iload hx hb dX4_bestCellFor_61 (lv_at hl 1 rfl) ?_
        refine lv_iload hx hb dX4_bestCellFor_63 (lv_at hl 0 rfl) ?_
        refine sp_callN (va_runSN (As := [.int (((σ (9 + k) 4) - 2) + ((nI i) / 5)), .int (((σ (9 + k) 5) - 2) + ((nI i) - (nI i) / 5 * 5))]) (rest := []) ⟨hx, hb, hml, hown, hts⟩ (c_X9_isCell l D ad cy pm rj σ (((σ (9 + k) 4) - 2) + ((nI i) / 5)) (((σ (9 + k) 5) - 2) + ((nI i) - (nI i) / 5 * 5))) ⟨va_cnB 2 hts gX4_bestCellFor_X9_isCell_n93 rfl rfl rfl (hE.nest 7 rfl) (hts _ (List.mem_of_getElem? (i := 61) rfl)) (by decide +kernel) ⟨Nat.le_of_ble_eq_true rfl, Nat.le_of_ble_eq_true rfl⟩, (hts _ (List.mem_of_getElem? (i := 60) rfl)), trivial⟩ (sp_preS hK hP) rfl rfl hl.1 rfl (lv_room (Nat.le_of_ble_eq_true rfl)) dX4_bestCellFor_65 ⟨by show _ ≤ 25; omega, by show _ ≤ 75; omega⟩) ?_
        refine W.eq (g2 := F0 m 68 ls [.int (b2i (f_isCell (((σ (9 + k) 4) - 2) + ((nI i) / 5)) (((σ (9 + k) 5) - 2) + ((nI i) - (nI i) / 5 * 5))))]) rfl ?_
        refine lv_if_eq (tgt := 142) hx hb dX4_bestCellFor_68 (by decide) (fun c_2 => ?_) (fun c_2 => ?_)
        · rw [b2i_eq0] at c_2
          refine lv_iinc (v := nI (i + 1)) (lv' := [(5, .int (nI (i + 1))), (7, .int (((σ (9 + k) 5) - 2) + ((nI i) - (nI i) / 5 * 5))), (6, .int (((σ (9 + k) 4) - 2) + ((nI i) / 5))), (4, .int (z)), (3, .int (y)), (2, .int (x)), (0, .ref (ad (430))), (1, .ref (ad (9 + k)))]) hx hb dX4_bestCellFor_142 hl (k := 2) rfl (nI_1 _) (by decide) rfl (fun ls hl => ?_)
          refine lv_goto (tgt := 28) hx hb dX4_bestCellFor_145 (by decide) ?_
          refine W.widen (k := (i + 1)) (n := 3 * (i + 1)) (by omega) (by omega) ?_
          exact ih (i + 1) x y z  _ _ (by omega) (by omega) (by rw [foldI_succ, ← hi_0]; simp [S_best, b2i, c_2]) hP hS ls (lv_sub hl [0, 3, 4, 5, 6, 7] rfl)
        · rw [b2i_eq0] at c_2
          refine lv_aload_n hx hb dX4_bestCellFor_71 rfl (lv_at hl 6 rfl) ?_
          refine sp_get hx hb hts wi_X4_bestCellFor_X4 hown hK hP (κ := 430) (by decide) cE_proof rfl 0 (by decide) (hts _ (List.mem_of_getElem? (i := 4) rfl)) (fun _ h => h) rfl dX4_bestCellFor_72 ?_
          refine lv_aload_n hx hb dX4_bestCellFor_75 rfl (lv_at hl 7 rfl) ?_
          refine lv_iload hx hb dX4_bestCellFor_76 (lv_at hl 1 rfl) ?_
          refine lv_iload hx hb dX4_bestCellFor_78 (lv_at hl 0 rfl) ?_
          have hge0_q_3 := hS.1
          refine sp_callR (va_runV (As := [.ref (ad (9 + k)), .int (((σ (9 + k) 4) - 2) + ((nI i) / 5)), .int (((σ (9 + k) 5) - 2) + ((nI i) - (nI i) / 5 * 5))]) (rest := []) ⟨hx, hb, hml, hown, hts⟩ (c_X0_objectionToMove l D ad cy pm rj σ _ k (by omega) (((σ (9 + k) 4) - 2) + ((nI i) / 5)) (((σ (9 + k) 5) - 2) + ((nI i) - (nI i) / 5 * 5))) (cwV 3 hts gX4_bestCellFor_X0_objectionToMove rfl rfl rfl (by decide +kernel) ⟨Nat.le_of_ble_eq_true rfl, Nat.le_of_ble_eq_true rfl⟩) (sp_preVm hK hP (κ := 0) (by omega) (cE_beach (by omega) (by omega)) rfl) rfl rfl hl.1 rfl (lv_room (Nat.le_of_ble_eq_true rfl)) dX4_bestCellFor_80 ⟨by show _ ≤ 25; omega, by show _ ≤ 75; omega⟩) hS (fun z h => Or.inr (Nat.le_trans hS.1 h)) (fun v_4 H locs hle_q_3 hk_q_3 hS => ?_) (fun x1_q_3 x2_q_3 q_3 v_4 hge_q_3 H locs hle_q_3 hk_q_3 hS hat_q_3 => ?_)
          · have hP := sp_P_ext hP hk_q_3
            refine lv_ifnonnullN hx hb dX4_bestCellFor_83 ?_
            refine lv_aload_n hx hb dX4_bestCellFor_86 rfl (lv_at hl 6 rfl) ?_
            refine lv_aload_n hx hb dX4_bestCellFor_87 rfl (lv_at hl 7 rfl) ?_
            refine lv_iload hx hb dX4_bestCellFor_88 (lv_at hl 1 rfl) ?_
            refine lv_iload hx hb dX4_bestCellFor_90 (lv_at hl 0 rfl) ?_
            refine sp_callm (va_runV (As := [.ref (ad (9 + k)), .int (((σ (9 + k) 4) - 2) + ((nI i) / 5)), .int (((σ (9 + k) 5) - 2) + ((nI i) - (nI i) / 5 * 5))]) (rest := []) ⟨hx, hb, hml, hown, hts⟩ (c_X4_errorsWith l D ad cy pm rj σ _ hi k (by omega) (((σ (9 + k) 4) - 2) + ((nI i) / 5)) (((σ (9 + k) 5) - 2) + ((nI i) - (nI i) / 5 * 5))) (cwV 3 hts gX4_bestCellFor_X4_errorsWith rfl rfl rfl (by decide +kernel) ⟨Nat.le_of_ble_eq_true rfl, Nat.le_of_ble_eq_true rfl⟩) (sp_preVm hK hP (κ := 430) (by decide) cE_proof rfl) rfl rfl hl.1 rfl (lv_room (Nat.le_of_ble_eq_true rfl)) dX4_bestCellFor_92 ⟨by show _ ≤ 25; omega, by show _ ≤ 75; omega⟩) hS (fun q h1 h2 => sp_Alt h1 h2) (sp_Ale hS.1) (fun H locs hP hle hfr hS => ?_)
            refine W.eq (g2 := F0 m 95 ls [.int (f_errsW σ k (((σ (9 + k) 4) - 2) + ((nI i) / 5)) (((σ (9 + k) 5) - 2) + ((nI i) - (nI i) / 5 * 5)))]) rfl ?_
            refine lv_istore (lv' := [(8, .int (f_errsW σ k (((σ (9 + k) 4) - 2) + ((nI i) / 5)) (((σ (9 + k) 5) - 2) + ((nI i) - (nI i) / 5 * 5)))), (7, .int (((σ (9 + k) 5) - 2) + ((nI i) - (nI i) / 5 * 5))), (6, .int (((σ (9 + k) 4) - 2) + ((nI i) / 5))), (5, .int (nI i)), (4, .int (z)), (3, .int (y)), (2, .int (x)), (0, .ref (ad (430))), (1, .ref (ad (9 + k)))]) hx hb dX4_bestCellFor_95 hl (by decide) rfl (fun ls hl => ?_)
            refine lv_aload_n hx hb dX4_bestCellFor_97 rfl (lv_at hl 8 rfl) ?_
            refine lv_iload hx hb dX4_bestCellFor_98 (lv_at hl 2 rfl) ?_
            refine lv_iload hx hb dX4_bestCellFor_100 (lv_at hl 1 rfl) ?_
            refine sp_call (W.runV (As := [.int (((σ (9 + k) 4) - 2) + ((nI i) / 5)), .int (((σ (9 + k) 5) - 2) + ((nI i) - (nI i) / 5 * 5))]) (rest := []) ⟨hx, hb, hml, hown, hts⟩ (c_X3_distanceTo l D ad cy pm rj σ (9 + k) (by omega) (by omega) (((σ (9 + k) 4) - 2) + ((nI i) / 5)) (((σ (9 + k) 5) - 2) + ((nI i) - (nI i) / 5 * 5))) (cwV 2 hts gX4_bestCellFor_X3_distanceTo rfl rfl rfl (by decide +kernel) ⟨Nat.le_of_ble_eq_true rfl, Nat.le_of_ble_eq_true rfl⟩) (sp_preV hK hP (κ := 9 + k) (by omega) (cE_print (by omega) (by omega)) rfl) rfl rfl hl.1 rfl (lv_room (Nat.le_of_ble_eq_true rfl)) dX4_bestCellFor_102 ⟨by show _ ≤ 25; omega, by show _ ≤ 75; omega⟩) ?_
            refine W.eq (g2 := F0 m 105 ls [.int (f_dist σ (9 + k) (((σ (9 + k) 4) - 2) + ((nI i) / 5)) (((σ (9 + k) 5) - 2) + ((nI i) - (nI i) / 5 * 5)))]) rfl ?_
            refine lv_istore (lv' := [(9, .int (f_dist σ (9 + k) (((σ (9 + k) 4) - 2) + ((nI i) / 5)) (((σ (9 + k) 5) - 2) + ((nI i) - (nI i) / 5 * 5)))), (8, .int (f_errsW σ k (((σ (9 + k) 4) - 2) + ((nI i) / 5)) (((σ (9 + k) 5) - 2) + ((nI i) - (nI i) / 5 * 5)))), (7, .int (((σ (9 + k) 5) - 2) + ((nI i) - (nI i) / 5 * 5))), (6, .int (((σ (9 + k) 4) - 2) + ((nI i) / 5))), (5, .int (nI i)), (4, .int (z)), (3, .int (y)), (2, .int (x)), (0, .ref (ad (430))), (1, .ref (ad (9 + k)))]) hx hb dX4_bestCellFor_105 hl (by decide) rfl (fun ls hl => ?_)
            refine lv_iload hx hb dX4_bestCellFor_107 (lv_at hl 1 rfl) ?_
            refine lv_iload_n hx hb dX4_bestCellFor_109 rfl (lv_at hl 6 rfl) ?_
            refine lv_icmp_lt (tgt := 126) hx hb dX4_bestCellFor_110 (by decide) (fun c_5 => ?_) (fun c_5 => ?_)
            · skip
              have c_5d := Int32.not_le.mpr c_5
              refine lv_iload hx hb dX4_bestCellFor_126 (lv_at hl 3 rfl) ?_
              refine lv_bipush (v := 20) hx hb dX4_bestCellFor_128 (by decide) ?_
              refine lv_imul hx hb dX4_bestCellFor_130 ?_
              refine lv_iload hx hb dX4_bestCellFor_131 (lv_at hl 2 rfl) ?_
              refine lv_iadd hx hb dX4_bestCellFor_133 ?_
              refine lv_istore_n (lv' := [(2, .int (((((σ (9 + k) 4) - 2) + ((nI i) / 5)) * 20) + (((σ (9 + k) 5) - 2) + ((nI i) - (nI i) / 5 * 5)))), (9, .int (f_dist σ (9 + k) (((σ (9 + k) 4) - 2) + ((nI i) / 5)) (((σ (9 + k) 5) - 2) + ((nI i) - (nI i) / 5 * 5)))), (8, .int (f_errsW σ k (((σ (9 + k) 4) - 2) + ((nI i) / 5)) (((σ (9 + k) 5) - 2) + ((nI i) - (nI i) / 5 * 5)))), (7, .int (((σ (9 + k) 5) - 2) + ((nI i) - (nI i) / 5 * 5))), (6, .int (((σ (9 + k) 4) - 2) + ((nI i) / 5))), (5, .int (nI i)), (4, .int (z)), (3, .int (y)), (0, .ref (ad (430))), (1, .ref (ad (9 + k)))]) hx hb dX4_bestCellFor_134 rfl hl (by decide) rfl (fun ls hl => ?_)
              refine lv_iload hx hb dX4_bestCellFor_135 (lv_at hl 2 rfl) ?_
              refine lv_istore_n (lv' := [(3, .int (f_errsW σ k (((σ (9 + k) 4) - 2) + ((nI i) / 5)) (((σ (9 + k) 5) - 2) + ((nI i) - (nI i) / 5 * 5)))), (2, .int (((((σ (9 + k) 4) - 2) + ((nI i) / 5)) * 20) + (((σ (9 + k) 5) - 2) + ((nI i) - (nI i) / 5 * 5)))), (9, .int (f_dist σ (9 + k) (((σ (9 + k) 4) - 2) + ((nI i) / 5)) (((σ (9 + k) 5) - 2) + ((nI i) - (nI i) / 5 * 5)))), (8, .int (f_errsW σ k (((σ (9 + k) 4) - 2) + ((nI i) / 5)) (((σ (9 + k) 5) - 2) + ((nI i) - (nI i) / 5 * 5)))), (7, .int (((σ (9 + k) 5) - 2) + ((nI i) - (nI i) / 5 * 5))), (6, .int (((σ (9 + k) 4) - 2) + ((nI i) / 5))), (5, .int (nI i)), (4, .int (z)), (0, .ref (ad (430))), (1, .ref (ad (9 + k)))]) hx hb dX4_bestCellFor_137 rfl hl (by decide) rfl (fun ls hl => ?_)
              refine lv_iload hx hb dX4_bestCellFor_138 (lv_at hl 2 rfl) ?_
              refine lv_istore (lv' := [(4, .int (f_dist σ (9 + k) (((σ (9 + k) 4) - 2) + ((nI i) / 5)) (((σ (9 + k) 5) - 2) + ((nI i) - (nI i) / 5 * 5)))), (3, .int (f_errsW σ k (((σ (9 + k) 4) - 2) + ((nI i) / 5)) (((σ (9 + k) 5) - 2) + ((nI i) - (nI i) / 5 * 5)))), (2, .int (((((σ (9 + k) 4) - 2) + ((nI i) / 5)) * 20) + (((σ (9 + k) 5) - 2) + ((nI i) - (nI i) / 5 * 5)))), (9, .int (f_dist σ (9 + k) (((σ (9 + k) 4) - 2) + ((nI i) / 5)) (((σ (9 + k) 5) - 2) + ((nI i) - (nI i) / 5 * 5)))), (8, .int (f_errsW σ k (((σ (9 + k) 4) - 2) + ((nI i) / 5)) (((σ (9 + k) 5) - 2) + ((nI i) - (nI i) / 5 * 5)))), (7, .int (((σ (9 + k) 5) - 2) + ((nI i) - (nI i) / 5 * 5))), (6, .int (((σ (9 + k) 4) - 2) + ((nI i) / 5))), (5, .int (nI i)), (0, .ref (ad (430))), (1, .ref (ad (9 + k)))]) hx hb dX4_bestCellFor_140 hl (by decide) rfl (fun ls hl => ?_)
              refine lv_iinc (v := nI (i + 1)) (lv' := [(5, .int (nI (i + 1))), (4, .int (f_dist σ (9 + k) (((σ (9 + k) 4) - 2) + ((nI i) / 5)) (((σ (9 + k) 5) - 2) + ((nI i) - (nI i) / 5 * 5)))), (3, .int (f_errsW σ k (((σ (9 + k) 4) - 2) + ((nI i) / 5)) (((σ (9 + k) 5) - 2) + ((nI i) - (nI i) / 5 * 5)))), (2, .int (((((σ (9 + k) 4) - 2) + ((nI i) / 5)) * 20) + (((σ (9 + k) 5) - 2) + ((nI i) - (nI i) / 5 * 5)))), (9, .int (f_dist σ (9 + k) (((σ (9 + k) 4) - 2) + ((nI i) / 5)) (((σ (9 + k) 5) - 2) + ((nI i) - (nI i) / 5 * 5)))), (8, .int (f_errsW σ k (((σ (9 + k) 4) - 2) + ((nI i) / 5)) (((σ (9 + k) 5) - 2) + ((nI i) - (nI i) / 5 * 5)))), (7, .int (((σ (9 + k) 5) - 2) + ((nI i) - (nI i) / 5 * 5))), (6, .int (((σ (9 + k) 4) - 2) + ((nI i) / 5))), (0, .ref (ad (430))), (1, .ref (ad (9 + k)))]) hx hb dX4_bestCellFor_142 hl (k := 7) rfl (nI_1 _) (by decide) rfl (fun ls hl => ?_)
              refine lv_goto (tgt := 28) hx hb dX4_bestCellFor_145 (by decide) ?_
              refine W.widen (k := (i + 1)) (n := 3 * (i + 1)) (by omega) (by omega) ?_
              exact ih (i + 1) (((((σ (9 + k) 4) - 2) + ((nI i) / 5)) * 20) + (((σ (9 + k) 5) - 2) + ((nI i) - (nI i) / 5 * 5))) (f_errsW σ k (((σ (9 + k) 4) - 2) + ((nI i) / 5)) (((σ (9 + k) 5) - 2) + ((nI i) - (nI i) / 5 * 5))) (f_dist σ (9 + k) (((σ (9 + k) 4) - 2) + ((nI i) / 5)) (((σ (9 + k) 5) - 2) + ((nI i) - (nI i) / 5 * 5)))  _ _ (by omega) (by omega) (by rw [foldI_succ, ← hi_0]; simp [S_best, b2i, c_2, v_4, c_5, c_5d]) hP hS ls (lv_sub hl [0, 1, 2, 3, 8, 9] rfl)
            · skip
              have c_5d := Int32.not_lt.mp c_5
              refine lv_iload hx hb dX4_bestCellFor_113 (lv_at hl 1 rfl) ?_
              refine lv_iload_n hx hb dX4_bestCellFor_115 rfl (lv_at hl 6 rfl) ?_
              refine lv_icmp_ne (tgt := 142) hx hb dX4_bestCellFor_116 (by decide) (fun c_6 => ?_) (fun c_6 => ?_)
              · skip
                refine lv_iinc (v := nI (i + 1)) (lv' := [(5, .int (nI (i + 1))), (9, .int (f_dist σ (9 + k) (((σ (9 + k) 4) - 2) + ((nI i) / 5)) (((σ (9 + k) 5) - 2) + ((nI i) - (nI i) / 5 * 5)))), (8, .int (f_errsW σ k (((σ (9 + k) 4) - 2) + ((nI i) / 5)) (((σ (9 + k) 5) - 2) + ((nI i) - (nI i) / 5 * 5)))), (7, .int (((σ (9 + k) 5) - 2) + ((nI i) - (nI i) / 5 * 5))), (6, .int (((σ (9 + k) 4) - 2) + ((nI i) / 5))), (4, .int (z)), (3, .int (y)), (2, .int (x)), (0, .ref (ad (430))), (1, .ref (ad (9 + k)))]) hx hb dX4_bestCellFor_142 hl (k := 4) rfl (nI_1 _) (by decide) rfl (fun ls hl => ?_)
                refine lv_goto (tgt := 28) hx hb dX4_bestCellFor_145 (by decide) ?_
                refine W.widen (k := (i + 1)) (n := 3 * (i + 1)) (by omega) (by omega) ?_
                exact ih (i + 1) x y z  _ _ (by omega) (by omega) (by rw [foldI_succ, ← hi_0]; simp [S_best, b2i, c_2, v_4, c_5, c_5d, c_6]) hP hS ls (lv_sub hl [0, 5, 6, 7, 8, 9] rfl)
              · skip
                refine lv_iload hx hb dX4_bestCellFor_119 (lv_at hl 0 rfl) ?_
                refine lv_iload hx hb dX4_bestCellFor_121 (lv_at hl 5 rfl) ?_
                refine lv_icmp_ge (tgt := 142) hx hb dX4_bestCellFor_123 (by decide) (fun c_7 => ?_) (fun c_7 => ?_)
                · skip
                  have c_7d := Int32.not_lt.mpr c_7
                  refine lv_iinc (v := nI (i + 1)) (lv' := [(5, .int (nI (i + 1))), (9, .int (f_dist σ (9 + k) (((σ (9 + k) 4) - 2) + ((nI i) / 5)) (((σ (9 + k) 5) - 2) + ((nI i) - (nI i) / 5 * 5)))), (8, .int (f_errsW σ k (((σ (9 + k) 4) - 2) + ((nI i) / 5)) (((σ (9 + k) 5) - 2) + ((nI i) - (nI i) / 5 * 5)))), (7, .int (((σ (9 + k) 5) - 2) + ((nI i) - (nI i) / 5 * 5))), (6, .int (((σ (9 + k) 4) - 2) + ((nI i) / 5))), (4, .int (z)), (3, .int (y)), (2, .int (x)), (0, .ref (ad (430))), (1, .ref (ad (9 + k)))]) hx hb dX4_bestCellFor_142 hl (k := 4) rfl (nI_1 _) (by decide) rfl (fun ls hl => ?_)
                  refine lv_goto (tgt := 28) hx hb dX4_bestCellFor_145 (by decide) ?_
                  refine W.widen (k := (i + 1)) (n := 3 * (i + 1)) (by omega) (by omega) ?_
                  exact ih (i + 1) x y z  _ _ (by omega) (by omega) (by rw [foldI_succ, ← hi_0]; simp [S_best, b2i, c_2, v_4, c_5, c_5d, c_6, c_7, c_7d]) hP hS ls (lv_sub hl [0, 5, 6, 7, 8, 9] rfl)
                · skip
                  have c_7d := Int32.not_le.mp c_7
                  refine lv_iload hx hb dX4_bestCellFor_126 (lv_at hl 3 rfl) ?_
                  refine lv_bipush (v := 20) hx hb dX4_bestCellFor_128 (by decide) ?_
                  refine lv_imul hx hb dX4_bestCellFor_130 ?_
                  refine lv_iload hx hb dX4_bestCellFor_131 (lv_at hl 2 rfl) ?_
                  refine lv_iadd hx hb dX4_bestCellFor_133 ?_
                  refine lv_istore_n (lv' := [(2, .int (((((σ (9 + k) 4) - 2) + ((nI i) / 5)) * 20) + (((σ (9 + k) 5) - 2) + ((nI i) - (nI i) / 5 * 5)))), (9, .int (f_dist σ (9 + k) (((σ (9 + k) 4) - 2) + ((nI i) / 5)) (((σ (9 + k) 5) - 2) + ((nI i) - (nI i) / 5 * 5)))), (8, .int (f_errsW σ k (((σ (9 + k) 4) - 2) + ((nI i) / 5)) (((σ (9 + k) 5) - 2) + ((nI i) - (nI i) / 5 * 5)))), (7, .int (((σ (9 + k) 5) - 2) + ((nI i) - (nI i) / 5 * 5))), (6, .int (((σ (9 + k) 4) - 2) + ((nI i) / 5))), (5, .int (nI i)), (4, .int (z)), (3, .int (y)), (0, .ref (ad (430))), (1, .ref (ad (9 + k)))]) hx hb dX4_bestCellFor_134 rfl hl (by decide) rfl (fun ls hl => ?_)
                  refine lv_iload hx hb dX4_bestCellFor_135 (lv_at hl 2 rfl) ?_
                  refine lv_istore_n (lv' := [(3, .int (f_errsW σ k (((σ (9 + k) 4) - 2) + ((nI i) / 5)) (((σ (9 + k) 5) - 2) + ((nI i) - (nI i) / 5 * 5)))), (2, .int (((((σ (9 + k) 4) - 2) + ((nI i) / 5)) * 20) + (((σ (9 + k) 5) - 2) + ((nI i) - (nI i) / 5 * 5)))), (9, .int (f_dist σ (9 + k) (((σ (9 + k) 4) - 2) + ((nI i) / 5)) (((σ (9 + k) 5) - 2) + ((nI i) - (nI i) / 5 * 5)))), (8, .int (f_errsW σ k (((σ (9 + k) 4) - 2) + ((nI i) / 5)) (((σ (9 + k) 5) - 2) + ((nI i) - (nI i) / 5 * 5)))), (7, .int (((σ (9 + k) 5) - 2) + ((nI i) - (nI i) / 5 * 5))), (6, .int (((σ (9 + k) 4) - 2) + ((nI i) / 5))), (5, .int (nI i)), (4, .int (z)), (0, .ref (ad (430))), (1, .ref (ad (9 + k)))]) hx hb dX4_bestCellFor_137 rfl hl (by decide) rfl (fun ls hl => ?_)
                  refine lv_iload hx hb dX4_bestCellFor_138 (lv_at hl 2 rfl) ?_
                  refine lv_istore (lv' := [(4, .int (f_dist σ (9 + k) (((σ (9 + k) 4) - 2) + ((nI i) / 5)) (((σ (9 + k) 5) - 2) + ((nI i) - (nI i) / 5 * 5)))), (3, .int (f_errsW σ k (((σ (9 + k) 4) - 2) + ((nI i) / 5)) (((σ (9 + k) 5) - 2) + ((nI i) - (nI i) / 5 * 5)))), (2, .int (((((σ (9 + k) 4) - 2) + ((nI i) / 5)) * 20) + (((σ (9 + k) 5) - 2) + ((nI i) - (nI i) / 5 * 5)))), (9, .int (f_dist σ (9 + k) (((σ (9 + k) 4) - 2) + ((nI i) / 5)) (((σ (9 + k) 5) - 2) + ((nI i) - (nI i) / 5 * 5)))), (8, .int (f_errsW σ k (((σ (9 + k) 4) - 2) + ((nI i) / 5)) (((σ (9 + k) 5) - 2) + ((nI i) - (nI i) / 5 * 5)))), (7, .int (((σ (9 + k) 5) - 2) + ((nI i) - (nI i) / 5 * 5))), (6, .int (((σ (9 + k) 4) - 2) + ((nI i) / 5))), (5, .int (nI i)), (0, .ref (ad (430))), (1, .ref (ad (9 + k)))]) hx hb dX4_bestCellFor_140 hl (by decide) rfl (fun ls hl => ?_)
                  refine lv_iinc (v := nI (i + 1)) (lv' := [(5, .int (nI (i + 1))), (4, .int (f_dist σ (9 + k) (((σ (9 + k) 4) - 2) + ((nI i) / 5)) (((σ (9 + k) 5) - 2) + ((nI i) - (nI i) / 5 * 5)))), (3, .int (f_errsW σ k (((σ (9 + k) 4) - 2) + ((nI i) / 5)) (((σ (9 + k) 5) - 2) + ((nI i) - (nI i) / 5 * 5)))), (2, .int (((((σ (9 + k) 4) - 2) + ((nI i) / 5)) * 20) + (((σ (9 + k) 5) - 2) + ((nI i) - (nI i) / 5 * 5)))), (9, .int (f_dist σ (9 + k) (((σ (9 + k) 4) - 2) + ((nI i) / 5)) (((σ (9 + k) 5) - 2) + ((nI i) - (nI i) / 5 * 5)))), (8, .int (f_errsW σ k (((σ (9 + k) 4) - 2) + ((nI i) / 5)) (((σ (9 + k) 5) - 2) + ((nI i) - (nI i) / 5 * 5)))), (7, .int (((σ (9 + k) 5) - 2) + ((nI i) - (nI i) / 5 * 5))), (6, .int (((σ (9 + k) 4) - 2) + ((nI i) / 5))), (0, .ref (ad (430))), (1, .ref (ad (9 + k)))]) hx hb dX4_bestCellFor_142 hl (k := 7) rfl (nI_1 _) (by decide) rfl (fun ls hl => ?_)
                  refine lv_goto (tgt := 28) hx hb dX4_bestCellFor_145 (by decide) ?_
                  refine W.widen (k := (i + 1)) (n := 3 * (i + 1)) (by omega) (by omega) ?_
                  exact ih (i + 1) (((((σ (9 + k) 4) - 2) + ((nI i) / 5)) * 20) + (((σ (9 + k) 5) - 2) + ((nI i) - (nI i) / 5 * 5))) (f_errsW σ k (((σ (9 + k) 4) - 2) + ((nI i) / 5)) (((σ (9 + k) 5) - 2) + ((nI i) - (nI i) / 5 * 5))) (f_dist σ (9 + k) (((σ (9 + k) 4) - 2) + ((nI i) / 5)) (((σ (9 + k) 5) - 2) + ((nI i) - (nI i) / 5 * 5)))  _ _ (by omega) (by omega) (by rw [foldI_succ, ← hi_0]; simp [S_best, b2i, c_2, v_4, c_5, c_5d, c_6, c_7, c_7d]) hP hS ls (lv_sub hl [0, 1, 2, 3, 8, 9] rfl)
          · have hP := sp_P_ext hP hk_q_3
            refine lv_ifnonnull (tgt := 142) hx hb dX4_bestCellFor_83 (by decide) ?_
            refine lv_iinc (v := nI (i + 1)) (lv' := [(5, .int (nI (i + 1))), (7, .int (((σ (9 + k) 5) - 2) + ((nI i) - (nI i) / 5 * 5))), (6, .int (((σ (9 + k) 4) - 2) + ((nI i) / 5))), (4, .int (z)), (3, .int (y)), (2, .int (x)), (0, .ref (ad (430))), (1, .ref (ad (9 + k)))]) hx hb dX4_bestCellFor_142 hl (k := 2) rfl (nI_1 _) (by decide) rfl (fun ls hl => ?_)
            refine lv_goto (tgt := 28) hx hb dX4_bestCellFor_145 (by decide) ?_
            refine W.widen (k := (i + 1)) (n := 3 * (i + 1)) (by omega) (by omega) ?_
            exact ih (i + 1) x y z  _ _ (by omega) (by omega) (by rw [foldI_succ, ← hi_0]; simp [S_best, b2i, c_2, v_4]) hP hS ls (lv_sub hl [0, 3, 4, 5, 6, 7] rfl)
  exact loop_28 (25 + 1) (0) (σ (9 + k) 4 * 20 + σ (9 + k) 5) (f_errs σ (σ (9 + k) 2)) (0)  _ _ (by omega) (by omega) (rfl) hP hS ls (lv_sub hl [0, 1, 2, 3, 4, 5] rfl)

theorem wi_X4_countAheadOf_X8 : ∀ w ∈ wsX80, w ∈ wsX4_countAheadOf := by decide +kernel
theorem wi_X4_countAheadOf_X4 : ∀ w ∈ wsX40, w ∈ wsX4_countAheadOf := by decide +kernel
theorem wi_X4_countAheadOf_X0 : ∀ w ∈ wsX00, w ∈ wsX4_countAheadOf := by decide +kernel
set_option maxHeartbeats 4000000 in
set_option maxRecDepth 100000 in
theorem c_X4_countAheadOf (l : Launch) (D : va_G) (ad : Nat → Nat) (cy : Nat → ClassId) (pm : Nat → Nat) (rj : Option Nat) (σ : Nat → Nat → Int32) (k : Nat) (hk : k < 6) : Met l yX4_countAheadOf wsX4_countAheadOf ({ frames := 4, cells := 0, slots := 0, locals := 94 } : Room) (sp_Pc D (tyG cy) [.ref (ad (430)), .ref (ad (3 + k))] (cW ad cy pm rj σ)) (sp_S (some (.int (f_aheadT σ k)))) 0 0 (fun _ => False) := by
  refine Met.ofW (cc := cX4_countAheadOf) (maxL := 12) (ret := (some .int)) (by decide) rfl ?_
  intro p e s m args below meth c s₁ B hml hv
  obtain ⟨rfl, hP, hK⟩ := hv
  have hx := B.exec
  have hb := B.bytes
  have hr := B.returns
  have hts := atoms_spec (ws := wsX4_countAheadOf) B.pre
  have hown : s.vm.findClass RX4 = some m.cls := findClass_of_methodNamed B.named
  have hlocks := B.notSynchronized
  have hl := lv_entry ([.ref (ad (430)), .ref (ad (3 + k))]) (n := 12) (Nat.le_of_ble_eq_true rfl)
  refine W.eq (lg_entry_eq _ ([.ref (ad (430)), .ref (ad (3 + k))]) _) ?_
  generalize (lg_sl ([.ref (ad (430)), .ref (ad (3 + k))]) ++ List.replicate (12 - (lg_sl ([.ref (ad (430)), .ref (ad (3 + k))])).length) Slot.unset).toArray = ls at hl ⊢
  have hl : lv_has ls 12 [(0, .ref (ad (430))), (1, .ref (ad (3 + k)))] := hl
  refine lv_aload_n hx hb dX4_countAheadOf_0 rfl (lv_at hl 0 rfl) ?_
  refine lv_aload_n hx hb dX4_countAheadOf_1 rfl (lv_at hl 1 rfl) ?_
  refine sp_get hx hb hts wi_X4_countAheadOf_X8 hown hK hP (κ := 3 + k) (by omega) (cE_track (by omega) (by omega)) rfl 1 (by decide) (hts _ (List.mem_of_getElem? (i := 1) rfl)) (fun _ h => h) rfl dX4_countAheadOf_2 ?_
  refine sp_call (W.runV (As := [.int (σ (3 + k) 1)]) (rest := []) ⟨hx, hb, hml, hown, hts⟩ (c_X4_errorsByPrints l D ad cy pm rj σ (σ (3 + k) 1)) (cwV 1 hts gX4_countAheadOf_X4_errorsByPrints rfl rfl rfl (by decide +kernel) ⟨Nat.le_of_ble_eq_true rfl, Nat.le_of_ble_eq_true rfl⟩) (sp_preV hK hP (κ := 430) (by decide) cE_proof rfl) rfl rfl hl.1 rfl (lv_room (Nat.le_of_ble_eq_true rfl)) dX4_countAheadOf_5 ⟨Nat.le_of_ble_eq_true rfl, Nat.le_of_ble_eq_true rfl⟩) ?_
  refine W.eq (g2 := F0 m 8 ls [.int (f_errs σ (σ (3 + k) 1))]) rfl ?_
  refine lv_istore_n (lv' := [(2, .int (f_errs σ (σ (3 + k) 1))), (0, .ref (ad (430))), (1, .ref (ad (3 + k)))]) hx hb dX4_countAheadOf_8 rfl hl (by decide) rfl (fun ls hl => ?_)
  refine lv_aload_n hx hb dX4_countAheadOf_9 rfl (lv_at hl 1 rfl) ?_
  refine sp_get hx hb hts wi_X4_countAheadOf_X4 hown hK hP (κ := 430) (by decide) cE_proof rfl 0 (by decide) (hts _ (List.mem_of_getElem? (i := 2) rfl)) (fun _ h => h) rfl dX4_countAheadOf_10 ?_
  refine lv_aload_n hx hb dX4_countAheadOf_13 rfl (lv_at hl 2 rfl) ?_
  refine sp_call (W.runV (As := [.ref (ad (3 + k))]) (rest := []) ⟨hx, hb, hml, hown, hts⟩ (c_X0_countPrints l D ad cy pm rj σ k (by omega)) (cwV 1 hts gX4_countAheadOf_X0_countPrints rfl rfl rfl (by decide +kernel) ⟨Nat.le_of_ble_eq_true rfl, Nat.le_of_ble_eq_true rfl⟩) (sp_preV hK hP (κ := 0) (by omega) (cE_beach (by omega) (by omega)) rfl) rfl rfl hl.1 rfl (lv_room (Nat.le_of_ble_eq_true rfl)) dX4_countAheadOf_14 ⟨Nat.le_of_ble_eq_true rfl, Nat.le_of_ble_eq_true rfl⟩) ?_
  refine W.eq (g2 := F0 m 17 ls [.int (f_countPrints σ k)]) rfl ?_
  refine lv_istore_n (lv' := [(3, .int (f_countPrints σ k)), (2, .int (f_errs σ (σ (3 + k) 1))), (0, .ref (ad (430))), (1, .ref (ad (3 + k)))]) hx hb dX4_countAheadOf_17 rfl hl (by decide) rfl (fun ls hl => ?_)
  refine lv_iconst (v := 0) hx hb dX4_countAheadOf_18 (by decide) ?_
  refine lv_istore (lv' := [(4, .int (0)), (3, .int (f_countPrints σ k)), (2, .int (f_errs σ (σ (3 + k) 1))), (0, .ref (ad (430))), (1, .ref (ad (3 + k)))]) hx hb dX4_countAheadOf_19 hl (by decide) rfl (fun ls hl => ?_)
  refine lv_aload_n hx hb dX4_countAheadOf_21 rfl (lv_at hl 3 rfl) ?_
  refine sp_get hx hb hts wi_X4_countAheadOf_X4 hown hK hP (κ := 430) (by decide) cE_proof rfl 0 (by decide) (hts _ (List.mem_of_getElem? (i := 2) rfl)) (fun _ h => h) rfl dX4_countAheadOf_22 ?_
  refine sp_get hx hb hts wi_X4_countAheadOf_X0 hown hK hP (κ := 0) (by omega) (cE_beach (by omega) (by omega)) rfl 0 (by decide) (hts _ (List.mem_of_getElem? (i := 3) rfl)) (fun _ h => h) rfl dX4_countAheadOf_25 ?_
  refine lv_astore (lv' := [(5, .ref (ad (1))), (4, .int (0)), (3, .int (f_countPrints σ k)), (2, .int (f_errs σ (σ (3 + k) 1))), (0, .ref (ad (430))), (1, .ref (ad (3 + k)))]) hx hb dX4_countAheadOf_28 hl (by decide) rfl (fun ls hl => ?_)
  refine lv_aload hx hb dX4_countAheadOf_30 (lv_at hl 0 rfl) ?_
  refine sp_alen hx hb hK hP (κ := 1) (by omega) 5 (cE_tracks (by omega) (by omega)) rfl (v := 6) rfl dX4_countAheadOf_32 ?_
  refine lv_istore (lv' := [(6, .int (6)), (5, .ref (ad (1))), (4, .int (0)), (3, .int (f_countPrints σ k)), (2, .int (f_errs σ (σ (3 + k) 1))), (0, .ref (ad (430))), (1, .ref (ad (3 + k)))]) hx hb dX4_countAheadOf_33 hl (by decide) rfl (fun ls hl => ?_)
  refine lv_iconst (v := 0) hx hb dX4_countAheadOf_35 (by decide) ?_
  refine lv_istore (lv' := [(7, .int (0)), (6, .int (6)), (5, .ref (ad (1))), (4, .int (0)), (3, .int (f_countPrints σ k)), (2, .int (f_errs σ (σ (3 + k) 1))), (0, .ref (ad (430))), (1, .ref (ad (3 + k)))]) hx hb dX4_countAheadOf_36 hl (by decide) rfl (fun ls hl => ?_)
  have loop_38 : ∀ (n i : Nat) (x : Int32), (i ≤ 6) → (6 - i < n) → (x = sumI (F_aheadT σ k) i) → ∀ ls : Array Slot, lv_has ls 12 [(7, .int (nI i)), (6, .int (6)), (5, .ref (ad (1))), (4, .int (x)), (3, .int (f_countPrints σ k)), (2, .int (f_errs σ (σ (3 + k) 1))), (0, .ref (ad (430))), (1, .ref (ad (3 + k)))] → W p l e (headSpec wsX4_countAheadOf ({ frames := 4, cells := 0, slots := 0, locals := 94 } : Room)).room s m ([.ref (ad (430)), .ref (ad (3 + k))] : List Value).toArray below meth c s.heap [] 0 0 (MQ below (sp_S (some (.int (f_aheadT σ k)))) ([.ref (ad (430)), .ref (ad (3 + k))] : List Value).toArray s 0 0 (fun _ => False)) (F0 m 38 ls []) := by
    intro n
    induction n with
    | zero => intro i x hle hlt hi_0 ls hl; exact absurd hlt (Nat.not_lt_zero _)
    | succ n ih =>
      intro i x hle hlt hi_0 ls hl
      refine lv_iload hx hb dX4_countAheadOf_38 (lv_at hl 0 rfl) ?_
      refine lv_iload hx hb dX4_countAheadOf_40 (lv_at hl 1 rfl) ?_
      refine lv_icmp_ge (tgt := 139) hx hb dX4_countAheadOf_42 (by decide) (fun c_1 => ?_) (fun c_1 => ?_)
      · skip
        have c_1d := Int32.not_lt.mpr c_1
        have hx_i : i = 6 := by have := (nI_leI (a := 6) (b := i) (by omega) (by omega)).mp c_1; omega
        try rw [hx_i] at hi_0
        refine lv_iload hx hb dX4_countAheadOf_139 (lv_at hl 3 rfl) ?_
        exact W.iret (v := x) hx hb hr (fun T9 hT9 _ => ⟨congrArg (fun z9 => Outcome.returned (some (Value.int z9))) (show (x : Int32) = f_aheadT σ k from (by exact hi_0)), hT9⟩) (fun _ h => by cases h) dX4_countAheadOf_141
      · skip
        have c_1d := Int32.not_le.mp c_1
        have hb_i : i < 6 := Nat.lt_of_not_le (fun z => c_1 (nI_le z (by omega)))
        refine lv_aload hx hb dX4_countAheadOf_45 (lv_at hl 2 rfl) ?_
        refine lv_iload hx hb dX4_countAheadOf_47 (lv_at hl 0 rfl) ?_
        refine sp_aald hx hb hK hP (κ := 1) (by omega) 5 (cE_tracks (by omega) (by omega)) rfl i rfl (by omega) (by decide) (q := ad (3 + i)) rfl dX4_countAheadOf_49 ?_
        refine lv_astore (lv' := [(8, .ref (ad (3 + i))), (7, .int (nI i)), (6, .int (6)), (5, .ref (ad (1))), (4, .int (x)), (3, .int (f_countPrints σ k)), (2, .int (f_errs σ (σ (3 + k) 1))), (0, .ref (ad (430))), (1, .ref (ad (3 + k)))]) hx hb dX4_countAheadOf_50 hl (by decide) rfl (fun ls hl => ?_)
        refine lv_aload_n hx hb dX4_countAheadOf_52 rfl (lv_at hl 7 rfl) ?_
        refine lv_aload hx hb dX4_countAheadOf_53 (lv_at hl 0 rfl) ?_
        refine sp_get hx hb hts wi_X4_countAheadOf_X8 hown hK hP (κ := 3 + i) (by omega) (cE_track (by omega) (by omega)) rfl 1 (by decide) (hts _ (List.mem_of_getElem? (i := 1) rfl)) (fun _ h => h) rfl dX4_countAheadOf_55 ?_
        refine sp_call (W.runV (As := [.int (σ (3 + i) 1)]) (rest := []) ⟨hx, hb, hml, hown, hts⟩ (c_X4_errorsByPrints l D ad cy pm rj σ (σ (3 + i) 1)) (cwV 1 hts gX4_countAheadOf_X4_errorsByPrints rfl rfl rfl (by decide +kernel) ⟨Nat.le_of_ble_eq_true rfl, Nat.le_of_ble_eq_true rfl⟩) (sp_preV hK hP (κ := 430) (by decide) cE_proof rfl) rfl rfl hl.1 rfl (lv_room (Nat.le_of_ble_eq_true rfl)) dX4_countAheadOf_58 ⟨Nat.le_of_ble_eq_true rfl, Nat.le_of_ble_eq_true rfl⟩) ?_
        refine W.eq (g2 := F0 m 61 ls [.int (f_errs σ (σ (3 + i) 1))]) rfl ?_
        refine lv_iload_n hx hb dX4_countAheadOf_61 rfl (lv_at hl 6 rfl) ?_
        refine lv_isub hx hb dX4_countAheadOf_62 ?_
        refine lv_istore (lv' := [(9, .int ((f_errs σ (σ (3 + i) 1)) - (f_errs σ (σ (3 + k) 1)))), (8, .ref (ad (3 + i))), (7, .int (nI i)), (6, .int (6)), (5, .ref (ad (1))), (4, .int (x)), (3, .int (f_countPrints σ k)), (2, .int (f_errs σ (σ (3 + k) 1))), (0, .ref (ad (430))), (1, .ref (ad (3 + k)))]) hx hb dX4_countAheadOf_63 hl (by decide) rfl (fun ls hl => ?_)
        refine lv_aload_n hx hb dX4_countAheadOf_65 rfl (lv_at hl 8 rfl) ?_
        refine sp_get hx hb hts wi_X4_countAheadOf_X4 hown hK hP (κ := 430) (by decide) cE_proof rfl 0 (by decide) (hts _ (List.mem_of_getElem? (i := 2) rfl)) (fun _ h => h) rfl dX4_countAheadOf_66 ?_
        refine lv_aload hx hb dX4_countAheadOf_69 (lv_at hl 1 rfl) ?_
        refine sp_call (W.runV (As := [.ref (ad (3 + i))]) (rest := []) ⟨hx, hb, hml, hown, hts⟩ (c_X0_countPrints l D ad cy pm rj σ i (by omega)) (cwV 1 hts gX4_countAheadOf_X0_countPrints rfl rfl rfl (by decide +kernel) ⟨Nat.le_of_ble_eq_true rfl, Nat.le_of_ble_eq_true rfl⟩) (sp_preV hK hP (κ := 0) (by omega) (cE_beach (by omega) (by omega)) rfl) rfl rfl hl.1 rfl (lv_room (Nat.le_of_ble_eq_true rfl)) dX4_countAheadOf_71 ⟨Nat.le_of_ble_eq_true rfl, Nat.le_of_ble_eq_true rfl⟩) ?_
        refine W.eq (g2 := F0 m 74 ls [.int (f_countPrints σ i)]) rfl ?_
        refine lv_iload_n hx hb dX4_countAheadOf_74 rfl (lv_at hl 6 rfl) ?_
        refine lv_isub hx hb dX4_countAheadOf_75 ?_
        refine lv_istore (lv' := [(10, .int ((f_countPrints σ i) - (f_countPrints σ k))), (9, .int ((f_errs σ (σ (3 + i) 1)) - (f_errs σ (σ (3 + k) 1)))), (8, .ref (ad (3 + i))), (7, .int (nI i)), (6, .int (6)), (5, .ref (ad (1))), (4, .int (x)), (3, .int (f_countPrints σ k)), (2, .int (f_errs σ (σ (3 + k) 1))), (0, .ref (ad (430))), (1, .ref (ad (3 + k)))]) hx hb dX4_countAheadOf_76 hl (by decide) rfl (fun ls hl => ?_)
        refine lv_iload hx hb dX4_countAheadOf_78 (lv_at hl 1 rfl) ?_
        refine lv_if_eq (tgt := 88) hx hb dX4_countAheadOf_80 (by decide) (fun c_2 => ?_) (fun c_2 => ?_)
        · skip
          refine lv_iload hx hb dX4_countAheadOf_88 (lv_at hl 0 rfl) ?_
          refine lv_if_eq (tgt := 98) hx hb dX4_countAheadOf_90 (by decide) (fun c_3 => ?_) (fun c_3 => ?_)
          · skip
            refine lv_aload_n hx hb dX4_countAheadOf_98 rfl (lv_at hl 10 rfl) ?_
            refine sp_get hx hb hts wi_X4_countAheadOf_X8 hown hK hP (κ := 3 + k) (by omega) (cE_track (by omega) (by omega)) rfl 1 (by decide) (hts _ (List.mem_of_getElem? (i := 1) rfl)) (fun _ h => h) rfl dX4_countAheadOf_99 ?_
            refine lv_aload hx hb dX4_countAheadOf_102 (lv_at hl 2 rfl) ?_
            refine sp_get hx hb hts wi_X4_countAheadOf_X8 hown hK hP (κ := 3 + i) (by omega) (cE_track (by omega) (by omega)) rfl 1 (by decide) (hts _ (List.mem_of_getElem? (i := 1) rfl)) (fun _ h => h) rfl dX4_countAheadOf_104 ?_
            refine lv_isub hx hb dX4_countAheadOf_107 ?_
            refine lv_istore (lv' := [(11, .int ((σ (3 + k) 1) - (σ (3 + i) 1))), (10, .int ((f_countPrints σ i) - (f_countPrints σ k))), (9, .int ((f_errs σ (σ (3 + i) 1)) - (f_errs σ (σ (3 + k) 1)))), (8, .ref (ad (3 + i))), (7, .int (nI i)), (6, .int (6)), (5, .ref (ad (1))), (4, .int (x)), (3, .int (f_countPrints σ k)), (2, .int (f_errs σ (σ (3 + k) 1))), (0, .ref (ad (430))), (1, .ref (ad (3 + k)))]) hx hb dX4_countAheadOf_108 hl (by decide) rfl (fun ls hl => ?_)
            refine lv_iload hx hb dX4_countAheadOf_110 (lv_at hl 7 rfl) ?_
            refine lv_aload hx hb dX4_countAheadOf_112 (lv_at hl 3 rfl) ?_
            refine sp_get hx hb hts wi_X4_countAheadOf_X8 hown hK hP (κ := 3 + i) (by omega) (cE_track (by omega) (by omega)) rfl 0 (by decide) (hts _ (List.mem_of_getElem? (i := 4) rfl)) (fun _ h => h) rfl dX4_countAheadOf_114 ?_
            refine lv_if_eq (tgt := 129) hx hb dX4_countAheadOf_117 (by decide) (fun c_4 => ?_) (fun c_4 => ?_)
            · rw [bz_eq0] at c_4
              refine lv_iconst (v := 0) hx hb dX4_countAheadOf_129 (by decide) ?_
              refine lv_iadd hx hb dX4_countAheadOf_130 ?_
              refine lv_istore (lv' := [(4, .int (x + 0)), (11, .int ((σ (3 + k) 1) - (σ (3 + i) 1))), (10, .int ((f_countPrints σ i) - (f_countPrints σ k))), (9, .int ((f_errs σ (σ (3 + i) 1)) - (f_errs σ (σ (3 + k) 1)))), (8, .ref (ad (3 + i))), (7, .int (nI i)), (6, .int (6)), (5, .ref (ad (1))), (3, .int (f_countPrints σ k)), (2, .int (f_errs σ (σ (3 + k) 1))), (0, .ref (ad (430))), (1, .ref (ad (3 + k)))]) hx hb dX4_countAheadOf_131 hl (by decide) rfl (fun ls hl => ?_)
              refine lv_iinc (v := nI (i + 1)) (lv' := [(7, .int (nI (i + 1))), (4, .int (x + 0)), (11, .int ((σ (3 + k) 1) - (σ (3 + i) 1))), (10, .int ((f_countPrints σ i) - (f_countPrints σ k))), (9, .int ((f_errs σ (σ (3 + i) 1)) - (f_errs σ (σ (3 + k) 1)))), (8, .ref (ad (3 + i))), (6, .int (6)), (5, .ref (ad (1))), (3, .int (f_countPrints σ k)), (2, .int (f_errs σ (σ (3 + k) 1))), (0, .ref (ad (430))), (1, .ref (ad (3 + k)))]) hx hb dX4_countAheadOf_133 hl (k := 5) rfl (nI_1 _) (by decide) rfl (fun ls hl => ?_)
              refine lv_goto (tgt := 38) hx hb dX4_countAheadOf_136 (by decide) ?_
              exact ih (i + 1) (x + 0) (by omega) (by omega) (by rw [sumI_succ, ← hi_0]; simp [b2i, F_aheadT, fdT, c_2, c_3, c_4]) ls (lv_sub hl [0, 6, 7, 1, 8, 9, 10, 11] rfl)
            · rw [bz_eq0] at c_4
              refine lv_iload hx hb dX4_countAheadOf_120 (lv_at hl 0 rfl) ?_
              refine lv_if_le (tgt := 129) hx hb dX4_countAheadOf_122 (by decide) (fun c_5 => ?_) (fun c_5 => ?_)
              · skip
                have c_5d := Int32.not_lt.mpr c_5
                refine lv_iconst (v := 0) hx hb dX4_countAheadOf_129 (by decide) ?_
                refine lv_iadd hx hb dX4_countAheadOf_130 ?_
                refine lv_istore (lv' := [(4, .int (x + 0)), (11, .int ((σ (3 + k) 1) - (σ (3 + i) 1))), (10, .int ((f_countPrints σ i) - (f_countPrints σ k))), (9, .int ((f_errs σ (σ (3 + i) 1)) - (f_errs σ (σ (3 + k) 1)))), (8, .ref (ad (3 + i))), (7, .int (nI i)), (6, .int (6)), (5, .ref (ad (1))), (3, .int (f_countPrints σ k)), (2, .int (f_errs σ (σ (3 + k) 1))), (0, .ref (ad (430))), (1, .ref (ad (3 + k)))]) hx hb dX4_countAheadOf_131 hl (by decide) rfl (fun ls hl => ?_)
                refine lv_iinc (v := nI (i + 1)) (lv' := [(7, .int (nI (i + 1))), (4, .int (x + 0)), (11, .int ((σ (3 + k) 1) - (σ (3 + i) 1))), (10, .int ((f_countPrints σ i) - (f_countPrints σ k))), (9, .int ((f_errs σ (σ (3 + i) 1)) - (f_errs σ (σ (3 + k) 1)))), (8, .ref (ad (3 + i))), (6, .int (6)), (5, .ref (ad (1))), (3, .int (f_countPrints σ k)), (2, .int (f_errs σ (σ (3 + k) 1))), (0, .ref (ad (430))), (1, .ref (ad (3 + k)))]) hx hb dX4_countAheadOf_133 hl (k := 5) rfl (nI_1 _) (by decide) rfl (fun ls hl => ?_)
                refine lv_goto (tgt := 38) hx hb dX4_countAheadOf_136 (by decide) ?_
                exact ih (i + 1) (x + 0) (by omega) (by omega) (by rw [sumI_succ, ← hi_0]; simp [b2i, F_aheadT, fdT, c_2, c_3, c_4, c_5, c_5d]) ls (lv_sub hl [0, 6, 7, 1, 8, 9, 10, 11] rfl)
              · skip
                have c_5d := Int32.not_le.mp c_5
                refine lv_iconst (v := 1) hx hb dX4_countAheadOf_125 (by decide) ?_
                refine lv_goto (tgt := 130) hx hb dX4_countAheadOf_126 (by decide) ?_
                refine lv_iadd hx hb dX4_countAheadOf_130 ?_
                refine lv_istore (lv' := [(4, .int (x + 1)), (11, .int ((σ (3 + k) 1) - (σ (3 + i) 1))), (10, .int ((f_countPrints σ i) - (f_countPrints σ k))), (9, .int ((f_errs σ (σ (3 + i) 1)) - (f_errs σ (σ (3 + k) 1)))), (8, .ref (ad (3 + i))), (7, .int (nI i)), (6, .int (6)), (5, .ref (ad (1))), (3, .int (f_countPrints σ k)), (2, .int (f_errs σ (σ (3 + k) 1))), (0, .ref (ad (430))), (1, .ref (ad (3 + k)))]) hx hb dX4_countAheadOf_131 hl (by decide) rfl (fun ls hl => ?_)
                refine lv_iinc (v := nI (i + 1)) (lv' := [(7, .int (nI (i + 1))), (4, .int (x + 1)), (11, .int ((σ (3 + k) 1) - (σ (3 + i) 1))), (10, .int ((f_countPrints σ i) - (f_countPrints σ k))), (9, .int ((f_errs σ (σ (3 + i) 1)) - (f_errs σ (σ (3 + k) 1)))), (8, .ref (ad (3 + i))), (6, .int (6)), (5, .ref (ad (1))), (3, .int (f_countPrints σ k)), (2, .int (f_errs σ (σ (3 + k) 1))), (0, .ref (ad (430))), (1, .ref (ad (3 + k)))]) hx hb dX4_countAheadOf_133 hl (k := 5) rfl (nI_1 _) (by decide) rfl (fun ls hl => ?_)
                refine lv_goto (tgt := 38) hx hb dX4_countAheadOf_136 (by decide) ?_
                exact ih (i + 1) (x + 1) (by omega) (by omega) (by rw [sumI_succ, ← hi_0]; simp [b2i, F_aheadT, fdT, c_2, c_3, c_4, c_5, c_5d]) ls (lv_sub hl [0, 6, 7, 1, 8, 9, 10, 11] rfl)
          · skip
            refine lv_iload hx hb dX4_countAheadOf_93 (lv_at hl 0 rfl) ?_
            refine lv_goto (tgt := 108) hx hb dX4_countAheadOf_95 (by decide) ?_
            refine lv_istore (lv' := [(11, .int ((f_countPrints σ i) - (f_countPrints σ k))), (10, .int ((f_countPrints σ i) - (f_countPrints σ k))), (9, .int ((f_errs σ (σ (3 + i) 1)) - (f_errs σ (σ (3 + k) 1)))), (8, .ref (ad (3 + i))), (7, .int (nI i)), (6, .int (6)), (5, .ref (ad (1))), (4, .int (x)), (3, .int (f_countPrints σ k)), (2, .int (f_errs σ (σ (3 + k) 1))), (0, .ref (ad (430))), (1, .ref (ad (3 + k)))]) hx hb dX4_countAheadOf_108 hl (by decide) rfl (fun ls hl => ?_)
            refine lv_iload hx hb dX4_countAheadOf_110 (lv_at hl 7 rfl) ?_
            refine lv_aload hx hb dX4_countAheadOf_112 (lv_at hl 3 rfl) ?_
            refine sp_get hx hb hts wi_X4_countAheadOf_X8 hown hK hP (κ := 3 + i) (by omega) (cE_track (by omega) (by omega)) rfl 0 (by decide) (hts _ (List.mem_of_getElem? (i := 4) rfl)) (fun _ h => h) rfl dX4_countAheadOf_114 ?_
            refine lv_if_eq (tgt := 129) hx hb dX4_countAheadOf_117 (by decide) (fun c_6 => ?_) (fun c_6 => ?_)
            · rw [bz_eq0] at c_6
              refine lv_iconst (v := 0) hx hb dX4_countAheadOf_129 (by decide) ?_
              refine lv_iadd hx hb dX4_countAheadOf_130 ?_
              refine lv_istore (lv' := [(4, .int (x + 0)), (11, .int ((f_countPrints σ i) - (f_countPrints σ k))), (10, .int ((f_countPrints σ i) - (f_countPrints σ k))), (9, .int ((f_errs σ (σ (3 + i) 1)) - (f_errs σ (σ (3 + k) 1)))), (8, .ref (ad (3 + i))), (7, .int (nI i)), (6, .int (6)), (5, .ref (ad (1))), (3, .int (f_countPrints σ k)), (2, .int (f_errs σ (σ (3 + k) 1))), (0, .ref (ad (430))), (1, .ref (ad (3 + k)))]) hx hb dX4_countAheadOf_131 hl (by decide) rfl (fun ls hl => ?_)
              refine lv_iinc (v := nI (i + 1)) (lv' := [(7, .int (nI (i + 1))), (4, .int (x + 0)), (11, .int ((f_countPrints σ i) - (f_countPrints σ k))), (10, .int ((f_countPrints σ i) - (f_countPrints σ k))), (9, .int ((f_errs σ (σ (3 + i) 1)) - (f_errs σ (σ (3 + k) 1)))), (8, .ref (ad (3 + i))), (6, .int (6)), (5, .ref (ad (1))), (3, .int (f_countPrints σ k)), (2, .int (f_errs σ (σ (3 + k) 1))), (0, .ref (ad (430))), (1, .ref (ad (3 + k)))]) hx hb dX4_countAheadOf_133 hl (k := 5) rfl (nI_1 _) (by decide) rfl (fun ls hl => ?_)
              refine lv_goto (tgt := 38) hx hb dX4_countAheadOf_136 (by decide) ?_
              exact ih (i + 1) (x + 0) (by omega) (by omega) (by rw [sumI_succ, ← hi_0]; simp [b2i, F_aheadT, fdT, c_2, c_3, c_6]) ls (lv_sub hl [0, 6, 7, 1, 8, 9, 10, 11] rfl)
            · rw [bz_eq0] at c_6
              refine lv_iload hx hb dX4_countAheadOf_120 (lv_at hl 0 rfl) ?_
              refine lv_if_le (tgt := 129) hx hb dX4_countAheadOf_122 (by decide) (fun c_7 => ?_) (fun c_7 => ?_)
              · skip
                have c_7d := Int32.not_lt.mpr c_7
                refine lv_iconst (v := 0) hx hb dX4_countAheadOf_129 (by decide) ?_
                refine lv_iadd hx hb dX4_countAheadOf_130 ?_
                refine lv_istore (lv' := [(4, .int (x + 0)), (11, .int ((f_countPrints σ i) - (f_countPrints σ k))), (10, .int ((f_countPrints σ i) - (f_countPrints σ k))), (9, .int ((f_errs σ (σ (3 + i) 1)) - (f_errs σ (σ (3 + k) 1)))), (8, .ref (ad (3 + i))), (7, .int (nI i)), (6, .int (6)), (5, .ref (ad (1))), (3, .int (f_countPrints σ k)), (2, .int (f_errs σ (σ (3 + k) 1))), (0, .ref (ad (430))), (1, .ref (ad (3 + k)))]) hx hb dX4_countAheadOf_131 hl (by decide) rfl (fun ls hl => ?_)
                refine lv_iinc (v := nI (i + 1)) (lv' := [(7, .int (nI (i + 1))), (4, .int (x + 0)), (11, .int ((f_countPrints σ i) - (f_countPrints σ k))), (10, .int ((f_countPrints σ i) - (f_countPrints σ k))), (9, .int ((f_errs σ (σ (3 + i) 1)) - (f_errs σ (σ (3 + k) 1)))), (8, .ref (ad (3 + i))), (6, .int (6)), (5, .ref (ad (1))), (3, .int (f_countPrints σ k)), (2, .int (f_errs σ (σ (3 + k) 1))), (0, .ref (ad (430))), (1, .ref (ad (3 + k)))]) hx hb dX4_countAheadOf_133 hl (k := 5) rfl (nI_1 _) (by decide) rfl (fun ls hl => ?_)
                refine lv_goto (tgt := 38) hx hb dX4_countAheadOf_136 (by decide) ?_
                exact ih (i + 1) (x + 0) (by omega) (by omega) (by rw [sumI_succ, ← hi_0]; simp [b2i, F_aheadT, fdT, c_2, c_3, c_6, c_7, c_7d]) ls (lv_sub hl [0, 6, 7, 1, 8, 9, 10, 11] rfl)
              · skip
                have c_7d := Int32.not_le.mp c_7
                refine lv_iconst (v := 1) hx hb dX4_countAheadOf_125 (by decide) ?_
                refine lv_goto (tgt := 130) hx hb dX4_countAheadOf_126 (by decide) ?_
                refine lv_iadd hx hb dX4_countAheadOf_130 ?_
                refine lv_istore (lv' := [(4, .int (x + 1)), (11, .int ((f_countPrints σ i) - (f_countPrints σ k))), (10, .int ((f_countPrints σ i) - (f_countPrints σ k))), (9, .int ((f_errs σ (σ (3 + i) 1)) - (f_errs σ (σ (3 + k) 1)))), (8, .ref (ad (3 + i))), (7, .int (nI i)), (6, .int (6)), (5, .ref (ad (1))), (3, .int (f_countPrints σ k)), (2, .int (f_errs σ (σ (3 + k) 1))), (0, .ref (ad (430))), (1, .ref (ad (3 + k)))]) hx hb dX4_countAheadOf_131 hl (by decide) rfl (fun ls hl => ?_)
                refine lv_iinc (v := nI (i + 1)) (lv' := [(7, .int (nI (i + 1))), (4, .int (x + 1)), (11, .int ((f_countPrints σ i) - (f_countPrints σ k))), (10, .int ((f_countPrints σ i) - (f_countPrints σ k))), (9, .int ((f_errs σ (σ (3 + i) 1)) - (f_errs σ (σ (3 + k) 1)))), (8, .ref (ad (3 + i))), (6, .int (6)), (5, .ref (ad (1))), (3, .int (f_countPrints σ k)), (2, .int (f_errs σ (σ (3 + k) 1))), (0, .ref (ad (430))), (1, .ref (ad (3 + k)))]) hx hb dX4_countAheadOf_133 hl (k := 5) rfl (nI_1 _) (by decide) rfl (fun ls hl => ?_)
                refine lv_goto (tgt := 38) hx hb dX4_countAheadOf_136 (by decide) ?_
                exact ih (i + 1) (x + 1) (by omega) (by omega) (by rw [sumI_succ, ← hi_0]; simp [b2i, F_aheadT, fdT, c_2, c_3, c_6, c_7, c_7d]) ls (lv_sub hl [0, 6, 7, 1, 8, 9, 10, 11] rfl)
        · skip
          refine lv_iload hx hb dX4_countAheadOf_83 (lv_at hl 1 rfl) ?_
          refine lv_goto (tgt := 108) hx hb dX4_countAheadOf_85 (by decide) ?_
          refine lv_istore (lv' := [(11, .int ((f_errs σ (σ (3 + i) 1)) - (f_errs σ (σ (3 + k) 1)))), (10, .int ((f_countPrints σ i) - (f_countPrints σ k))), (9, .int ((f_errs σ (σ (3 + i) 1)) - (f_errs σ (σ (3 + k) 1)))), (8, .ref (ad (3 + i))), (7, .int (nI i)), (6, .int (6)), (5, .ref (ad (1))), (4, .int (x)), (3, .int (f_countPrints σ k)), (2, .int (f_errs σ (σ (3 + k) 1))), (0, .ref (ad (430))), (1, .ref (ad (3 + k)))]) hx hb dX4_countAheadOf_108 hl (by decide) rfl (fun ls hl => ?_)
          refine lv_iload hx hb dX4_countAheadOf_110 (lv_at hl 7 rfl) ?_
          refine lv_aload hx hb dX4_countAheadOf_112 (lv_at hl 3 rfl) ?_
          refine sp_get hx hb hts wi_X4_countAheadOf_X8 hown hK hP (κ := 3 + i) (by omega) (cE_track (by omega) (by omega)) rfl 0 (by decide) (hts _ (List.mem_of_getElem? (i := 4) rfl)) (fun _ h => h) rfl dX4_countAheadOf_114 ?_
          refine lv_if_eq (tgt := 129) hx hb dX4_countAheadOf_117 (by decide) (fun c_8 => ?_) (fun c_8 => ?_)
          · rw [bz_eq0] at c_8
            refine lv_iconst (v := 0) hx hb dX4_countAheadOf_129 (by decide) ?_
            refine lv_iadd hx hb dX4_countAheadOf_130 ?_
            refine lv_istore (lv' := [(4, .int (x + 0)), (11, .int ((f_errs σ (σ (3 + i) 1)) - (f_errs σ (σ (3 + k) 1)))), (10, .int ((f_countPrints σ i) - (f_countPrints σ k))), (9, .int ((f_errs σ (σ (3 + i) 1)) - (f_errs σ (σ (3 + k) 1)))), (8, .ref (ad (3 + i))), (7, .int (nI i)), (6, .int (6)), (5, .ref (ad (1))), (3, .int (f_countPrints σ k)), (2, .int (f_errs σ (σ (3 + k) 1))), (0, .ref (ad (430))), (1, .ref (ad (3 + k)))]) hx hb dX4_countAheadOf_131 hl (by decide) rfl (fun ls hl => ?_)
            refine lv_iinc (v := nI (i + 1)) (lv' := [(7, .int (nI (i + 1))), (4, .int (x + 0)), (11, .int ((f_errs σ (σ (3 + i) 1)) - (f_errs σ (σ (3 + k) 1)))), (10, .int ((f_countPrints σ i) - (f_countPrints σ k))), (9, .int ((f_errs σ (σ (3 + i) 1)) - (f_errs σ (σ (3 + k) 1)))), (8, .ref (ad (3 + i))), (6, .int (6)), (5, .ref (ad (1))), (3, .int (f_countPrints σ k)), (2, .int (f_errs σ (σ (3 + k) 1))), (0, .ref (ad (430))), (1, .ref (ad (3 + k)))]) hx hb dX4_countAheadOf_133 hl (k := 5) rfl (nI_1 _) (by decide) rfl (fun ls hl => ?_)
            refine lv_goto (tgt := 38) hx hb dX4_countAheadOf_136 (by decide) ?_
            exact ih (i + 1) (x + 0) (by omega) (by omega) (by rw [sumI_succ, ← hi_0]; simp [b2i, F_aheadT, fdT, c_2, c_8]) ls (lv_sub hl [0, 6, 7, 1, 8, 9, 10, 11] rfl)
          · rw [bz_eq0] at c_8
            refine lv_iload hx hb dX4_countAheadOf_120 (lv_at hl 0 rfl) ?_
            refine lv_if_le (tgt := 129) hx hb dX4_countAheadOf_122 (by decide) (fun c_9 => ?_) (fun c_9 => ?_)
            · skip
              have c_9d := Int32.not_lt.mpr c_9
              refine lv_iconst (v := 0) hx hb dX4_countAheadOf_129 (by decide) ?_
              refine lv_iadd hx hb dX4_countAheadOf_130 ?_
              refine lv_istore (lv' := [(4, .int (x + 0)), (11, .int ((f_errs σ (σ (3 + i) 1)) - (f_errs σ (σ (3 + k) 1)))), (10, .int ((f_countPrints σ i) - (f_countPrints σ k))), (9, .int ((f_errs σ (σ (3 + i) 1)) - (f_errs σ (σ (3 + k) 1)))), (8, .ref (ad (3 + i))), (7, .int (nI i)), (6, .int (6)), (5, .ref (ad (1))), (3, .int (f_countPrints σ k)), (2, .int (f_errs σ (σ (3 + k) 1))), (0, .ref (ad (430))), (1, .ref (ad (3 + k)))]) hx hb dX4_countAheadOf_131 hl (by decide) rfl (fun ls hl => ?_)
              refine lv_iinc (v := nI (i + 1)) (lv' := [(7, .int (nI (i + 1))), (4, .int (x + 0)), (11, .int ((f_errs σ (σ (3 + i) 1)) - (f_errs σ (σ (3 + k) 1)))), (10, .int ((f_countPrints σ i) - (f_countPrints σ k))), (9, .int ((f_errs σ (σ (3 + i) 1)) - (f_errs σ (σ (3 + k) 1)))), (8, .ref (ad (3 + i))), (6, .int (6)), (5, .ref (ad (1))), (3, .int (f_countPrints σ k)), (2, .int (f_errs σ (σ (3 + k) 1))), (0, .ref (ad (430))), (1, .ref (ad (3 + k)))]) hx hb dX4_countAheadOf_133 hl (k := 5) rfl (nI_1 _) (by decide) rfl (fun ls hl => ?_)
              refine lv_goto (tgt := 38) hx hb dX4_countAheadOf_136 (by decide) ?_
              exact ih (i + 1) (x + 0) (by omega) (by omega) (by rw [sumI_succ, ← hi_0]; simp [b2i, F_aheadT, fdT, c_2, c_8, c_9, c_9d]) ls (lv_sub hl [0, 6, 7, 1, 8, 9, 10, 11] rfl)
            · skip
              have c_9d := Int32.not_le.mp c_9
              refine lv_iconst (v := 1) hx hb dX4_countAheadOf_125 (by decide) ?_
              refine lv_goto (tgt := 130) hx hb dX4_countAheadOf_126 (by decide) ?_
              refine lv_iadd hx hb dX4_countAheadOf_130 ?_
              refine lv_istore (lv' := [(4, .int (x + 1)), (11, .int ((f_errs σ (σ (3 + i) 1)) - (f_errs σ (σ (3 + k) 1)))), (10, .int ((f_countPrints σ i) - (f_countPrints σ k))), (9, .int ((f_errs σ (σ (3 + i) 1)) - (f_errs σ (σ (3 + k) 1)))), (8, .ref (ad (3 + i))), (7, .int (nI i)), (6, .int (6)), (5, .ref (ad (1))), (3, .int (f_countPrints σ k)), (2, .int (f_errs σ (σ (3 + k) 1))), (0, .ref (ad (430))), (1, .ref (ad (3 + k)))]) hx hb dX4_countAheadOf_131 hl (by decide) rfl (fun ls hl => ?_)
              refine lv_iinc (v := nI (i + 1)) (lv' := [(7, .int (nI (i + 1))), (4, .int (x + 1)), (11, .int ((f_errs σ (σ (3 + i) 1)) - (f_errs σ (σ (3 + k) 1)))), (10, .int ((f_countPrints σ i) - (f_countPrints σ k))), (9, .int ((f_errs σ (σ (3 + i) 1)) - (f_errs σ (σ (3 + k) 1)))), (8, .ref (ad (3 + i))), (6, .int (6)), (5, .ref (ad (1))), (3, .int (f_countPrints σ k)), (2, .int (f_errs σ (σ (3 + k) 1))), (0, .ref (ad (430))), (1, .ref (ad (3 + k)))]) hx hb dX4_countAheadOf_133 hl (k := 5) rfl (nI_1 _) (by decide) rfl (fun ls hl => ?_)
              refine lv_goto (tgt := 38) hx hb dX4_countAheadOf_136 (by decide) ?_
              exact ih (i + 1) (x + 1) (by omega) (by omega) (by rw [sumI_succ, ← hi_0]; simp [b2i, F_aheadT, fdT, c_2, c_8, c_9, c_9d]) ls (lv_sub hl [0, 6, 7, 1, 8, 9, 10, 11] rfl)
  exact loop_38 (6 + 1) (0) (0)  (by omega) (by omega) (rfl) ls (lv_sub hl [0, 1, 2, 3, 4, 5, 6, 7] rfl)

theorem wi_X4_isInTimeOrder_X4 : ∀ w ∈ wsX40, w ∈ wsX4_isInTimeOrder := by decide +kernel
theorem wi_X4_isInTimeOrder_X3 : ∀ w ∈ wsX30, w ∈ wsX4_isInTimeOrder := by decide +kernel
set_option maxHeartbeats 4000000 in
set_option maxRecDepth 100000 in
theorem c_X4_isInTimeOrder (l : Launch) (D : va_G) (ad : Nat → Nat) (cy : Nat → ClassId) (pm : Nat → Nat) (rj : Option Nat) (σ : Nat → Nat → Int32) (k : Nat) (hk : k < 6) : Met l yX4_isInTimeOrder wsX4_isInTimeOrder ({ frames := 3, cells := 0, slots := 0, locals := 75 } : Room) (sp_Pc D (tyG cy) [.ref (ad (430)), .ref (ad (3 + k))] (cW ad cy pm rj σ)) (sp_S (some (.int (b2i (f_ord σ k))))) 0 0 (fun _ => False) := by
  refine Met.ofW (cc := cX4_isInTimeOrder) (maxL := 6) (ret := (some .boolean)) (by decide) rfl ?_
  intro p e s m args below meth c s₁ B hml hv
  obtain ⟨rfl, hP, hK⟩ := hv
  have hx := B.exec
  have hb := B.bytes
  have hr := B.returns
  have hts := atoms_spec (ws := wsX4_isInTimeOrder) B.pre
  have hown : s.vm.findClass RX4 = some m.cls := findClass_of_methodNamed B.named
  have hlocks := B.notSynchronized
  obtain ⟨n0, hn0, hN⟩ := f_countPrints_nI σ k
  have hl := lv_entry ([.ref (ad (430)), .ref (ad (3 + k))]) (n := 6) (Nat.le_of_ble_eq_true rfl)
  refine W.eq (lg_entry_eq _ ([.ref (ad (430)), .ref (ad (3 + k))]) _) ?_
  generalize (lg_sl ([.ref (ad (430)), .ref (ad (3 + k))]) ++ List.replicate (6 - (lg_sl ([.ref (ad (430)), .ref (ad (3 + k))])).length) Slot.unset).toArray = ls at hl ⊢
  have hl : lv_has ls 6 [(0, .ref (ad (430))), (1, .ref (ad (3 + k)))] := hl
  refine lv_iconst (v := (-1)) hx hb dX4_isInTimeOrder_0 (by decide) ?_
  refine lv_istore_n (lv' := [(2, .int ((-1))), (0, .ref (ad (430))), (1, .ref (ad (3 + k)))]) hx hb dX4_isInTimeOrder_1 rfl hl (by decide) rfl (fun ls hl => ?_)
  refine lv_aload_n hx hb dX4_isInTimeOrder_2 rfl (lv_at hl 1 rfl) ?_
  refine sp_get hx hb hts wi_X4_isInTimeOrder_X4 hown hK hP (κ := 430) (by decide) cE_proof rfl 0 (by decide) (hts _ (List.mem_of_getElem? (i := 1) rfl)) (fun _ h => h) rfl dX4_isInTimeOrder_3 ?_
  refine lv_aload_n hx hb dX4_isInTimeOrder_6 rfl (lv_at hl 2 rfl) ?_
  refine sp_call (W.runV (As := [.ref (ad (3 + k))]) (rest := []) ⟨hx, hb, hml, hown, hts⟩ (c_X0_countPrints l D ad cy pm rj σ k (by omega)) (cwV 1 hts gX4_isInTimeOrder_X0_countPrints rfl rfl rfl (by decide +kernel) ⟨Nat.le_of_ble_eq_true rfl, Nat.le_of_ble_eq_true rfl⟩) (sp_preV hK hP (κ := 0) (by omega) (cE_beach (by omega) (by omega)) rfl) rfl rfl hl.1 rfl (lv_room (Nat.le_of_ble_eq_true rfl)) dX4_isInTimeOrder_7 ⟨Nat.le_of_ble_eq_true rfl, Nat.le_of_ble_eq_true rfl⟩) ?_
  refine W.eq (g2 := F0 m 10 ls [.int (f_countPrints σ k)]) rfl ?_
  refine lv_istore_n (lv' := [(3, .int (f_countPrints σ k)), (2, .int ((-1))), (0, .ref (ad (430))), (1, .ref (ad (3 + k)))]) hx hb dX4_isInTimeOrder_10 rfl hl (by decide) rfl (fun ls hl => ?_)
  refine lv_iconst (v := 0) hx hb dX4_isInTimeOrder_11 (by decide) ?_
  refine lv_istore (lv' := [(4, .int (0)), (3, .int (f_countPrints σ k)), (2, .int ((-1))), (0, .ref (ad (430))), (1, .ref (ad (3 + k)))]) hx hb dX4_isInTimeOrder_12 hl (by decide) rfl (fun ls hl => ?_)
  have loop_14 : ∀ (n i : Nat) (x : Int32), (i ≤ n0) → (n0 - i < n) → (some x = foldI (S_ord σ k) (some (-1)) i) → ∀ ls : Array Slot, lv_has ls 6 [(4, .int (nI i)), (3, .int (f_countPrints σ k)), (2, .int (x)), (0, .ref (ad (430))), (1, .ref (ad (3 + k)))] → W p l e (headSpec wsX4_isInTimeOrder ({ frames := 3, cells := 0, slots := 0, locals := 75 } : Room)).room s m ([.ref (ad (430)), .ref (ad (3 + k))] : List Value).toArray below meth c s.heap [] 0 0 (MQ below (sp_S (some (.int (b2i (f_ord σ k))))) ([.ref (ad (430)), .ref (ad (3 + k))] : List Value).toArray s 0 0 (fun _ => False)) (F0 m 14 ls []) := by
    intro n
    induction n with
    | zero => intro i x hle hlt hi_0 ls hl; exact absurd hlt (Nat.not_lt_zero _)
    | succ n ih =>
      intro i x hle hlt hi_0 ls hl
      refine lv_iload hx hb dX4_isInTimeOrder_14 (lv_at hl 0 rfl) ?_
      refine lv_iload_n hx hb dX4_isInTimeOrder_16 rfl (lv_at hl 1 rfl) ?_
      refine lv_icmp_ge (tgt := 60) hx hb dX4_isInTimeOrder_17 (by decide) (fun c_1 => ?_) (fun c_1 => ?_)
      · skip
        have c_1d := Int32.not_lt.mpr c_1
        rw [hN] at c_1
        have hx_i : i = n0 := by have := (nI_leI (a := n0) (b := i) (by omega) (by omega)).mp c_1; omega
        try rw [hx_i] at hi_0
        refine lv_iconst (v := 1) hx hb dX4_isInTimeOrder_60 (by decide) ?_
        exact W.zret (v := 1) hx hb hr (by decide) (fun T9 hT9 _ => ⟨congrArg (fun z9 => Outcome.returned (some (Value.int z9))) (show (1 : Int32) = b2i (f_ord σ k) from (by rw [ord_some hN hi_0]; rfl)), hT9⟩) (fun _ h => by cases h) dX4_isInTimeOrder_61
      · skip
        have c_1d := Int32.not_le.mp c_1
        rw [hN] at c_1
        have hb_i : i < n0 := Nat.lt_of_not_le (fun z => c_1 (nI_le z (by omega)))
        refine lv_aload_n hx hb dX4_isInTimeOrder_20 rfl (lv_at hl 3 rfl) ?_
        refine sp_get hx hb hts wi_X4_isInTimeOrder_X4 hown hK hP (κ := 430) (by decide) cE_proof rfl 0 (by decide) (hts _ (List.mem_of_getElem? (i := 1) rfl)) (fun _ h => h) rfl dX4_isInTimeOrder_21 ?_
        refine lv_aload_n hx hb dX4_isInTimeOrder_24 rfl (lv_at hl 4 rfl) ?_
        refine lv_iload hx hb dX4_isInTimeOrder_25 (lv_at hl 0 rfl) ?_
        refine sp_call (W.runV (As := [.ref (ad (3 + k)), .int (nI i)]) (rest := []) ⟨hx, hb, hml, hown, hts⟩ (c_X0_inPlace l D ad cy pm rj σ k (by omega) (nI i)) (cwV 2 hts gX4_isInTimeOrder_X0_inPlace rfl rfl rfl (by decide +kernel) ⟨Nat.le_of_ble_eq_true rfl, Nat.le_of_ble_eq_true rfl⟩) (sp_preV hK hP (κ := 0) (by omega) (cE_beach (by omega) (by omega)) rfl) rfl rfl hl.1 rfl (lv_room (Nat.le_of_ble_eq_true rfl)) dX4_isInTimeOrder_27 ⟨Nat.le_of_ble_eq_true rfl, Nat.le_of_ble_eq_true rfl⟩) ?_
        rcases q_2 : f_inPlace σ k (nI i) with _ | j_3
        · refine W.eq (g2 := F0 m 30 ls [.null]) rfl ?_
          refine lv_astoreN (lv' := [(5, .null), (4, .int (nI i)), (3, .int (f_countPrints σ k)), (2, .int (x)), (0, .ref (ad (430))), (1, .ref (ad (3 + k)))]) hx hb dX4_isInTimeOrder_30 hl (by decide) rfl (fun ls hl => ?_)
          refine lv_aloadN hx hb dX4_isInTimeOrder_32 (lv_at hl 0 rfl) ?_
          refine lv_ifnullN (tgt := 46) hx hb dX4_isInTimeOrder_34 (by decide) ?_
          refine lv_iconst (v := 0) hx hb dX4_isInTimeOrder_46 (by decide) ?_
          exact W.zret (v := 0) hx hb hr (by decide) (fun T9 hT9 _ => ⟨congrArg (fun z9 => Outcome.returned (some (Value.int z9))) (show (0 : Int32) = b2i (f_ord σ k) from (by rw [ord_none hN (show foldI (S_ord σ k) (some (-1)) (i + 1) = none from (by rw [foldI_succ, ← hi_0]; first | exact S_ord_none q_2 | (rw [S_ord_some q_2]; simp [b2i, q_2]; done))) hb_i]; rfl)), hT9⟩) (fun _ h => by cases h) dX4_isInTimeOrder_47
        · have hj_3 := f_inPlace_lt q_2
          refine W.eq (g2 := F0 m 30 ls [.ref (ad (9 + j_3))]) rfl ?_
          refine lv_astore (lv' := [(5, .ref (ad (9 + j_3))), (4, .int (nI i)), (3, .int (f_countPrints σ k)), (2, .int (x)), (0, .ref (ad (430))), (1, .ref (ad (3 + k)))]) hx hb dX4_isInTimeOrder_30 hl (by decide) rfl (fun ls hl => ?_)
          refine lv_aload hx hb dX4_isInTimeOrder_32 (lv_at hl 0 rfl) ?_
          refine lv_ifnull hx hb dX4_isInTimeOrder_34 ?_
          refine lv_aload hx hb dX4_isInTimeOrder_37 (lv_at hl 0 rfl) ?_
          refine sp_get hx hb hts wi_X4_isInTimeOrder_X3 hown hK hP (κ := 9 + j_3) (by omega) (cE_print (by omega) (by omega)) rfl 3 (by decide) (hts _ (List.mem_of_getElem? (i := 2) rfl)) (fun _ h => h) rfl dX4_isInTimeOrder_39 ?_
          refine lv_iload_n hx hb dX4_isInTimeOrder_42 rfl (lv_at hl 3 rfl) ?_
          refine lv_icmp_gt (tgt := 48) hx hb dX4_isInTimeOrder_43 (by decide) (fun c_4 => ?_) (fun c_4 => ?_)
          · skip
            have c_4d := Int32.not_le.mpr c_4
            refine lv_aload hx hb dX4_isInTimeOrder_48 (lv_at hl 0 rfl) ?_
            refine sp_get hx hb hts wi_X4_isInTimeOrder_X3 hown hK hP (κ := 9 + j_3) (by omega) (cE_print (by omega) (by omega)) rfl 3 (by decide) (hts _ (List.mem_of_getElem? (i := 2) rfl)) (fun _ h => h) rfl dX4_isInTimeOrder_50 ?_
            refine lv_istore_n (lv' := [(2, .int (σ (9 + j_3) 3)), (5, .ref (ad (9 + j_3))), (4, .int (nI i)), (3, .int (f_countPrints σ k)), (0, .ref (ad (430))), (1, .ref (ad (3 + k)))]) hx hb dX4_isInTimeOrder_53 rfl hl (by decide) rfl (fun ls hl => ?_)
            refine lv_iinc (v := nI (i + 1)) (lv' := [(4, .int (nI (i + 1))), (2, .int (σ (9 + j_3) 3)), (5, .ref (ad (9 + j_3))), (3, .int (f_countPrints σ k)), (0, .ref (ad (430))), (1, .ref (ad (3 + k)))]) hx hb dX4_isInTimeOrder_54 hl (k := 2) rfl (nI_1 _) (by decide) rfl (fun ls hl => ?_)
            refine lv_goto (tgt := 14) hx hb dX4_isInTimeOrder_57 (by decide) ?_
            exact ih (i + 1) (σ (9 + j_3) 3) (by omega) (by omega) (by rw [foldI_succ, ← hi_0, S_ord_some q_2]; simp [b2i, q_2, c_4, c_4d]) ls (lv_sub hl [0, 3, 1, 4, 5] rfl)
          · skip
            have c_4d := Int32.not_lt.mp c_4
            refine lv_iconst (v := 0) hx hb dX4_isInTimeOrder_46 (by decide) ?_
            exact W.zret (v := 0) hx hb hr (by decide) (fun T9 hT9 _ => ⟨congrArg (fun z9 => Outcome.returned (some (Value.int z9))) (show (0 : Int32) = b2i (f_ord σ k) from (by rw [ord_none hN (show foldI (S_ord σ k) (some (-1)) (i + 1) = none from (by rw [foldI_succ, ← hi_0]; first | exact S_ord_none q_2 | (rw [S_ord_some q_2]; simp [b2i, q_2, c_4, c_4d]; done))) hb_i]; rfl)), hT9⟩) (fun _ h => by cases h) dX4_isInTimeOrder_47
  exact loop_14 (n0 + 1) (0) (-1)  (by omega) (by omega) (rfl) ls (lv_sub hl [0, 1, 2, 3, 4] rfl)

theorem wi_X4_trackHolds_X8 : ∀ w ∈ wsX80, w ∈ wsX4_trackHolds := by decide +kernel
set_option maxHeartbeats 4000000 in
set_option maxRecDepth 100000 in
theorem c_X4_trackHolds (l : Launch) (D : va_G) (ad : Nat → Nat) (cy : Nat → ClassId) (pm : Nat → Nat) (rj : Option Nat) (σ : Nat → Nat → Int32) (k : Nat) (hk : k < 6) : Met l yX4_trackHolds wsX4_trackHolds ({ frames := 4, cells := 0, slots := 0, locals := 100 } : Room) (sp_Pc D (tyG cy) [.ref (ad (430)), .ref (ad (3 + k))] (cW ad cy pm rj σ)) (sp_S (some (.int (b2i (f_trackOk σ k))))) 0 0 (fun _ => False) := by
  refine Met.ofW (cc := cX4_trackHolds) (maxL := 2) (ret := (some .boolean)) (by decide) rfl ?_
  intro p e s m args below meth c s₁ B hml hv
  obtain ⟨rfl, hP, hK⟩ := hv
  have hx := B.exec
  have hb := B.bytes
  have hr := B.returns
  have hts := atoms_spec (ws := wsX4_trackHolds) B.pre
  have hown : s.vm.findClass RX4 = some m.cls := findClass_of_methodNamed B.named
  have hlocks := B.notSynchronized
  have hl := lv_entry ([.ref (ad (430)), .ref (ad (3 + k))]) (n := 2) (Nat.le_of_ble_eq_true rfl)
  refine W.eq (lg_entry_eq _ ([.ref (ad (430)), .ref (ad (3 + k))]) _) ?_
  generalize (lg_sl ([.ref (ad (430)), .ref (ad (3 + k))]) ++ List.replicate (2 - (lg_sl ([.ref (ad (430)), .ref (ad (3 + k))])).length) Slot.unset).toArray = ls at hl ⊢
  have hl : lv_has ls 2 [(0, .ref (ad (430))), (1, .ref (ad (3 + k)))] := hl
  refine lv_aload_n hx hb dX4_trackHolds_0 rfl (lv_at hl 0 rfl) ?_
  refine lv_aload_n hx hb dX4_trackHolds_1 rfl (lv_at hl 1 rfl) ?_
  refine sp_call (W.runV (As := [.ref (ad (3 + k))]) (rest := []) ⟨hx, hb, hml, hown, hts⟩ (c_X4_lengthByPrints l D ad cy pm rj σ k (by omega)) (cwV 1 hts gX4_trackHolds_X4_lengthByPrints rfl rfl rfl (by decide +kernel) ⟨Nat.le_of_ble_eq_true rfl, Nat.le_of_ble_eq_true rfl⟩) (sp_preV hK hP (κ := 430) (by decide) cE_proof rfl) rfl rfl hl.1 rfl (lv_room (Nat.le_of_ble_eq_true rfl)) dX4_trackHolds_2 ⟨Nat.le_of_ble_eq_true rfl, Nat.le_of_ble_eq_true rfl⟩) ?_
  refine W.eq (g2 := F0 m 5 ls [.int (f_len σ k)]) rfl ?_
  refine lv_aload_n hx hb dX4_trackHolds_5 rfl (lv_at hl 0 rfl) ?_
  refine lv_aload_n hx hb dX4_trackHolds_6 rfl (lv_at hl 1 rfl) ?_
  refine sp_call (W.runV (As := [.ref (ad (3 + k))]) (rest := [.int (f_len σ k)]) ⟨hx, hb, hml, hown, hts⟩ (c_X4_lengthByDirections l D ad cy pm rj σ k (by omega)) (cwV 1 hts gX4_trackHolds_X4_lengthByDirections rfl rfl rfl (by decide +kernel) ⟨Nat.le_of_ble_eq_true rfl, Nat.le_of_ble_eq_true rfl⟩) (sp_preV hK hP (κ := 430) (by decide) cE_proof rfl) rfl rfl hl.1 rfl (lv_room (Nat.le_of_ble_eq_true rfl)) dX4_trackHolds_7 ⟨Nat.le_of_ble_eq_true rfl, Nat.le_of_ble_eq_true rfl⟩) ?_
  refine W.eq (g2 := F0 m 10 ls [.int (f_lenD σ k), .int (f_len σ k)]) rfl ?_
  refine lv_icmp_ne (tgt := 44) hx hb dX4_trackHolds_10 (by decide) (fun c_1 => ?_) (fun c_1 => ?_)
  · skip
    refine lv_iconst (v := 0) hx hb dX4_trackHolds_44 (by decide) ?_
    exact W.zret (v := 0) hx hb hr (by decide) (fun T9 hT9 _ => ⟨congrArg (fun z9 => Outcome.returned (some (Value.int z9))) (show (0 : Int32) = b2i (f_trackOk σ k) from (by first | rfl | (simp [f_trackOk, b2i, c_1]; done))), hT9⟩) (fun _ h => by cases h) dX4_trackHolds_45
  · skip
    refine lv_aload_n hx hb dX4_trackHolds_13 rfl (lv_at hl 0 rfl) ?_
    refine lv_aload_n hx hb dX4_trackHolds_14 rfl (lv_at hl 1 rfl) ?_
    refine sp_get hx hb hts wi_X4_trackHolds_X8 hown hK hP (κ := 3 + k) (by omega) (cE_track (by omega) (by omega)) rfl 1 (by decide) (hts _ (List.mem_of_getElem? (i := 1) rfl)) (fun _ h => h) rfl dX4_trackHolds_15 ?_
    refine sp_call (W.runV (As := [.int (σ (3 + k) 1)]) (rest := []) ⟨hx, hb, hml, hown, hts⟩ (c_X4_errorsByPrints l D ad cy pm rj σ (σ (3 + k) 1)) (cwV 1 hts gX4_trackHolds_X4_errorsByPrints rfl rfl rfl (by decide +kernel) ⟨Nat.le_of_ble_eq_true rfl, Nat.le_of_ble_eq_true rfl⟩) (sp_preV hK hP (κ := 430) (by decide) cE_proof rfl) rfl rfl hl.1 rfl (lv_room (Nat.le_of_ble_eq_true rfl)) dX4_trackHolds_18 ⟨Nat.le_of_ble_eq_true rfl, Nat.le_of_ble_eq_true rfl⟩) ?_
    refine W.eq (g2 := F0 m 21 ls [.int (f_errs σ (σ (3 + k) 1))]) rfl ?_
    refine lv_aload_n hx hb dX4_trackHolds_21 rfl (lv_at hl 0 rfl) ?_
    refine lv_aload_n hx hb dX4_trackHolds_22 rfl (lv_at hl 1 rfl) ?_
    refine sp_get hx hb hts wi_X4_trackHolds_X8 hown hK hP (κ := 3 + k) (by omega) (cE_track (by omega) (by omega)) rfl 1 (by decide) (hts _ (List.mem_of_getElem? (i := 1) rfl)) (fun _ h => h) rfl dX4_trackHolds_23 ?_
    refine sp_call (W.runV (As := [.int (σ (3 + k) 1)]) (rest := [.int (f_errs σ (σ (3 + k) 1))]) ⟨hx, hb, hml, hown, hts⟩ (c_X4_errorsByKinds l D ad cy pm rj σ (σ (3 + k) 1)) (cwV 1 hts gX4_trackHolds_X4_errorsByKinds rfl rfl rfl (by decide +kernel) ⟨Nat.le_of_ble_eq_true rfl, Nat.le_of_ble_eq_true rfl⟩) (sp_preV hK hP (κ := 430) (by decide) cE_proof rfl) rfl rfl hl.1 rfl (lv_room (Nat.le_of_ble_eq_true rfl)) dX4_trackHolds_26 ⟨Nat.le_of_ble_eq_true rfl, Nat.le_of_ble_eq_true rfl⟩) ?_
    refine W.eq (g2 := F0 m 29 ls [.int (f_errsK σ (σ (3 + k) 1)), .int (f_errs σ (σ (3 + k) 1))]) rfl ?_
    refine lv_icmp_ne (tgt := 44) hx hb dX4_trackHolds_29 (by decide) (fun c_2 => ?_) (fun c_2 => ?_)
    · skip
      refine lv_iconst (v := 0) hx hb dX4_trackHolds_44 (by decide) ?_
      exact W.zret (v := 0) hx hb hr (by decide) (fun T9 hT9 _ => ⟨congrArg (fun z9 => Outcome.returned (some (Value.int z9))) (show (0 : Int32) = b2i (f_trackOk σ k) from (by first | rfl | (simp [f_trackOk, b2i, c_1, c_2]; done))), hT9⟩) (fun _ h => by cases h) dX4_trackHolds_45
    · skip
      refine lv_aload_n hx hb dX4_trackHolds_32 rfl (lv_at hl 0 rfl) ?_
      refine lv_aload_n hx hb dX4_trackHolds_33 rfl (lv_at hl 1 rfl) ?_
      refine sp_call (W.runV (As := [.ref (ad (3 + k))]) (rest := []) ⟨hx, hb, hml, hown, hts⟩ (c_X4_isInTimeOrder l D ad cy pm rj σ k (by omega)) (cwV 1 hts gX4_trackHolds_X4_isInTimeOrder rfl rfl rfl (by decide +kernel) ⟨Nat.le_of_ble_eq_true rfl, Nat.le_of_ble_eq_true rfl⟩) (sp_preV hK hP (κ := 430) (by decide) cE_proof rfl) rfl rfl hl.1 rfl (lv_room (Nat.le_of_ble_eq_true rfl)) dX4_trackHolds_34 ⟨Nat.le_of_ble_eq_true rfl, Nat.le_of_ble_eq_true rfl⟩) ?_
      refine W.eq (g2 := F0 m 37 ls [.int (b2i (f_ord σ k))]) rfl ?_
      refine lv_if_eq (tgt := 44) hx hb dX4_trackHolds_37 (by decide) (fun c_3 => ?_) (fun c_3 => ?_)
      · rw [b2i_eq0] at c_3
        refine lv_iconst (v := 0) hx hb dX4_trackHolds_44 (by decide) ?_
        exact W.zret (v := 0) hx hb hr (by decide) (fun T9 hT9 _ => ⟨congrArg (fun z9 => Outcome.returned (some (Value.int z9))) (show (0 : Int32) = b2i (f_trackOk σ k) from (by first | rfl | (simp [f_trackOk, b2i, c_1, c_2, c_3]; done))), hT9⟩) (fun _ h => by cases h) dX4_trackHolds_45
      · rw [b2i_eq0] at c_3
        refine lv_iconst (v := 1) hx hb dX4_trackHolds_40 (by decide) ?_
        refine lv_goto (tgt := 45) hx hb dX4_trackHolds_41 (by decide) ?_
        exact W.zret (v := 1) hx hb hr (by decide) (fun T9 hT9 _ => ⟨congrArg (fun z9 => Outcome.returned (some (Value.int z9))) (show (1 : Int32) = b2i (f_trackOk σ k) from (by first | rfl | (simp [f_trackOk, b2i, c_1, c_2, c_3]; done))), hT9⟩) (fun _ h => by cases h) dX4_trackHolds_45

theorem wi_X4_holds_X4 : ∀ w ∈ wsX40, w ∈ wsX4_holds := by decide +kernel
theorem wi_X4_holds_X0 : ∀ w ∈ wsX00, w ∈ wsX4_holds := by decide +kernel
theorem wi_X4_holds_X3 : ∀ w ∈ wsX30, w ∈ wsX4_holds := by decide +kernel
theorem wi_X4_holds_X8 : ∀ w ∈ wsX80, w ∈ wsX4_holds := by decide +kernel
set_option maxHeartbeats 4000000 in
set_option maxRecDepth 100000 in
theorem c_X4_holds (l : Launch) (D : va_G) (ad : Nat → Nat) (cy : Nat → ClassId) (pm : Nat → Nat) (rj : Option Nat) (σ : Nat → Nat → Int32) (hi : sp_inj ad 459) : Met l yX4_holds wsX4_holds ({ frames := 5, cells := 0, slots := 0, locals := 121 } : Room) (sp_Pc D (tyG cy) [.ref (ad (430))] (cW ad cy pm rj σ)) (sp_S (some (.int (b2i (f_holds σ))))) 0 0 (fun _ => False) := by
  refine Met.ofW (cc := cX4_holds) (maxL := 5) (ret := (some .boolean)) (by decide) rfl ?_
  intro p e s m args below meth c s₁ B hml hv
  obtain ⟨rfl, hP, hK⟩ := hv
  have hx := B.exec
  have hb := B.bytes
  have hr := B.returns
  have hts := atoms_spec (ws := wsX4_holds) B.pre
  have hown : s.vm.findClass RX4 = some m.cls := findClass_of_methodNamed B.named
  have hlocks := B.notSynchronized
  have hl := lv_entry ([.ref (ad (430))]) (n := 5) (Nat.le_of_ble_eq_true rfl)
  refine W.eq (lg_entry_eq _ ([.ref (ad (430))]) _) ?_
  generalize (lg_sl ([.ref (ad (430))]) ++ List.replicate (5 - (lg_sl ([.ref (ad (430))])).length) Slot.unset).toArray = ls at hl ⊢
  have hl : lv_has ls 5 [(0, .ref (ad (430)))] := hl
  refine lv_aload_n hx hb dX4_holds_0 rfl (lv_at hl 0 rfl) ?_
  refine sp_get hx hb hts wi_X4_holds_X4 hown hK hP (κ := 430) (by decide) cE_proof rfl 0 (by decide) (hts _ (List.mem_of_getElem? (i := 1) rfl)) (fun _ h => h) rfl dX4_holds_1 ?_
  refine sp_get hx hb hts wi_X4_holds_X0 hown hK hP (κ := 0) (by omega) (cE_beach (by omega) (by omega)) rfl 0 (by decide) (hts _ (List.mem_of_getElem? (i := 2) rfl)) (fun _ h => h) rfl dX4_holds_4 ?_
  refine lv_astore_n (lv' := [(1, .ref (ad (1))), (0, .ref (ad (430)))]) hx hb dX4_holds_7 rfl hl (by decide) rfl (fun ls hl => ?_)
  refine lv_aload_n hx hb dX4_holds_8 rfl (lv_at hl 0 rfl) ?_
  refine sp_alen hx hb hK hP (κ := 1) (by omega) 5 (cE_tracks (by omega) (by omega)) rfl (v := 6) rfl dX4_holds_9 ?_
  refine lv_istore_n (lv' := [(2, .int (6)), (1, .ref (ad (1))), (0, .ref (ad (430)))]) hx hb dX4_holds_10 rfl hl (by decide) rfl (fun ls hl => ?_)
  refine lv_iconst (v := 0) hx hb dX4_holds_11 (by decide) ?_
  refine lv_istore_n (lv' := [(3, .int (0)), (2, .int (6)), (1, .ref (ad (1))), (0, .ref (ad (430)))]) hx hb dX4_holds_12 rfl hl (by decide) rfl (fun ls hl => ?_)
  have loop_13 : ∀ (n i : Nat), (i ≤ 6) → (6 - i < n) → (fstI (P_badT σ) i = none) → ∀ ls : Array Slot, lv_has ls 5 [(3, .int (nI i)), (2, .int (6)), (1, .ref (ad (1))), (0, .ref (ad (430)))] → W p l e (headSpec wsX4_holds ({ frames := 5, cells := 0, slots := 0, locals := 121 } : Room)).room s m ([.ref (ad (430))] : List Value).toArray below meth c s.heap [] 0 0 (MQ below (sp_S (some (.int (b2i (f_holds σ))))) ([.ref (ad (430))] : List Value).toArray s 0 0 (fun _ => False)) (F0 m 13 ls []) := by
    intro n
    induction n with
    | zero => intro i hle hlt hi_0 ls hl; exact absurd hlt (Nat.not_lt_zero _)
    | succ n ih =>
      intro i hle hlt hi_0 ls hl
      refine lv_iload_n hx hb dX4_holds_13 rfl (lv_at hl 0 rfl) ?_
      refine lv_iload_n hx hb dX4_holds_14 rfl (lv_at hl 1 rfl) ?_
      refine lv_icmp_ge (tgt := 48) hx hb dX4_holds_15 (by decide) (fun c_1 => ?_) (fun c_1 => ?_)
      · skip
        have c_1d := Int32.not_lt.mpr c_1
        have hx_i : i = 6 := by have := (nI_leI (a := 6) (b := i) (by omega) (by omega)).mp c_1; omega
        try rw [hx_i] at hi_0
        refine lv_aload_n hx hb dX4_holds_48 rfl (lv_at hl 3 rfl) ?_
        refine sp_get hx hb hts wi_X4_holds_X4 hown hK hP (κ := 430) (by decide) cE_proof rfl 0 (by decide) (hts _ (List.mem_of_getElem? (i := 1) rfl)) (fun _ h => h) rfl dX4_holds_49 ?_
        refine sp_get hx hb hts wi_X4_holds_X0 hown hK hP (κ := 0) (by omega) (cE_beach (by omega) (by omega)) rfl 1 (by decide) (hts _ (List.mem_of_getElem? (i := 4) rfl)) (fun _ h => h) rfl dX4_holds_52 ?_
        refine lv_astore_n (lv' := [(1, .ref (ad (2))), (3, .int (nI i)), (2, .int (6)), (0, .ref (ad (430)))]) hx hb dX4_holds_55 rfl hl (by decide) rfl (fun ls hl => ?_)
        refine lv_aload_n hx hb dX4_holds_56 rfl (lv_at hl 0 rfl) ?_
        refine sp_alen hx hb hK hP (κ := 2) (by omega) 4 (cE_prints (by omega) (by omega)) rfl (v := 30) rfl dX4_holds_57 ?_
        refine lv_istore_n (lv' := [(2, .int (30)), (1, .ref (ad (2))), (3, .int (nI i)), (0, .ref (ad (430)))]) hx hb dX4_holds_58 rfl hl (by decide) rfl (fun ls hl => ?_)
        refine lv_iconst (v := 0) hx hb dX4_holds_59 (by decide) ?_
        refine lv_istore_n (lv' := [(3, .int (0)), (2, .int (30)), (1, .ref (ad (2))), (0, .ref (ad (430)))]) hx hb dX4_holds_60 rfl hl (by decide) rfl (fun ls hl => ?_)
        have loop_61 : ∀ (n j : Nat), (j ≤ 30) → (30 - j < n) → (fstI (P_badP σ) j = none) → ∀ ls : Array Slot, lv_has ls 5 [(3, .int (nI j)), (2, .int (30)), (1, .ref (ad (2))), (0, .ref (ad (430)))] → W p l e (headSpec wsX4_holds ({ frames := 5, cells := 0, slots := 0, locals := 121 } : Room)).room s m ([.ref (ad (430))] : List Value).toArray below meth c s.heap [] 0 0 (MQ below (sp_S (some (.int (b2i (f_holds σ))))) ([.ref (ad (430))] : List Value).toArray s 0 0 (fun _ => False)) (F0 m 61 ls []) := by
          intro n
          induction n with
          | zero => intro j hle hlt hj_0 ls hl; exact absurd hlt (Nat.not_lt_zero _)
          | succ n ih =>
            intro j hle hlt hj_0 ls hl
            refine lv_iload_n hx hb dX4_holds_61 rfl (lv_at hl 0 rfl) ?_
            refine lv_iload_n hx hb dX4_holds_62 rfl (lv_at hl 1 rfl) ?_
            refine lv_icmp_ge (tgt := 124) hx hb dX4_holds_63 (by decide) (fun c_2 => ?_) (fun c_2 => ?_)
            · skip
              have c_2d := Int32.not_lt.mpr c_2
              have hx_j : j = 30 := by have := (nI_leI (a := 30) (b := j) (by omega) (by omega)).mp c_2; omega
              try rw [hx_j] at hj_0
              refine lv_iconst (v := 1) hx hb dX4_holds_124 (by decide) ?_
              exact W.zret (v := 1) hx hb hr (by decide) (fun T9 hT9 _ => ⟨congrArg (fun z9 => Outcome.returned (some (Value.int z9))) (show (1 : Int32) = b2i (f_holds σ) from (by unfold f_holds; rw [hi_0, hj_0]; rfl)), hT9⟩) (fun _ h => by cases h) dX4_holds_125
            · skip
              have c_2d := Int32.not_le.mp c_2
              have hb_j : j < 30 := Nat.lt_of_not_le (fun z => c_2 (nI_le z (by omega)))
              refine lv_aload_n hx hb dX4_holds_66 rfl (lv_at hl 2 rfl) ?_
              refine lv_iload_n hx hb dX4_holds_67 rfl (lv_at hl 0 rfl) ?_
              refine sp_aald hx hb hK hP (κ := 2) (by omega) 4 (cE_prints (by omega) (by omega)) rfl j rfl (by omega) (by decide) (q := ad (9 + j)) rfl dX4_holds_68 ?_
              refine lv_astore (lv' := [(4, .ref (ad (9 + j))), (3, .int (nI j)), (2, .int (30)), (1, .ref (ad (2))), (0, .ref (ad (430)))]) hx hb dX4_holds_69 hl (by decide) rfl (fun ls hl => ?_)
              refine lv_aload hx hb dX4_holds_71 (lv_at hl 0 rfl) ?_
              refine sp_get hx hb hts wi_X4_holds_X3 hown hK hP (κ := 9 + j) (by omega) (cE_print (by omega) (by omega)) rfl 0 (by decide) (hts _ (List.mem_of_getElem? (i := 5) rfl)) (fun _ h => h) rfl dX4_holds_73 ?_
              refine lv_if_eq (tgt := 118) hx hb dX4_holds_76 (by decide) (fun c_3 => ?_) (fun c_3 => ?_)
              · rw [bz_eq0] at c_3
                refine lv_iinc (v := nI (j + 1)) (lv' := [(3, .int (nI (j + 1))), (4, .ref (ad (9 + j))), (2, .int (30)), (1, .ref (ad (2))), (0, .ref (ad (430)))]) hx hb dX4_holds_118 hl (k := 1) rfl (nI_1 _) (by decide) rfl (fun ls hl => ?_)
                refine lv_goto (tgt := 61) hx hb dX4_holds_121 (by decide) ?_
                exact ih (j + 1) (by omega) (by omega) (fstI_succ_no hj_0 (by simp [P_badP, b2i, c_3])) ls (lv_sub hl [0, 2, 3, 4] rfl)
              · rw [bz_eq0] at c_3
                refine lv_aload_n hx hb dX4_holds_79 rfl (lv_at hl 4 rfl) ?_
                refine sp_get hx hb hts wi_X4_holds_X4 hown hK hP (κ := 430) (by decide) cE_proof rfl 0 (by decide) (hts _ (List.mem_of_getElem? (i := 1) rfl)) (fun _ h => h) rfl dX4_holds_80 ?_
                refine lv_aload hx hb dX4_holds_83 (lv_at hl 0 rfl) ?_
                refine sp_get hx hb hts wi_X4_holds_X3 hown hK hP (κ := 9 + j) (by omega) (cE_print (by omega) (by omega)) rfl 4 (by decide) (hts _ (List.mem_of_getElem? (i := 6) rfl)) (fun _ h => h) rfl dX4_holds_85 ?_
                refine sp_call (W.runV (As := [.int (σ (9 + j) 4)]) (rest := []) ⟨hx, hb, hml, hown, hts⟩ (c_X0_isUnderWater l D ad cy pm rj σ (σ (9 + j) 4)) (cwV 1 hts gX4_holds_X0_isUnderWater rfl rfl rfl (by decide +kernel) ⟨Nat.le_of_ble_eq_true rfl, Nat.le_of_ble_eq_true rfl⟩) (sp_preV hK hP (κ := 0) (by omega) (cE_beach (by omega) (by omega)) rfl) rfl rfl hl.1 rfl (lv_room (Nat.le_of_ble_eq_true rfl)) dX4_holds_88 ⟨Nat.le_of_ble_eq_true rfl, Nat.le_of_ble_eq_true rfl⟩) ?_
                refine W.eq (g2 := F0 m 91 ls [.int (b2i (f_under σ (σ (9 + j) 4)))]) rfl ?_
                refine lv_if_ne (tgt := 116) hx hb dX4_holds_91 (by decide) (fun c_4 => ?_) (fun c_4 => ?_)
                · rw [b2i_eq0] at c_4
                  refine lv_iconst (v := 0) hx hb dX4_holds_116 (by decide) ?_
                  exact W.zret (v := 0) hx hb hr (by decide) (fun T9 hT9 _ => ⟨congrArg (fun z9 => Outcome.returned (some (Value.int z9))) (show (0 : Int32) = b2i (f_holds σ) from (by unfold f_holds; rw [fstI_hit hj_0 (show P_badP σ j = true from (by simp [P_badP, b2i, c_3, c_4])) hb_j]; simp [b2i])), hT9⟩) (fun _ h => by cases h) dX4_holds_117
                · rw [b2i_eq0] at c_4
                  refine lv_aload_n hx hb dX4_holds_94 rfl (lv_at hl 4 rfl) ?_
                  refine sp_get hx hb hts wi_X4_holds_X4 hown hK hP (κ := 430) (by decide) cE_proof rfl 0 (by decide) (hts _ (List.mem_of_getElem? (i := 1) rfl)) (fun _ h => h) rfl dX4_holds_95 ?_
                  refine lv_aload hx hb dX4_holds_98 (lv_at hl 0 rfl) ?_
                  refine sp_get hx hb hts wi_X4_holds_X3 hown hK hP (κ := 9 + j) (by omega) (cE_print (by omega) (by omega)) rfl 4 (by decide) (hts _ (List.mem_of_getElem? (i := 6) rfl)) (fun _ h => h) rfl dX4_holds_100 ?_
                  refine lv_aload hx hb dX4_holds_103 (lv_at hl 0 rfl) ?_
                  refine sp_get hx hb hts wi_X4_holds_X3 hown hK hP (κ := 9 + j) (by omega) (cE_print (by omega) (by omega)) rfl 5 (by decide) (hts _ (List.mem_of_getElem? (i := 7) rfl)) (fun _ h => h) rfl dX4_holds_105 ?_
                  refine sp_call (W.runV (As := [.int (σ (9 + j) 4), .int (σ (9 + j) 5)]) (rest := []) ⟨hx, hb, hml, hown, hts⟩ (c_X0_inCell l D ad cy pm rj σ (σ (9 + j) 4) (σ (9 + j) 5)) (cwV 2 hts gX4_holds_X0_inCell rfl rfl rfl (by decide +kernel) ⟨Nat.le_of_ble_eq_true rfl, Nat.le_of_ble_eq_true rfl⟩) (sp_preV hK hP (κ := 0) (by omega) (cE_beach (by omega) (by omega)) rfl) rfl rfl hl.1 rfl (lv_room (Nat.le_of_ble_eq_true rfl)) dX4_holds_108 ⟨Nat.le_of_ble_eq_true rfl, Nat.le_of_ble_eq_true rfl⟩) ?_
                  rcases q_5 : f_inCell σ (σ (9 + j) 4) (σ (9 + j) 5) with _ | j_6
                  · refine W.eq (g2 := F0 m 111 ls [.null]) rfl ?_
                    refine lv_aload hx hb dX4_holds_111 (lv_at hl 0 rfl) ?_
                    refine W.eq (g2 := F0 m 113 ls (va_rf (some (ad (9 + j))) :: va_rf (none : Option Nat) :: [])) rfl ?_
                    refine lv_acmp_eq (tgt := 118) hx hb dX4_holds_113 (by decide) (fun c_7 => ?_) (fun c_7 => ?_)
                    · cases c_7
                    · skip
                      refine lv_iconst (v := 0) hx hb dX4_holds_116 (by decide) ?_
                      exact W.zret (v := 0) hx hb hr (by decide) (fun T9 hT9 _ => ⟨congrArg (fun z9 => Outcome.returned (some (Value.int z9))) (show (0 : Int32) = b2i (f_holds σ) from (by unfold f_holds; rw [fstI_hit hj_0 (show P_badP σ j = true from (by simp [P_badP, b2i, c_3, c_4, q_5])) hb_j]; simp [b2i])), hT9⟩) (fun _ h => by cases h) dX4_holds_117
                  · have hj_6 := f_inCell_lt q_5
                    refine W.eq (g2 := F0 m 111 ls [.ref (ad (9 + j_6))]) rfl ?_
                    refine lv_aload hx hb dX4_holds_111 (lv_at hl 0 rfl) ?_
                    refine W.eq (g2 := F0 m 113 ls (va_rf (some (ad (9 + j))) :: va_rf (some (ad (9 + j_6))) :: [])) rfl ?_
                    refine lv_acmp_eq (tgt := 118) hx hb dX4_holds_113 (by decide) (fun c_8 => ?_) (fun c_8 => ?_)
                    · have c_8 : 9 + j_6 = 9 + j := hi _ _ (by omega) (by omega) (Option.some.inj c_8)
                      have hj9 : j_6 = j := by omega
                      refine lv_iinc (v := nI (j + 1)) (lv' := [(3, .int (nI (j + 1))), (4, .ref (ad (9 + j))), (2, .int (30)), (1, .ref (ad (2))), (0, .ref (ad (430)))]) hx hb dX4_holds_118 hl (k := 1) rfl (nI_1 _) (by decide) rfl (fun ls hl => ?_)
                      refine lv_goto (tgt := 61) hx hb dX4_holds_121 (by decide) ?_
                      exact ih (j + 1) (by omega) (by omega) (fstI_succ_no hj_0 (by simp [P_badP, b2i, c_3, c_4, q_5, c_8, hj9])) ls (lv_sub hl [0, 2, 3, 4] rfl)
                    · have c_8 : ¬ (9 + j_6) = (9 + j) := fun z => c_8 (by rw [z])
                      have hj9 : ¬ j_6 = j := fun z => c_8 (by rw [z])
                      refine lv_iconst (v := 0) hx hb dX4_holds_116 (by decide) ?_
                      exact W.zret (v := 0) hx hb hr (by decide) (fun T9 hT9 _ => ⟨congrArg (fun z9 => Outcome.returned (some (Value.int z9))) (show (0 : Int32) = b2i (f_holds σ) from (by unfold f_holds; rw [fstI_hit hj_0 (show P_badP σ j = true from (by simp [P_badP, b2i, c_3, c_4, q_5, c_8, hj9])) hb_j]; simp [b2i])), hT9⟩) (fun _ h => by cases h) dX4_holds_117
        exact loop_61 (30 + 1) (0)  (by omega) (by omega) (rfl) ls (lv_sub hl [0, 1, 2, 3] rfl)
      · skip
        have c_1d := Int32.not_le.mp c_1
        have hb_i : i < 6 := Nat.lt_of_not_le (fun z => c_1 (nI_le z (by omega)))
        refine lv_aload_n hx hb dX4_holds_18 rfl (lv_at hl 2 rfl) ?_
        refine lv_iload_n hx hb dX4_holds_19 rfl (lv_at hl 0 rfl) ?_
        refine sp_aald hx hb hK hP (κ := 1) (by omega) 5 (cE_tracks (by omega) (by omega)) rfl i rfl (by omega) (by decide) (q := ad (3 + i)) rfl dX4_holds_20 ?_
        refine lv_astore (lv' := [(4, .ref (ad (3 + i))), (3, .int (nI i)), (2, .int (6)), (1, .ref (ad (1))), (0, .ref (ad (430)))]) hx hb dX4_holds_21 hl (by decide) rfl (fun ls hl => ?_)
        refine lv_aload hx hb dX4_holds_23 (lv_at hl 0 rfl) ?_
        refine sp_get hx hb hts wi_X4_holds_X8 hown hK hP (κ := 3 + i) (by omega) (cE_track (by omega) (by omega)) rfl 0 (by decide) (hts _ (List.mem_of_getElem? (i := 3) rfl)) (fun _ h => h) rfl dX4_holds_25 ?_
        refine lv_if_eq (tgt := 42) hx hb dX4_holds_28 (by decide) (fun c_9 => ?_) (fun c_9 => ?_)
        · rw [bz_eq0] at c_9
          refine lv_iinc (v := nI (i + 1)) (lv' := [(3, .int (nI (i + 1))), (4, .ref (ad (3 + i))), (2, .int (6)), (1, .ref (ad (1))), (0, .ref (ad (430)))]) hx hb dX4_holds_42 hl (k := 1) rfl (nI_1 _) (by decide) rfl (fun ls hl => ?_)
          refine lv_goto (tgt := 13) hx hb dX4_holds_45 (by decide) ?_
          exact ih (i + 1) (by omega) (by omega) (fstI_succ_no hi_0 (by simp [P_badT, b2i, c_9])) ls (lv_sub hl [0, 2, 3, 4] rfl)
        · rw [bz_eq0] at c_9
          refine lv_aload_n hx hb dX4_holds_31 rfl (lv_at hl 4 rfl) ?_
          refine lv_aload hx hb dX4_holds_32 (lv_at hl 0 rfl) ?_
          refine sp_call (W.runV (As := [.ref (ad (3 + i))]) (rest := []) ⟨hx, hb, hml, hown, hts⟩ (c_X4_trackHolds l D ad cy pm rj σ i (by omega)) (cwV 1 hts gX4_holds_X4_trackHolds rfl rfl rfl (by decide +kernel) ⟨Nat.le_of_ble_eq_true rfl, Nat.le_of_ble_eq_true rfl⟩) (sp_preV hK hP (κ := 430) (by decide) cE_proof rfl) rfl rfl hl.1 rfl (lv_room (Nat.le_of_ble_eq_true rfl)) dX4_holds_34 ⟨Nat.le_of_ble_eq_true rfl, Nat.le_of_ble_eq_true rfl⟩) ?_
          refine W.eq (g2 := F0 m 37 ls [.int (b2i (f_trackOk σ i))]) rfl ?_
          refine lv_if_ne (tgt := 42) hx hb dX4_holds_37 (by decide) (fun c_10 => ?_) (fun c_10 => ?_)
          · rw [b2i_eq0] at c_10
            refine lv_iinc (v := nI (i + 1)) (lv' := [(3, .int (nI (i + 1))), (4, .ref (ad (3 + i))), (2, .int (6)), (1, .ref (ad (1))), (0, .ref (ad (430)))]) hx hb dX4_holds_42 hl (k := 1) rfl (nI_1 _) (by decide) rfl (fun ls hl => ?_)
            refine lv_goto (tgt := 13) hx hb dX4_holds_45 (by decide) ?_
            exact ih (i + 1) (by omega) (by omega) (fstI_succ_no hi_0 (by simp [P_badT, b2i, c_9, c_10])) ls (lv_sub hl [0, 2, 3, 4] rfl)
          · rw [b2i_eq0] at c_10
            refine lv_iconst (v := 0) hx hb dX4_holds_40 (by decide) ?_
            exact W.zret (v := 0) hx hb hr (by decide) (fun T9 hT9 _ => ⟨congrArg (fun z9 => Outcome.returned (some (Value.int z9))) (show (0 : Int32) = b2i (f_holds σ) from (by unfold f_holds; rw [fstI_hit hi_0 (show P_badT σ i = true from (by simp [P_badT, b2i, c_9, c_10])) hb_i]; rfl)), hT9⟩) (fun _ h => by cases h) dX4_holds_41
  exact loop_13 (6 + 1) (0)  (by omega) (by omega) (rfl) ls (lv_sub hl [0, 1, 2, 3] rfl)
