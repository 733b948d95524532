section LST
variable {args : Array Value} {s : State}
def lsX (q0 : Nat → Nat) (v0 v1 v2 v3 v4 : Nat) (k : Nat) : Nat := if k < 100 then q0 k else if k = 100 then v0 else if k = 101 then v1 else if k = 102 then v2 else if k = 103 then v3 else v4
theorem lsX_lo {q0 : Nat → Nat} {v0 v1 v2 v3 v4 k : Nat} (h : k < 100) : lsX q0 v0 v1 v2 v3 v4 k = q0 k := if_pos h
theorem lsX_0 {q0 : Nat → Nat} {v0 v1 v2 v3 v4 : Nat} : lsX q0 v0 v1 v2 v3 v4 (100 + 0) = v0 := by unfold lsX; rw [if_neg (by omega), if_pos (by omega)]
theorem lsX_1 {q0 : Nat → Nat} {v0 v1 v2 v3 v4 : Nat} : lsX q0 v0 v1 v2 v3 v4 (100 + 1) = v1 := by unfold lsX; rw [if_neg (by omega), if_neg (by omega), if_pos (by omega)]
theorem lsX_2 {q0 : Nat → Nat} {v0 v1 v2 v3 v4 : Nat} : lsX q0 v0 v1 v2 v3 v4 (100 + 2) = v2 := by unfold lsX; rw [if_neg (by omega), if_neg (by omega), if_neg (by omega), if_pos (by omega)]
theorem lsX_3 {q0 : Nat → Nat} {v0 v1 v2 v3 v4 : Nat} : lsX q0 v0 v1 v2 v3 v4 (100 + 3) = v3 := by unfold lsX; rw [if_neg (by omega), if_neg (by omega), if_neg (by omega), if_neg (by omega), if_pos (by omega)]
theorem lsX_4 {q0 : Nat → Nat} {v0 v1 v2 v3 v4 : Nat} : lsX q0 v0 v1 v2 v3 v4 (100 + 4) = v4 := by unfold lsX; rw [if_neg (by omega), if_neg (by omega), if_neg (by omega), if_neg (by omega), if_neg (by omega)]
theorem ls_key {ad av : Nat → Nat} {i a v n : Nat} {byt : List Int32} (h1 : ad i = a) (h2 : av i = v) (h3 : exL.getD i 0 = n) (h4 : exB.getD i [] = byt) (h5 : lsS a v n byt s) : va_O "java/lang/String" (ad i) (fun q => s.heap.size ≤ q) s s.heap ∧ va_OF "java/lang/String" "coder" "B" (.int 0) (ad i) (fun q => s.heap.size ≤ q) s s.heap ∧ va_OF "java/lang/String" "value" "[B" (.ref (av i)) (ad i) (fun q => s.heap.size ≤ q) s s.heap ∧ va_T .byte (av i) (exL.getD i 0) (fun j => .int ((exB.getD i []).getD j 0)) (fun q => s.heap.size ≤ q) s s.heap := by
  subst h1; subst h2; subst h3; subst h4
  exact h5
set_option maxHeartbeats 4000000 in
theorem ls_S5 {q0 : Nat → Nat} {v0 v1 v2 v3 v4 : Nat} (hv0 : lsS (q0 0) v0 1 [100] s) (hv1 : lsS (q0 1) v1 9 [105, 64, 116, 58, 114, 44, 99, 102, 100] s) (hv2 : lsS (q0 2) v2 5 [105, 58, 114, 44, 99] s) (hv3 : lsS (q0 3) v3 1 [105] s) (hv4 : lsS (q0 4) v4 0 [] s) : vk_S 5 exL exB (lsX q0 v0 v1 v2 v3 v4) (fun i => lsX q0 v0 v1 v2 v3 v4 (100 + i)) (fun q => s.heap.size ≤ q) s s.heap := by
  refine ⟨fun i hi => ?_, fun i j hi hj he => ?_⟩
  · rcases (show i = 0 ∨ i = 1 ∨ i = 2 ∨ i = 3 ∨ i = 4 by omega) with rfl | rfl | rfl | rfl | rfl
    · exact ls_key (ad := lsX q0 v0 v1 v2 v3 v4) (av := fun i => lsX q0 v0 v1 v2 v3 v4 (100 + i)) (i := 0) (lsX_lo (by decide)) lsX_0 rfl rfl hv0
    · exact ls_key (ad := lsX q0 v0 v1 v2 v3 v4) (av := fun i => lsX q0 v0 v1 v2 v3 v4 (100 + i)) (i := 1) (lsX_lo (by decide)) lsX_1 rfl rfl hv1
    · exact ls_key (ad := lsX q0 v0 v1 v2 v3 v4) (av := fun i => lsX q0 v0 v1 v2 v3 v4 (100 + i)) (i := 2) (lsX_lo (by decide)) lsX_2 rfl rfl hv2
    · exact ls_key (ad := lsX q0 v0 v1 v2 v3 v4) (av := fun i => lsX q0 v0 v1 v2 v3 v4 (100 + i)) (i := 3) (lsX_lo (by decide)) lsX_3 rfl rfl hv3
    · exact ls_key (ad := lsX q0 v0 v1 v2 v3 v4) (av := fun i => lsX q0 v0 v1 v2 v3 v4 (100 + i)) (i := 4) (lsX_lo (by decide)) lsX_4 rfl rfl hv4
  · rcases (show i = 0 ∨ i = 1 ∨ i = 2 ∨ i = 3 ∨ i = 4 by omega) with rfl | rfl | rfl | rfl | rfl <;> rcases (show j = 0 ∨ j = 1 ∨ j = 2 ∨ j = 3 ∨ j = 4 by omega) with rfl | rfl | rfl | rfl | rfl
    · rfl
    · rw [lsX_lo (by decide), lsX_lo (by decide)] at he
      exact absurd he (ls_ne hv0 hv1 (Or.inl (by decide)))
    · rw [lsX_lo (by decide), lsX_lo (by decide)] at he
      exact absurd he (ls_ne hv0 hv2 (Or.inl (by decide)))
    · rw [lsX_lo (by decide), lsX_lo (by decide)] at he
      exact absurd he (ls_ne hv0 hv3 (Or.inr ⟨by decide, by decide, by decide⟩))
    · rw [lsX_lo (by decide), lsX_lo (by decide)] at he
      exact absurd he (ls_ne hv0 hv4 (Or.inl (by decide)))
    · rw [lsX_lo (by decide), lsX_lo (by decide)] at he
      exact absurd he (ls_ne hv1 hv0 (Or.inl (by decide)))
    · rfl
    · rw [lsX_lo (by decide), lsX_lo (by decide)] at he
      exact absurd he (ls_ne hv1 hv2 (Or.inl (by decide)))
    · rw [lsX_lo (by decide), lsX_lo (by decide)] at he
      exact absurd he (ls_ne hv1 hv3 (Or.inl (by decide)))
    · rw [lsX_lo (by decide), lsX_lo (by decide)] at he
      exact absurd he (ls_ne hv1 hv4 (Or.inl (by decide)))
    · rw [lsX_lo (by decide), lsX_lo (by decide)] at he
      exact absurd he (ls_ne hv2 hv0 (Or.inl (by decide)))
    · rw [lsX_lo (by decide), lsX_lo (by decide)] at he
      exact absurd he (ls_ne hv2 hv1 (Or.inl (by decide)))
    · rfl
    · rw [lsX_lo (by decide), lsX_lo (by decide)] at he
      exact absurd he (ls_ne hv2 hv3 (Or.inl (by decide)))
    · rw [lsX_lo (by decide), lsX_lo (by decide)] at he
      exact absurd he (ls_ne hv2 hv4 (Or.inl (by decide)))
    · rw [lsX_lo (by decide), lsX_lo (by decide)] at he
      exact absurd he (ls_ne hv3 hv0 (Or.inr ⟨by decide, by decide, by decide⟩))
    · rw [lsX_lo (by decide), lsX_lo (by decide)] at he
      exact absurd he (ls_ne hv3 hv1 (Or.inl (by decide)))
    · rw [lsX_lo (by decide), lsX_lo (by decide)] at he
      exact absurd he (ls_ne hv3 hv2 (Or.inl (by decide)))
    · rfl
    · rw [lsX_lo (by decide), lsX_lo (by decide)] at he
      exact absurd he (ls_ne hv3 hv4 (Or.inl (by decide)))
    · rw [lsX_lo (by decide), lsX_lo (by decide)] at he
      exact absurd he (ls_ne hv4 hv0 (Or.inl (by decide)))
    · rw [lsX_lo (by decide), lsX_lo (by decide)] at he
      exact absurd he (ls_ne hv4 hv1 (Or.inl (by decide)))
    · rw [lsX_lo (by decide), lsX_lo (by decide)] at he
      exact absurd he (ls_ne hv4 hv2 (Or.inl (by decide)))
    · rw [lsX_lo (by decide), lsX_lo (by decide)] at he
      exact absurd he (ls_ne hv4 hv3 (Or.inl (by decide)))
    · rfl
set_option maxHeartbeats 4000000 in
theorem ls_EX (hts : ∀ w ∈ lw_tbl, w.before args s = true) (hgv : (Jvm.Cond.and given_1 narrow_1).before args s = true) : ∃ xq : Nat → Nat, EX xq (fun q => s.heap.size ≤ q) s s.heap := by
  have hs := flat_of_before _ hgv
  obtain ⟨q0, hq0⟩ := Classical.axiomOfChoice (ls_R hts hgv)
  obtain ⟨v0, hv0⟩ := ls_s0 hgv (hq0 0 _ rfl)
  obtain ⟨v1, hv1⟩ := ls_s1 hgv (hq0 1 _ rfl)
  obtain ⟨v2, hv2⟩ := ls_s2 hgv (hq0 2 _ rfl)
  obtain ⟨v3, hv3⟩ := ls_s3 hgv (hq0 3 _ rfl)
  obtain ⟨v4, hv4⟩ := ls_s4 hgv (hq0 4 _ rfl)
  have hA : ∀ a : Nat, a < s.heap.size → ¬ (fun q => s.heap.size ≤ q) a := fun a h => Nat.not_le.mpr h
  have z1 : vx_Zq Bundle.tN "UNASSIGNED_STACK" Bundle.steD (fun q => s.heap.size ≤ q) s s.heap := vx_Zqof (hts _ (List.mem_of_getElem? (i := 539) (by decide +kernel))) (hts _ (List.mem_of_getElem? (i := 76) (by decide +kernel))) (hs _ (by decide +kernel)) hA
  have z2 : vx_Zq Bundle.tN "SUPPRESSED_SENTINEL" Bundle.listD (fun q => s.heap.size ≤ q) s s.heap := vx_Zqof (hts _ (List.mem_of_getElem? (i := 541) (by decide +kernel))) (hts _ (List.mem_of_getElem? (i := 76) (by decide +kernel))) (hs _ (by decide +kernel)) hA
  have z3 : va_Z "java/lang/String" "COMPACT_STRINGS" "Z" (.int 1) (fun q => s.heap.size ≤ q) s s.heap := va_Zof (hts _ (List.mem_of_getElem? (i := 1279) (by decide +kernel))) (hts _ (List.mem_of_getElem? (i := 85) (by decide +kernel))) (va_eqt (hs _ (by decide +kernel))) hA
  have z4 : va_Zq "jdk/internal/util/Preconditions" "SIOOBE_FORMATTER" "Ljava/util/function/BiFunction;" (fun q => s.heap.size ≤ q) s s.heap := va_Zqof (hts _ (List.mem_of_getElem? (i := 1295) (by decide +kernel))) (hts _ (List.mem_of_getElem? (i := 90) (by decide +kernel))) (hs _ (by decide +kernel)) hA
  refine ⟨lsX q0 v0 v1 v2 v3 v4, ls_N hts, fun i x hx => ?_, z1, z2, ls_S5 hv0 hv1 hv2 hv3 hv4, z3, z4, ls_K hts, ls_D hts⟩
  have hi : i < 100 := by
    have := (List.getElem?_eq_some_iff.mp hx).1
    have h2 : exT.length = 26 := by decide
    omega
  rw [lsX_lo hi]; exact hq0 i x hx
end LST
