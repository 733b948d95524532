set_option maxRecDepth 100000 in
theorem inJx00060 : ∀ w ∈ wsJx000600, w ∈ lw_tbl := by decide +kernel
section LST
variable {args : Array Value} {s : State}
theorem ls_pa {ty : FieldType} (h : (Cond.arrayClass ty).before args s = true) : ∃ cA, ArrOfT s cA ty ∧ s.vm.findClass ("[" ++ ty.toString) = some cA := by
  obtain ⟨c, k, comp, h1, h2, h3⟩ := Cond.arrayClass_spec (args := args) (first := s) (o := none) (s := s) (idx := []) h
  exact ⟨c, fun n z => ⟨fun k h => (by cases h), k, h2, comp, h3⟩, h1⟩
theorem ls_oa {C : String} (h : (Cond.arrayOver (.object C)).before args s = true) : ∃ cA, ArrOfT s cA (.object C) ∧ va_RA s cA (.object C) := by
  obtain ⟨comp, c, k, h1, h2, h3, h4, h5⟩ := Cond.arrayOver_spec (args := args) (first := s) (o := none) (s := s) (idx := []) h
  exact ⟨c, fun n z => ⟨fun k h => (by cases h), k, h3, comp, h4⟩, k, comp, h3, h4, h1, h5⟩
theorem ls_C (hts : ∀ w ∈ lw_tbl, w.before args s = true) : ∃ (dC : Nat → ClassId) (dI : Nat → Nat → Nat), ∀ (k : Nat) (q : vw_C), vwCl[k]? = some q → u_Kn s q.1 q.2.1 q.2.2 (dC k) (dI k) := by
  obtain ⟨c0, iS0, h0⟩ := u_known (C := RJ0) (T := TJ0) (N := 4) (n := 4) hts inJ0 (hts _ (List.mem_of_getElem? (i := 794) (by decide +kernel)))
  obtain ⟨c1, iS1, h1⟩ := u_known (C := RJ4) (T := TJ4) (N := 4) (n := 4) hts inJ4 (hts _ (List.mem_of_getElem? (i := 1125) (by decide +kernel)))
  obtain ⟨c2, iS2, h2⟩ := u_known (C := RJx00060) (T := TJx00060) (N := 6) (n := 6) hts inJx00060 (hts _ (List.mem_of_getElem? (i := 779) (by decide +kernel)))
  obtain ⟨c3, iS3, h3⟩ := u_known (C := RX0) (T := TX0) (N := 7) (n := 7) hts inX0 (hts _ (List.mem_of_getElem? (i := 53) (by decide +kernel)))
  obtain ⟨c4, iS4, h4⟩ := u_known (C := RX1) (T := TX1) (N := 7) (n := 7) hts inX1 (hts _ (List.mem_of_getElem? (i := 225) (by decide +kernel)))
  obtain ⟨c5, iS5, h5⟩ := u_known (C := RX2) (T := TX2) (N := 2) (n := 2) hts inX2 (hts _ (List.mem_of_getElem? (i := 187) (by decide +kernel)))
  obtain ⟨c6, iS6, h6⟩ := u_known (C := RX3) (T := TX3) (N := 10) (n := 10) hts inX3 (hts _ (List.mem_of_getElem? (i := 86) (by decide +kernel)))
  obtain ⟨c7, iS7, h7⟩ := u_known (C := RX4) (T := TX4) (N := 1) (n := 1) hts inX4 (hts _ (List.mem_of_getElem? (i := 177) (by decide +kernel)))
  obtain ⟨c8, iS8, h8⟩ := u_known (C := RX5) (T := TX5) (N := 3) (n := 3) hts inX5 (hts _ (List.mem_of_getElem? (i := 585) (by decide +kernel)))
  obtain ⟨c9, iS9, h9⟩ := u_known (C := RX6) (T := TX6) (N := 5) (n := 5) hts inX6 (hts _ (List.mem_of_getElem? (i := 203) (by decide +kernel)))
  obtain ⟨c10, iS10, h10⟩ := u_known (C := RX7) (T := TX7) (N := 2) (n := 2) hts inX7 (hts _ (List.mem_of_getElem? (i := 209) (by decide +kernel)))
  obtain ⟨c11, iS11, h11⟩ := u_known (C := RX8) (T := TX8) (N := 3) (n := 3) hts inX8 (hts _ (List.mem_of_getElem? (i := 60) (by decide +kernel)))
  obtain ⟨c12, iS12, h12⟩ := u_known (C := RX9) (T := TX9) (N := 10) (n := 10) hts inX9 (hts _ (List.mem_of_getElem? (i := 45) (by decide +kernel)))
  refine ⟨fun k => if k = 0 then c0 else if k = 1 then c1 else if k = 2 then c2 else if k = 3 then c3 else if k = 4 then c4 else if k = 5 then c5 else if k = 6 then c6 else if k = 7 then c7 else if k = 8 then c8 else if k = 9 then c9 else if k = 10 then c10 else if k = 11 then c11 else c12, fun k => if k = 0 then iS0 else if k = 1 then iS1 else if k = 2 then iS2 else if k = 3 then iS3 else if k = 4 then iS4 else if k = 5 then iS5 else if k = 6 then iS6 else if k = 7 then iS7 else if k = 8 then iS8 else if k = 9 then iS9 else if k = 10 then iS10 else if k = 11 then iS11 else iS12, fun k q hq => ?_⟩
  match k, hq with
  | 0, hq => cases hq; exact h0
  | 1, hq => cases hq; exact h1
  | 2, hq => cases hq; exact h2
  | 3, hq => cases hq; exact h3
  | 4, hq => cases hq; exact h4
  | 5, hq => cases hq; exact h5
  | 6, hq => cases hq; exact h6
  | 7, hq => cases hq; exact h7
  | 8, hq => cases hq; exact h8
  | 9, hq => cases hq; exact h9
  | 10, hq => cases hq; exact h10
  | 11, hq => cases hq; exact h11
  | 12, hq => cases hq; exact h12
  | k + 13, hq => exact (ls_none (n := 13) rfl hq).elim
theorem ls_A (hts : ∀ w ∈ lw_tbl, w.before args s = true) {D : va_G} (hC : ∀ (k : Nat) (q : vw_C), vwCl[k]? = some q → u_Kn s q.1 q.2.1 q.2.2 (D.1 k) (D.2 k)) : ∃ cy : Nat → ClassId, va_K D vwCl (tyG cy) s := by
  obtain ⟨a0, p0, r0⟩ := ls_pa (ty := .char) (hts _ (List.mem_of_getElem? (i := 222) (by decide +kernel)))
  obtain ⟨a1, p1, r1⟩ := ls_pa (ty := .byte) (hts _ (List.mem_of_getElem? (i := 373) (by decide +kernel)))
  obtain ⟨a2, p2, r2⟩ := ls_oa (C := "SandProofreader$Beach") (hts _ (List.mem_of_getElem? (i := 193) (by decide +kernel)))
  obtain ⟨a3, p3, r3⟩ := ls_oa (C := "SandProofreader$Command") (hts _ (List.mem_of_getElem? (i := 224) (by decide +kernel)))
  obtain ⟨a4, p4, r4⟩ := ls_oa (C := "SandProofreader$Print") (hts _ (List.mem_of_getElem? (i := 85) (by decide +kernel)))
  obtain ⟨a5, p5, r5⟩ := ls_oa (C := "SandProofreader$Track") (hts _ (List.mem_of_getElem? (i := 59) (by decide +kernel)))
  refine ⟨fun k => if k = 0 then a0 else if k = 1 then a1 else if k = 2 then a2 else if k = 3 then a3 else if k = 4 then a4 else a5, hC, fun k q hq => ?_⟩
  match k, hq with
  | 0, hq => cases hq; exact ⟨p0, r0⟩
  | 1, hq => cases hq; exact ⟨p1, r1⟩
  | 2, hq => cases hq; exact ⟨p2, r2⟩
  | 3, hq => cases hq; exact ⟨p3, r3⟩
  | 4, hq => cases hq; exact ⟨p4, r4⟩
  | 5, hq => cases hq; exact ⟨p5, r5⟩
  | k + 6, hq => exact (ls_none (n := 6) rfl hq).elim
theorem ls_I (hts : ∀ w ∈ lw_tbl, w.before args s = true) : IX s := ⟨ls_N hts, va_AO.of (A := args) (hts _ (List.mem_of_getElem? (i := 193) (by decide +kernel))), va_AO.of (A := args) (hts _ (List.mem_of_getElem? (i := 224) (by decide +kernel))), va_AO.of (A := args) (hts _ (List.mem_of_getElem? (i := 85) (by decide +kernel))), va_AO.of (A := args) (hts _ (List.mem_of_getElem? (i := 59) (by decide +kernel)))⟩
end LST
