/-! THE LAW'S START: what the machine holds -/
theorem va_OF_u {o n d : String} {v w : Value} {t : Nat} {A : Nat → Prop} {U : State} {H : Heap} (h1 : va_OF o n d v t A U H) (h2 : va_OF o n d w t A U H) : v = w := by
  obtain ⟨cf, k, i, f, cell, a1, -, a2, -, a3, -⟩ := h1
  obtain ⟨cf', k', i', f', cell', b1, -, b2, -, b3, -⟩ := h2
  have e1 := Option.some.inj (a1.symm.trans b1)
  simp only [Prod.mk.injEq] at e1
  obtain ⟨-, -, -, rfl⟩ := e1
  cases Option.some.inj (a2.symm.trans b2)
  exact Option.some.inj (a3.symm.trans b3)
theorem va_T_u {ty : FieldType} {t N M : Nat} {f g : Nat → Value} {A : Nat → Prop} {U : State} {H : Heap} (h1 : va_T ty t N f A U H) (h2 : va_T ty t M g A U H) : Int32.ofNat N = Int32.ofNat M ∧ ∀ j, j < N → j < M → f j = g j := by
  obtain ⟨cell, a1, -, -, -, a2, a3, -⟩ := h1
  obtain ⟨cell', b1, -, -, -, b2, b3, -⟩ := h2
  cases Option.some.inj (a1.symm.trans b1)
  exact ⟨a2.symm.trans b2, fun j h1 h2 => Option.some.inj ((a3 j h1).symm.trans (b3 j h2))⟩
section LST
variable {args : Array Value} {s : State}
theorem ls_r {own tx : String} {k : Nat} (h1 : (Cond.stringRef own k tx).before args s = true) (h2 : (Cond.exactly (.string own k) "java/lang/String").before args s = true) : ∃ a, vk_R own k tx a s := by
  obtain ⟨a, c, cA, kA, q1, -⟩ := Cond.exactly_spec (args := args) (first := s) (o := none) (s := s) (idx := []) (t := .string own k) (cls := "java/lang/String") h2
  exact ⟨a, vk_R.of h1 q1⟩
def lsS (a v len : Nat) (byt : List Int32) (s : State) : Prop := va_O "java/lang/String" a (fun q => s.heap.size ≤ q) s s.heap ∧ va_OF "java/lang/String" "coder" "B" (.int 0) a (fun q => s.heap.size ≤ q) s s.heap ∧ va_OF "java/lang/String" "value" "[B" (.ref v) a (fun q => s.heap.size ≤ q) s s.heap ∧ va_T .byte v len (fun j => .int (byt.getD j 0)) (fun q => s.heap.size ≤ q) s s.heap
theorem ls_s {own tx : String} {k a len : Nat} {byt : List Int32} (hR : vk_R own k tx a s) (hl : len < 2 ^ 31) (hex : (Cond.exactly (.string own k) "java/lang/String").before args s = true) (hco : (Cond.eq (.field (.string own k) "java/lang/String" "coder" "B") (.int 0)).before args s = true) (har : (Cond.arrayOf (.field (.string own k) "java/lang/String" "value" "[B") .byte).before args s = true) (hle : (Cond.eq (.length (.field (.string own k) "java/lang/String" "value" "[B")) (.int (Int32.ofNat len))).before args s = true)
    (hel : ∀ j : Nat, j < len → (Cond.eq (.elem (.field (.string own k) "java/lang/String" "value" "[B") (.int (Int32.ofNat j))) (.int (byt.getD j 0))).before args s = true) : ∃ v, lsS a v len byt s := by
  obtain ⟨adK, adV, ⟨h1, -⟩, h2⟩ := vk_Sof (args := args) (s := s) (N := 1) (tm := fun _ => .string own k) (len := [len]) (byt := [byt]) (A := fun q => s.heap.size ≤ q) (fun i hi => by rcases (show i = 0 by omega) with rfl; exact hl) (fun i hi => hex) (fun i hi => hco) (fun i hi => har) (fun i hi => by rcases (show i = 0 by omega) with rfl; exact hle) (fun i hi j hj => by rcases (show i = 0 by omega) with rfl; exact hel j hj) (fun i j hi hj h => absurd (show i = j by omega) h) (fun a h => Nat.not_le.mpr h)
  have e : adK 0 = a := by
    have h3 := vk_R.of hR.1 (h2 0 (by decide))
    have h4 := h3.2.symm.trans hR.2
    cases h4; rfl
  have h5 := h1 0 (by decide)
  rw [e] at h5
  exact ⟨adV 0, h5⟩
theorem ls_ne {a b v w n m : Nat} {x y : List Int32} (h1 : lsS a v n x s) (h2 : lsS b w m y s) (h : Int32.ofNat n ≠ Int32.ofNat m ∨ (0 < n ∧ 0 < m ∧ x.getD 0 0 ≠ y.getD 0 0)) : a ≠ b := fun e => by
  subst e
  have e2 := va_OF_u h1.2.2.1 h2.2.2.1
  cases e2
  obtain ⟨e3, e4⟩ := va_T_u h1.2.2.2 h2.2.2.2
  rcases h with h | ⟨q1, q2, h⟩
  · exact h e3
  · have h9 : Value.int (x.getD 0 0) = Value.int (y.getD 0 0) := e4 0 q1 q2
    exact h (Value.int.inj h9)
theorem ls_none {α : Type} {L : List α} {n i : Nat} {x : α} (hn : L.length = n) (h : L[i + n]? = some x) : False := by
  have := (List.getElem?_eq_some_iff.mp h).1
  omega
theorem ls_R (hts : ∀ w ∈ lw_tbl, w.before args s = true) (hgv : (Jvm.Cond.and given_1 narrow_1).before args s = true) : ∀ i : Nat, ∃ a : Nat, ∀ x, exT[i]? = some x → vk_R x.1 x.2.1 x.2.2 a s := by
  have hs := flat_of_before _ hgv
  intro i
  match i with
  | 0 => exact (ls_r (own := "SandProofreader") (k := 432) (tx := "there is no print with this id") (hts _ (List.mem_of_getElem? (i := 347) (by decide +kernel))) (hs _ (by decide +kernel))).imp fun a h x hx => by (cases hx; exact h)
  | 1 => exact (ls_r (own := "SandProofreader") (k := 432) (tx := "there is no print with this id") (hts _ (List.mem_of_getElem? (i := 347) (by decide +kernel))) (hs _ (by decide +kernel))).imp fun a h x hx => by (cases hx; exact h)
  | 2 => exact (ls_r (own := "SandProofreader") (k := 432) (tx := "there is no print with this id") (hts _ (List.mem_of_getElem? (i := 347) (by decide +kernel))) (hs _ (by decide +kernel))).imp fun a h x hx => by (cases hx; exact h)
  | 3 => exact (ls_r (own := "SandProofreader") (k := 432) (tx := "there is no print with this id") (hts _ (List.mem_of_getElem? (i := 347) (by decide +kernel))) (hs _ (by decide +kernel))).imp fun a h x hx => by (cases hx; exact h)
  | 4 => exact (ls_r (own := "SandProofreader") (k := 432) (tx := "there is no print with this id") (hts _ (List.mem_of_getElem? (i := 347) (by decide +kernel))) (hs _ (by decide +kernel))).imp fun a h x hx => by (cases hx; exact h)
  | 5 => exact (ls_r (own := "SandProofreader") (k := 72) (tx := "the maximum stride is out of range") (hts _ (List.mem_of_getElem? (i := 858) (by decide +kernel))) (hs _ (by decide +kernel))).imp fun a h x hx => by (cases hx; exact h)
  | 6 => exact (ls_r (own := "SandProofreader") (k := 453) (tx := "the call is rejected") (hts _ (List.mem_of_getElem? (i := 877) (by decide +kernel))) (hs _ (by decide +kernel))).imp fun a h x hx => by (cases hx; exact h)
  | 7 => exact (ls_r (own := "SandProofreader") (k := 427) (tx := "there is no track with this id") (hts _ (List.mem_of_getElem? (i := 467) (by decide +kernel))) (hs _ (by decide +kernel))).imp fun a h x hx => by (cases hx; exact h)
  | 8 => exact (ls_r (own := "SandProofreader") (k := 438) (tx := "the cell is outside the beach") (hts _ (List.mem_of_getElem? (i := 569) (by decide +kernel))) (hs _ (by decide +kernel))).imp fun a h x hx => by (cases hx; exact h)
  | 9 => exact (ls_r (own := "SandProofreader") (k := 110) (tx := "the time or the depth is out of range") (hts _ (List.mem_of_getElem? (i := 928) (by decide +kernel))) (hs _ (by decide +kernel))).imp fun a h x hx => by (cases hx; exact h)
  | 10 => exact (ls_r (own := "SandProofreader") (k := 432) (tx := "there is no print with this id") (hts _ (List.mem_of_getElem? (i := 347) (by decide +kernel))) (hs _ (by decide +kernel))).imp fun a h x hx => by (cases hx; exact h)
  | 11 => exact (ls_r (own := "SandProofreader") (k := 445) (tx := "the level is out of range") (hts _ (List.mem_of_getElem? (i := 682) (by decide +kernel))) (hs _ (by decide +kernel))).imp fun a h x hx => by (cases hx; exact h)
  | 12 => exact (ls_r (own := "SandProofreader") (k := 447) (tx := "there is no such print") (hts _ (List.mem_of_getElem? (i := 496) (by decide +kernel))) (hs _ (by decide +kernel))).imp fun a h x hx => by (cases hx; exact h)
  | 13 => exact (ls_r (own := "SandProofreader") (k := 245) (tx := "the track has fewer than two prints") (hts _ (List.mem_of_getElem? (i := 549) (by decide +kernel))) (hs _ (by decide +kernel))).imp fun a h x hx => by (cases hx; exact h)
  | 14 => exact (ls_r (own := "SandProofreader") (k := 267) (tx := "there is no such position") (hts _ (List.mem_of_getElem? (i := 633) (by decide +kernel))) (hs _ (by decide +kernel))).imp fun a h x hx => by (cases hx; exact h)
  | 15 => exact (ls_r (own := "SandProofreader") (k := 440) (tx := "there is no such row") (hts _ (List.mem_of_getElem? (i := 654) (by decide +kernel))) (hs _ (by decide +kernel))).imp fun a h x hx => by (cases hx; exact h)
  | 16 => exact (ls_r (own := "SandProofreader") (k := 302) (tx := "there are no prints") (hts _ (List.mem_of_getElem? (i := 710) (by decide +kernel))) (hs _ (by decide +kernel))).imp fun a h x hx => by (cases hx; exact h)
  | 17 => exact (ls_r (own := "SandProofreader") (k := 338) (tx := "there is no character at this index") (hts _ (List.mem_of_getElem? (i := 1074) (by decide +kernel))) (hs _ (by decide +kernel))).imp fun a h x hx => by (cases hx; exact h)
  | 18 => exact (ls_r (own := "SandProofreader") (k := 432) (tx := "there is no print with this id") (hts _ (List.mem_of_getElem? (i := 347) (by decide +kernel))) (hs _ (by decide +kernel))).imp fun a h x hx => by (cases hx; exact h)
  | 19 => exact (ls_r (own := "SandProofreader") (k := 432) (tx := "there is no print with this id") (hts _ (List.mem_of_getElem? (i := 347) (by decide +kernel))) (hs _ (by decide +kernel))).imp fun a h x hx => by (cases hx; exact h)
  | 20 => exact (ls_r (own := "SandProofreader") (k := 432) (tx := "there is no print with this id") (hts _ (List.mem_of_getElem? (i := 347) (by decide +kernel))) (hs _ (by decide +kernel))).imp fun a h x hx => by (cases hx; exact h)
  | 21 => exact (ls_r (own := "SandProofreader") (k := 432) (tx := "there is no print with this id") (hts _ (List.mem_of_getElem? (i := 347) (by decide +kernel))) (hs _ (by decide +kernel))).imp fun a h x hx => by (cases hx; exact h)
  | 22 => exact (ls_r (own := "SandProofreader") (k := 432) (tx := "there is no print with this id") (hts _ (List.mem_of_getElem? (i := 347) (by decide +kernel))) (hs _ (by decide +kernel))).imp fun a h x hx => by (cases hx; exact h)
  | 23 => exact (ls_r (own := "SandProofreader") (k := 449) (tx := "there was no such rejection") (hts _ (List.mem_of_getElem? (i := 914) (by decide +kernel))) (hs _ (by decide +kernel))).imp fun a h x hx => by (cases hx; exact h)
  | 24 => exact (ls_r (own := "SandProofreader") (k := 432) (tx := "there is no print with this id") (hts _ (List.mem_of_getElem? (i := 347) (by decide +kernel))) (hs _ (by decide +kernel))).imp fun a h x hx => by (cases hx; exact h)
  | 25 => exact (ls_r (own := "SandProofreader") (k := 432) (tx := "there is no print with this id") (hts _ (List.mem_of_getElem? (i := 347) (by decide +kernel))) (hs _ (by decide +kernel))).imp fun a h x hx => by (cases hx; exact h)
  | i + 26 => exact ⟨0, fun x hx => (ls_none (n := 26) rfl hx).elim⟩
theorem ls_RS (hts : ∀ w ∈ lw_tbl, w.before args s = true) (hgv : (Jvm.Cond.and given_1 narrow_1).before args s = true) : ∀ i : Nat, ∃ a : Nat, ∀ x, exS[i]? = some x → vk_R x.1 x.2.1 x.2.2 a s := by
  have hs := flat_of_before _ hgv
  intro i
  match i with
  | 0 => exact (ls_r (own := "SandProofreaderLaw") (k := 175) (tx := "") (hts _ (List.mem_of_getElem? (i := 1336) (by decide +kernel))) (hs _ (by decide +kernel))).imp fun a h x hx => by (cases hx; exact h)
  | 1 => exact (ls_r (own := "SandProofreaderLaw") (k := 212) (tx := "L") (hts _ (List.mem_of_getElem? (i := 1337) (by decide +kernel))) (hs _ (by decide +kernel))).imp fun a h x hx => by (cases hx; exact h)
  | 2 => exact (ls_r (own := "SandProofreaderLaw") (k := 214) (tx := "R") (hts _ (List.mem_of_getElem? (i := 1338) (by decide +kernel))) (hs _ (by decide +kernel))).imp fun a h x hx => by (cases hx; exact h)
  | 3 => exact (ls_r (own := "SandProofreaderLaw") (k := 216) (tx := "?") (hts _ (List.mem_of_getElem? (i := 1339) (by decide +kernel))) (hs _ (by decide +kernel))).imp fun a h x hx => by (cases hx; exact h)
  | 4 => exact (ls_r (own := "SandProofreaderLaw") (k := 218) (tx := "!") (hts _ (List.mem_of_getElem? (i := 1340) (by decide +kernel))) (hs _ (by decide +kernel))).imp fun a h x hx => by (cases hx; exact h)
  | 5 => exact (ls_r (own := "SandProofreaderLaw") (k := 260) (tx := "~") (hts _ (List.mem_of_getElem? (i := 1341) (by decide +kernel))) (hs _ (by decide +kernel))).imp fun a h x hx => by (cases hx; exact h)
  | 6 => exact (ls_r (own := "SandProofreaderLaw") (k := 262) (tx := ".") (hts _ (List.mem_of_getElem? (i := 1342) (by decide +kernel))) (hs _ (by decide +kernel))).imp fun a h x hx => by (cases hx; exact h)
  | i + 7 => exact ⟨0, fun x hx => (ls_none (n := 7) rfl hx).elim⟩
theorem ls_s0 (hgv : (Jvm.Cond.and given_1 narrow_1).before args s = true) {a : Nat} (hR : vk_R "SandProofreaderLaw" 175 "" a s) : ∃ v, lsS a v 0 [] s := by
  have hs := flat_of_before _ hgv
  exact ls_s hR (by decide) (hs _ (by decide +kernel)) (hs _ (by decide +kernel)) (hs _ (by decide +kernel)) (hs _ (by decide +kernel)) (fun j hj => absurd hj (Nat.not_lt_zero j))
theorem ls_s1 (hgv : (Jvm.Cond.and given_1 narrow_1).before args s = true) {a : Nat} (hR : vk_R "SandProofreaderLaw" 212 "L" a s) : ∃ v, lsS a v 1 [76] s := by
  have hs := flat_of_before _ hgv
  exact ls_s hR (by decide) (hs _ (by decide +kernel)) (hs _ (by decide +kernel)) (hs _ (by decide +kernel)) (hs _ (by decide +kernel)) (fun j hj => by
    match j, hj with
    | 0, _ => exact (hs _ (by decide +kernel) : (Cond.eq (.elem (.field (.string "SandProofreaderLaw" 212) "java/lang/String" "value" "[B") (.int (Int32.ofNat 0))) (.int 76)).before args s = true)
    | j + 1, hj => omega)
theorem ls_s2 (hgv : (Jvm.Cond.and given_1 narrow_1).before args s = true) {a : Nat} (hR : vk_R "SandProofreaderLaw" 214 "R" a s) : ∃ v, lsS a v 1 [82] s := by
  have hs := flat_of_before _ hgv
  exact ls_s hR (by decide) (hs _ (by decide +kernel)) (hs _ (by decide +kernel)) (hs _ (by decide +kernel)) (hs _ (by decide +kernel)) (fun j hj => by
    match j, hj with
    | 0, _ => exact (hs _ (by decide +kernel) : (Cond.eq (.elem (.field (.string "SandProofreaderLaw" 214) "java/lang/String" "value" "[B") (.int (Int32.ofNat 0))) (.int 82)).before args s = true)
    | j + 1, hj => omega)
theorem ls_s3 (hgv : (Jvm.Cond.and given_1 narrow_1).before args s = true) {a : Nat} (hR : vk_R "SandProofreaderLaw" 216 "?" a s) : ∃ v, lsS a v 1 [63] s := by
  have hs := flat_of_before _ hgv
  exact ls_s hR (by decide) (hs _ (by decide +kernel)) (hs _ (by decide +kernel)) (hs _ (by decide +kernel)) (hs _ (by decide +kernel)) (fun j hj => by
    match j, hj with
    | 0, _ => exact (hs _ (by decide +kernel) : (Cond.eq (.elem (.field (.string "SandProofreaderLaw" 216) "java/lang/String" "value" "[B") (.int (Int32.ofNat 0))) (.int 63)).before args s = true)
    | j + 1, hj => omega)
theorem ls_s4 (hgv : (Jvm.Cond.and given_1 narrow_1).before args s = true) {a : Nat} (hR : vk_R "SandProofreaderLaw" 218 "!" a s) : ∃ v, lsS a v 1 [33] s := by
  have hs := flat_of_before _ hgv
  exact ls_s hR (by decide) (hs _ (by decide +kernel)) (hs _ (by decide +kernel)) (hs _ (by decide +kernel)) (hs _ (by decide +kernel)) (fun j hj => by
    match j, hj with
    | 0, _ => exact (hs _ (by decide +kernel) : (Cond.eq (.elem (.field (.string "SandProofreaderLaw" 218) "java/lang/String" "value" "[B") (.int (Int32.ofNat 0))) (.int 33)).before args s = true)
    | j + 1, hj => omega)
theorem ls_s5 (hgv : (Jvm.Cond.and given_1 narrow_1).before args s = true) {a : Nat} (hR : vk_R "SandProofreaderLaw" 260 "~" a s) : ∃ v, lsS a v 1 [126] s := by
  have hs := flat_of_before _ hgv
  exact ls_s hR (by decide) (hs _ (by decide +kernel)) (hs _ (by decide +kernel)) (hs _ (by decide +kernel)) (hs _ (by decide +kernel)) (fun j hj => by
    match j, hj with
    | 0, _ => exact (hs _ (by decide +kernel) : (Cond.eq (.elem (.field (.string "SandProofreaderLaw" 260) "java/lang/String" "value" "[B") (.int (Int32.ofNat 0))) (.int 126)).before args s = true)
    | j + 1, hj => omega)
theorem ls_s6 (hgv : (Jvm.Cond.and given_1 narrow_1).before args s = true) {a : Nat} (hR : vk_R "SandProofreaderLaw" 262 "." a s) : ∃ v, lsS a v 1 [46] s := by
  have hs := flat_of_before _ hgv
  exact ls_s hR (by decide) (hs _ (by decide +kernel)) (hs _ (by decide +kernel)) (hs _ (by decide +kernel)) (hs _ (by decide +kernel)) (fun j hj => by
    match j, hj with
    | 0, _ => exact (hs _ (by decide +kernel) : (Cond.eq (.elem (.field (.string "SandProofreaderLaw" 262) "java/lang/String" "value" "[B") (.int (Int32.ofNat 0))) (.int 46)).before args s = true)
    | j + 1, hj => omega)
theorem ls_N (hts : ∀ w ∈ lw_tbl, w.before args s = true) : ∀ (i : Nat) (x : String × Nat × MethodName × String), exN[i]? = some x → va_Nw (.methodLinkNest x.1 x.2.1 x.2.2.1 x.2.2.2) s := fun i x hx => by
  match i, hx with
  | 0, hx => cases hx; exact va_Nw.of rfl (A := args) (hts _ (List.mem_of_getElem? (i := 61) (by decide +kernel)))
  | 1, hx => cases hx; exact va_Nw.of rfl (A := args) (hts _ (List.mem_of_getElem? (i := 87) (by decide +kernel)))
  | 2, hx => cases hx; exact va_Nw.of rfl (A := args) (hts _ (List.mem_of_getElem? (i := 61) (by decide +kernel)))
  | 3, hx => cases hx; exact va_Nw.of rfl (A := args) (hts _ (List.mem_of_getElem? (i := 61) (by decide +kernel)))
  | 4, hx => cases hx; exact va_Nw.of rfl (A := args) (hts _ (List.mem_of_getElem? (i := 61) (by decide +kernel)))
  | 5, hx => cases hx; exact va_Nw.of rfl (A := args) (hts _ (List.mem_of_getElem? (i := 61) (by decide +kernel)))
  | 6, hx => cases hx; exact va_Nw.of rfl (A := args) (hts _ (List.mem_of_getElem? (i := 61) (by decide +kernel)))
  | 7, hx => cases hx; exact va_Nw.of rfl (A := args) (hts _ (List.mem_of_getElem? (i := 621) (by decide +kernel)))
  | 8, hx => cases hx; exact va_Nw.of rfl (A := args) (hts _ (List.mem_of_getElem? (i := 226) (by decide +kernel)))
  | i + 9, hx => exact (ls_none (n := 9) rfl hx).elim
theorem ls_K (hts : ∀ w ∈ lw_tbl, w.before args s = true) : ∀ (i : Nat) (x : String), exK[i]? = some x → va_Nw (.castable x x) s := fun i x hx => by
  match i, hx with
  | 0, hx => cases hx; exact va_Nw.of rfl (A := args) (hts _ (List.mem_of_getElem? (i := 305) (by decide +kernel)))
  | 1, hx => cases hx; exact va_Nw.of rfl (A := args) (hts _ (List.mem_of_getElem? (i := 675) (by decide +kernel)))
  | 2, hx => cases hx; exact va_Nw.of rfl (A := args) (hts _ (List.mem_of_getElem? (i := 870) (by decide +kernel)))
  | 3, hx => cases hx; exact va_Nw.of rfl (A := args) (hts _ (List.mem_of_getElem? (i := 489) (by decide +kernel)))
  | 4, hx => cases hx; exact va_Nw.of rfl (A := args) (hts _ (List.mem_of_getElem? (i := 542) (by decide +kernel)))
  | 5, hx => cases hx; exact va_Nw.of rfl (A := args) (hts _ (List.mem_of_getElem? (i := 305) (by decide +kernel)))
  | i + 6, hx => exact (ls_none (n := 6) rfl hx).elim
theorem ls_D (hts : ∀ w ∈ lw_tbl, w.before args s = true) : ∀ (i : Nat) (x : String), exD[i]? = some x → va_Nw (.declares (Bundle.initS x)) s := fun i x hx => by
  match i, hx with
  | 0, hx => cases hx; exact va_Nw.of rfl (A := args) (hts _ (List.mem_of_getElem? (i := 307) (by decide +kernel)))
  | 1, hx => cases hx; exact va_Nw.of rfl (A := args) (hts _ (List.mem_of_getElem? (i := 309) (by decide +kernel)))
  | 2, hx => cases hx; exact va_Nw.of rfl (A := args) (hts _ (List.mem_of_getElem? (i := 311) (by decide +kernel)))
  | i + 3, hx => exact (ls_none (n := 3) rfl hx).elim
theorem ls_NC (hgv : (Jvm.Cond.and given_1 narrow_1).before args s = true) : NC s := fun E F hE hF hne => by
  have hs := flat_of_before _ hgv
  simp only [exC, List.mem_cons, List.not_mem_nil, or_false] at hE hF
  rcases hE with rfl | rfl | rfl | rfl <;> rcases hF with rfl | rfl | rfl | rfl
  · exact absurd rfl hne
  · exact va_Nc.of (hs _ (by decide +kernel))
  · exact va_Nc.of (hs _ (by decide +kernel))
  · exact va_Nc.of (hs _ (by decide +kernel))
  · exact va_Nc.of (hs _ (by decide +kernel))
  · exact absurd rfl hne
  · exact va_Nc.of (hs _ (by decide +kernel))
  · exact va_Nc.of (hs _ (by decide +kernel))
  · exact va_Nc.of (hs _ (by decide +kernel))
  · exact va_Nc.of (hs _ (by decide +kernel))
  · exact absurd rfl hne
  · exact va_Nc.of (hs _ (by decide +kernel))
  · exact va_Nc.of (hs _ (by decide +kernel))
  · exact va_Nc.of (hs _ (by decide +kernel))
  · exact va_Nc.of (hs _ (by decide +kernel))
  · exact absurd rfl hne
def lsX (q0 q1 : Nat → Nat) (v0 v1 v2 v3 v4 v5 v6 v7 : Nat) (k : Nat) : Nat := if k < 30 then q0 k else if k < 100 then q1 (k - 30) else if k = 100 then v0 else if k = 101 then v1 else if k = 102 then v2 else if k = 103 then v3 else if k = 104 then v4 else if k = 105 then v5 else if k = 106 then v6 else v7
theorem lsX_lo {q0 q1 : Nat → Nat} {v0 v1 v2 v3 v4 v5 v6 v7 k : Nat} (h : k < 30) : lsX q0 q1 v0 v1 v2 v3 v4 v5 v6 v7 k = q0 k := if_pos h
theorem lsX_mi {q0 q1 : Nat → Nat} {v0 v1 v2 v3 v4 v5 v6 v7 k : Nat} (h : k < 70) : lsX q0 q1 v0 v1 v2 v3 v4 v5 v6 v7 (30 + k) = q1 k := by unfold lsX; rw [if_neg (by omega), if_pos (by omega), show 30 + k - 30 = k by omega]
theorem lsX_0 {q0 q1 : Nat → Nat} {v0 v1 v2 v3 v4 v5 v6 v7 : Nat} : lsX q0 q1 v0 v1 v2 v3 v4 v5 v6 v7 (100 + 0) = v0 := rfl
theorem lsX_1 {q0 q1 : Nat → Nat} {v0 v1 v2 v3 v4 v5 v6 v7 : Nat} : lsX q0 q1 v0 v1 v2 v3 v4 v5 v6 v7 (100 + 1) = v1 := rfl
theorem lsX_2 {q0 q1 : Nat → Nat} {v0 v1 v2 v3 v4 v5 v6 v7 : Nat} : lsX q0 q1 v0 v1 v2 v3 v4 v5 v6 v7 (100 + 2) = v2 := rfl
theorem lsX_3 {q0 q1 : Nat → Nat} {v0 v1 v2 v3 v4 v5 v6 v7 : Nat} : lsX q0 q1 v0 v1 v2 v3 v4 v5 v6 v7 (100 + 3) = v3 := rfl
theorem lsX_4 {q0 q1 : Nat → Nat} {v0 v1 v2 v3 v4 v5 v6 v7 : Nat} : lsX q0 q1 v0 v1 v2 v3 v4 v5 v6 v7 (100 + 4) = v4 := rfl
theorem lsX_5 {q0 q1 : Nat → Nat} {v0 v1 v2 v3 v4 v5 v6 v7 : Nat} : lsX q0 q1 v0 v1 v2 v3 v4 v5 v6 v7 (100 + 5) = v5 := rfl
theorem lsX_6 {q0 q1 : Nat → Nat} {v0 v1 v2 v3 v4 v5 v6 v7 : Nat} : lsX q0 q1 v0 v1 v2 v3 v4 v5 v6 v7 (100 + 6) = v6 := rfl
theorem lsX_7 {q0 q1 : Nat → Nat} {v0 v1 v2 v3 v4 v5 v6 v7 : Nat} : lsX q0 q1 v0 v1 v2 v3 v4 v5 v6 v7 120 = v7 := rfl
theorem ls_key {ad av : Nat → Nat} {i a v n : Nat} {byt : List Int32} (h1 : ad i = a) (h2 : av i = v) (h3 : exL.getD i 0 = n) (h4 : exB.getD i [] = byt) (h5 : lsS a v n byt s) : va_O "java/lang/String" (ad i) (fun q => s.heap.size ≤ q) s s.heap ∧ va_OF "java/lang/String" "coder" "B" (.int 0) (ad i) (fun q => s.heap.size ≤ q) s s.heap ∧ va_OF "java/lang/String" "value" "[B" (.ref (av i)) (ad i) (fun q => s.heap.size ≤ q) s s.heap ∧ va_T .byte (av i) (exL.getD i 0) (fun j => .int ((exB.getD i []).getD j 0)) (fun q => s.heap.size ≤ q) s s.heap := by
  subst h1; subst h2; subst h3; subst h4
  exact h5
set_option maxHeartbeats 4000000 in
theorem ls_S7 {q0 q1 : Nat → Nat} {v0 v1 v2 v3 v4 v5 v6 v7 : Nat} (hv0 : lsS (q1 0) v0 0 [] s) (hv1 : lsS (q1 1) v1 1 [76] s) (hv2 : lsS (q1 2) v2 1 [82] s) (hv3 : lsS (q1 3) v3 1 [63] s) (hv4 : lsS (q1 4) v4 1 [33] s) (hv5 : lsS (q1 5) v5 1 [126] s) (hv6 : lsS (q1 6) v6 1 [46] s) : vk_S 7 exL exB (fun i => lsX q0 q1 v0 v1 v2 v3 v4 v5 v6 v7 (30 + i)) (fun i => lsX q0 q1 v0 v1 v2 v3 v4 v5 v6 v7 (100 + i)) (fun q => s.heap.size ≤ q) s s.heap := by
  refine ⟨fun i hi => ?_, fun i j hi hj he => ?_⟩
  · rcases (show i = 0 ∨ i = 1 ∨ i = 2 ∨ i = 3 ∨ i = 4 ∨ i = 5 ∨ i = 6 by omega) with rfl | rfl | rfl | rfl | rfl | rfl | rfl
    · exact ls_key (ad := (fun i => lsX q0 q1 v0 v1 v2 v3 v4 v5 v6 v7 (30 + i))) (av := (fun i => lsX q0 q1 v0 v1 v2 v3 v4 v5 v6 v7 (100 + i))) (i := 0) (lsX_mi (by decide)) lsX_0 rfl rfl hv0
    · exact ls_key (ad := (fun i => lsX q0 q1 v0 v1 v2 v3 v4 v5 v6 v7 (30 + i))) (av := (fun i => lsX q0 q1 v0 v1 v2 v3 v4 v5 v6 v7 (100 + i))) (i := 1) (lsX_mi (by decide)) lsX_1 rfl rfl hv1
    · exact ls_key (ad := (fun i => lsX q0 q1 v0 v1 v2 v3 v4 v5 v6 v7 (30 + i))) (av := (fun i => lsX q0 q1 v0 v1 v2 v3 v4 v5 v6 v7 (100 + i))) (i := 2) (lsX_mi (by decide)) lsX_2 rfl rfl hv2
    · exact ls_key (ad := (fun i => lsX q0 q1 v0 v1 v2 v3 v4 v5 v6 v7 (30 + i))) (av := (fun i => lsX q0 q1 v0 v1 v2 v3 v4 v5 v6 v7 (100 + i))) (i := 3) (lsX_mi (by decide)) lsX_3 rfl rfl hv3
    · exact ls_key (ad := (fun i => lsX q0 q1 v0 v1 v2 v3 v4 v5 v6 v7 (30 + i))) (av := (fun i => lsX q0 q1 v0 v1 v2 v3 v4 v5 v6 v7 (100 + i))) (i := 4) (lsX_mi (by decide)) lsX_4 rfl rfl hv4
    · exact ls_key (ad := (fun i => lsX q0 q1 v0 v1 v2 v3 v4 v5 v6 v7 (30 + i))) (av := (fun i => lsX q0 q1 v0 v1 v2 v3 v4 v5 v6 v7 (100 + i))) (i := 5) (lsX_mi (by decide)) lsX_5 rfl rfl hv5
    · exact ls_key (ad := (fun i => lsX q0 q1 v0 v1 v2 v3 v4 v5 v6 v7 (30 + i))) (av := (fun i => lsX q0 q1 v0 v1 v2 v3 v4 v5 v6 v7 (100 + i))) (i := 6) (lsX_mi (by decide)) lsX_6 rfl rfl hv6
  · have he : lsX q0 q1 v0 v1 v2 v3 v4 v5 v6 v7 (30 + i) = lsX q0 q1 v0 v1 v2 v3 v4 v5 v6 v7 (30 + j) := he
    rw [lsX_mi (by omega), lsX_mi (by omega)] at he
    rcases (show i = 0 ∨ i = 1 ∨ i = 2 ∨ i = 3 ∨ i = 4 ∨ i = 5 ∨ i = 6 by omega) with rfl | rfl | rfl | rfl | rfl | rfl | rfl <;> rcases (show j = 0 ∨ j = 1 ∨ j = 2 ∨ j = 3 ∨ j = 4 ∨ j = 5 ∨ j = 6 by omega) with rfl | rfl | rfl | rfl | rfl | rfl | rfl
    · rfl
    · exact absurd he (ls_ne hv0 hv1 (Or.inl (by decide)))
    · exact absurd he (ls_ne hv0 hv2 (Or.inl (by decide)))
    · exact absurd he (ls_ne hv0 hv3 (Or.inl (by decide)))
    · exact absurd he (ls_ne hv0 hv4 (Or.inl (by decide)))
    · exact absurd he (ls_ne hv0 hv5 (Or.inl (by decide)))
    · exact absurd he (ls_ne hv0 hv6 (Or.inl (by decide)))
    · exact absurd he (ls_ne hv1 hv0 (Or.inl (by decide)))
    · rfl
    · exact absurd he (ls_ne hv1 hv2 (Or.inr ⟨by decide, by decide, by decide⟩))
    · exact absurd he (ls_ne hv1 hv3 (Or.inr ⟨by decide, by decide, by decide⟩))
    · exact absurd he (ls_ne hv1 hv4 (Or.inr ⟨by decide, by decide, by decide⟩))
    · exact absurd he (ls_ne hv1 hv5 (Or.inr ⟨by decide, by decide, by decide⟩))
    · exact absurd he (ls_ne hv1 hv6 (Or.inr ⟨by decide, by decide, by decide⟩))
    · exact absurd he (ls_ne hv2 hv0 (Or.inl (by decide)))
    · exact absurd he (ls_ne hv2 hv1 (Or.inr ⟨by decide, by decide, by decide⟩))
    · rfl
    · exact absurd he (ls_ne hv2 hv3 (Or.inr ⟨by decide, by decide, by decide⟩))
    · exact absurd he (ls_ne hv2 hv4 (Or.inr ⟨by decide, by decide, by decide⟩))
    · exact absurd he (ls_ne hv2 hv5 (Or.inr ⟨by decide, by decide, by decide⟩))
    · exact absurd he (ls_ne hv2 hv6 (Or.inr ⟨by decide, by decide, by decide⟩))
    · exact absurd he (ls_ne hv3 hv0 (Or.inl (by decide)))
    · exact absurd he (ls_ne hv3 hv1 (Or.inr ⟨by decide, by decide, by decide⟩))
    · exact absurd he (ls_ne hv3 hv2 (Or.inr ⟨by decide, by decide, by decide⟩))
    · rfl
    · exact absurd he (ls_ne hv3 hv4 (Or.inr ⟨by decide, by decide, by decide⟩))
    · exact absurd he (ls_ne hv3 hv5 (Or.inr ⟨by decide, by decide, by decide⟩))
    · exact absurd he (ls_ne hv3 hv6 (Or.inr ⟨by decide, by decide, by decide⟩))
    · exact absurd he (ls_ne hv4 hv0 (Or.inl (by decide)))
    · exact absurd he (ls_ne hv4 hv1 (Or.inr ⟨by decide, by decide, by decide⟩))
    · exact absurd he (ls_ne hv4 hv2 (Or.inr ⟨by decide, by decide, by decide⟩))
    · exact absurd he (ls_ne hv4 hv3 (Or.inr ⟨by decide, by decide, by decide⟩))
    · rfl
    · exact absurd he (ls_ne hv4 hv5 (Or.inr ⟨by decide, by decide, by decide⟩))
    · exact absurd he (ls_ne hv4 hv6 (Or.inr ⟨by decide, by decide, by decide⟩))
    · exact absurd he (ls_ne hv5 hv0 (Or.inl (by decide)))
    · exact absurd he (ls_ne hv5 hv1 (Or.inr ⟨by decide, by decide, by decide⟩))
    · exact absurd he (ls_ne hv5 hv2 (Or.inr ⟨by decide, by decide, by decide⟩))
    · exact absurd he (ls_ne hv5 hv3 (Or.inr ⟨by decide, by decide, by decide⟩))
    · exact absurd he (ls_ne hv5 hv4 (Or.inr ⟨by decide, by decide, by decide⟩))
    · rfl
    · exact absurd he (ls_ne hv5 hv6 (Or.inr ⟨by decide, by decide, by decide⟩))
    · exact absurd he (ls_ne hv6 hv0 (Or.inl (by decide)))
    · exact absurd he (ls_ne hv6 hv1 (Or.inr ⟨by decide, by decide, by decide⟩))
    · exact absurd he (ls_ne hv6 hv2 (Or.inr ⟨by decide, by decide, by decide⟩))
    · exact absurd he (ls_ne hv6 hv3 (Or.inr ⟨by decide, by decide, by decide⟩))
    · exact absurd he (ls_ne hv6 hv4 (Or.inr ⟨by decide, by decide, by decide⟩))
    · exact absurd he (ls_ne hv6 hv5 (Or.inr ⟨by decide, by decide, by decide⟩))
    · rfl
end LST
section LST
variable {args : Array Value} {s : State}
set_option maxHeartbeats 4000000 in
theorem ls_DO (hts : ∀ w ∈ lw_tbl, w.before args s = true) (hgv : (Jvm.Cond.and given_1 narrow_1).before args s = true) : ∃ t : Nat, va_Z "java/lang/Integer" "DigitOnes" "[B" (.ref t) (fun q => s.heap.size ≤ q) s s.heap ∧ va_T .byte t 100 (fun j => .int (digO j)) (fun q => s.heap.size ≤ q) s s.heap := by
  have hs := flat_of_before _ hgv
  have hA : ∀ a : Nat, a < s.heap.size → ¬ (fun q => s.heap.size ≤ q) a := fun a h => Nat.not_le.mpr h
  have hel : ∀ j : Nat, j < 100 → (Cond.eq (.elem (Term.static "java/lang/Integer" "DigitOnes" "[B") (.int (Int32.ofNat j))) (.int (digO j))).before args s = true := fun j hj => by
    match j, hj with
    | 0, _ => exact (hs _ (by decide +kernel) : (Cond.eq (.elem (Term.static "java/lang/Integer" "DigitOnes" "[B") (.int (Int32.ofNat 0))) (.int 48)).before args s = true)
    | 1, _ => exact (hs _ (by decide +kernel) : (Cond.eq (.elem (Term.static "java/lang/Integer" "DigitOnes" "[B") (.int (Int32.ofNat 1))) (.int 49)).before args s = true)
    | 2, _ => exact (hs _ (by decide +kernel) : (Cond.eq (.elem (Term.static "java/lang/Integer" "DigitOnes" "[B") (.int (Int32.ofNat 2))) (.int 50)).before args s = true)
    | 3, _ => exact (hs _ (by decide +kernel) : (Cond.eq (.elem (Term.static "java/lang/Integer" "DigitOnes" "[B") (.int (Int32.ofNat 3))) (.int 51)).before args s = true)
    | 4, _ => exact (hs _ (by decide +kernel) : (Cond.eq (.elem (Term.static "java/lang/Integer" "DigitOnes" "[B") (.int (Int32.ofNat 4))) (.int 52)).before args s = true)
    | 5, _ => exact (hs _ (by decide +kernel) : (Cond.eq (.elem (Term.static "java/lang/Integer" "DigitOnes" "[B") (.int (Int32.ofNat 5))) (.int 53)).before args s = true)
    | 6, _ => exact (hs _ (by decide +kernel) : (Cond.eq (.elem (Term.static "java/lang/Integer" "DigitOnes" "[B") (.int (Int32.ofNat 6))) (.int 54)).before args s = true)
    | 7, _ => exact (hs _ (by decide +kernel) : (Cond.eq (.elem (Term.static "java/lang/Integer" "DigitOnes" "[B") (.int (Int32.ofNat 7))) (.int 55)).before args s = true)
    | 8, _ => exact (hs _ (by decide +kernel) : (Cond.eq (.elem (Term.static "java/lang/Integer" "DigitOnes" "[B") (.int (Int32.ofNat 8))) (.int 56)).before args s = true)
    | 9, _ => exact (hs _ (by decide +kernel) : (Cond.eq (.elem (Term.static "java/lang/Integer" "DigitOnes" "[B") (.int (Int32.ofNat 9))) (.int 57)).before args s = true)
    | 10, _ => exact (hs _ (by decide +kernel) : (Cond.eq (.elem (Term.static "java/lang/Integer" "DigitOnes" "[B") (.int (Int32.ofNat 10))) (.int 48)).before args s = true)
    | 11, _ => exact (hs _ (by decide +kernel) : (Cond.eq (.elem (Term.static "java/lang/Integer" "DigitOnes" "[B") (.int (Int32.ofNat 11))) (.int 49)).before args s = true)
    | 12, _ => exact (hs _ (by decide +kernel) : (Cond.eq (.elem (Term.static "java/lang/Integer" "DigitOnes" "[B") (.int (Int32.ofNat 12))) (.int 50)).before args s = true)
    | 13, _ => exact (hs _ (by decide +kernel) : (Cond.eq (.elem (Term.static "java/lang/Integer" "DigitOnes" "[B") (.int (Int32.ofNat 13))) (.int 51)).before args s = true)
    | 14, _ => exact (hs _ (by decide +kernel) : (Cond.eq (.elem (Term.static "java/lang/Integer" "DigitOnes" "[B") (.int (Int32.ofNat 14))) (.int 52)).before args s = true)
    | 15, _ => exact (hs _ (by decide +kernel) : (Cond.eq (.elem (Term.static "java/lang/Integer" "DigitOnes" "[B") (.int (Int32.ofNat 15))) (.int 53)).before args s = true)
    | 16, _ => exact (hs _ (by decide +kernel) : (Cond.eq (.elem (Term.static "java/lang/Integer" "DigitOnes" "[B") (.int (Int32.ofNat 16))) (.int 54)).before args s = true)
    | 17, _ => exact (hs _ (by decide +kernel) : (Cond.eq (.elem (Term.static "java/lang/Integer" "DigitOnes" "[B") (.int (Int32.ofNat 17))) (.int 55)).before args s = true)
    | 18, _ => exact (hs _ (by decide +kernel) : (Cond.eq (.elem (Term.static "java/lang/Integer" "DigitOnes" "[B") (.int (Int32.ofNat 18))) (.int 56)).before args s = true)
    | 19, _ => exact (hs _ (by decide +kernel) : (Cond.eq (.elem (Term.static "java/lang/Integer" "DigitOnes" "[B") (.int (Int32.ofNat 19))) (.int 57)).before args s = true)
    | 20, _ => exact (hs _ (by decide +kernel) : (Cond.eq (.elem (Term.static "java/lang/Integer" "DigitOnes" "[B") (.int (Int32.ofNat 20))) (.int 48)).before args s = true)
    | 21, _ => exact (hs _ (by decide +kernel) : (Cond.eq (.elem (Term.static "java/lang/Integer" "DigitOnes" "[B") (.int (Int32.ofNat 21))) (.int 49)).before args s = true)
    | 22, _ => exact (hs _ (by decide +kernel) : (Cond.eq (.elem (Term.static "java/lang/Integer" "DigitOnes" "[B") (.int (Int32.ofNat 22))) (.int 50)).before args s = true)
    | 23, _ => exact (hs _ (by decide +kernel) : (Cond.eq (.elem (Term.static "java/lang/Integer" "DigitOnes" "[B") (.int (Int32.ofNat 23))) (.int 51)).before args s = true)
    | 24, _ => exact (hs _ (by decide +kernel) : (Cond.eq (.elem (Term.static "java/lang/Integer" "DigitOnes" "[B") (.int (Int32.ofNat 24))) (.int 52)).before args s = true)
    | 25, _ => exact (hs _ (by decide +kernel) : (Cond.eq (.elem (Term.static "java/lang/Integer" "DigitOnes" "[B") (.int (Int32.ofNat 25))) (.int 53)).before args s = true)
    | 26, _ => exact (hs _ (by decide +kernel) : (Cond.eq (.elem (Term.static "java/lang/Integer" "DigitOnes" "[B") (.int (Int32.ofNat 26))) (.int 54)).before args s = true)
    | 27, _ => exact (hs _ (by decide +kernel) : (Cond.eq (.elem (Term.static "java/lang/Integer" "DigitOnes" "[B") (.int (Int32.ofNat 27))) (.int 55)).before args s = true)
    | 28, _ => exact (hs _ (by decide +kernel) : (Cond.eq (.elem (Term.static "java/lang/Integer" "DigitOnes" "[B") (.int (Int32.ofNat 28))) (.int 56)).before args s = true)
    | 29, _ => exact (hs _ (by decide +kernel) : (Cond.eq (.elem (Term.static "java/lang/Integer" "DigitOnes" "[B") (.int (Int32.ofNat 29))) (.int 57)).before args s = true)
    | 30, _ => exact (hs _ (by decide +kernel) : (Cond.eq (.elem (Term.static "java/lang/Integer" "DigitOnes" "[B") (.int (Int32.ofNat 30))) (.int 48)).before args s = true)
    | 31, _ => exact (hs _ (by decide +kernel) : (Cond.eq (.elem (Term.static "java/lang/Integer" "DigitOnes" "[B") (.int (Int32.ofNat 31))) (.int 49)).before args s = true)
    | 32, _ => exact (hs _ (by decide +kernel) : (Cond.eq (.elem (Term.static "java/lang/Integer" "DigitOnes" "[B") (.int (Int32.ofNat 32))) (.int 50)).before args s = true)
    | 33, _ => exact (hs _ (by decide +kernel) : (Cond.eq (.elem (Term.static "java/lang/Integer" "DigitOnes" "[B") (.int (Int32.ofNat 33))) (.int 51)).before args s = true)
    | 34, _ => exact (hs _ (by decide +kernel) : (Cond.eq (.elem (Term.static "java/lang/Integer" "DigitOnes" "[B") (.int (Int32.ofNat 34))) (.int 52)).before args s = true)
    | 35, _ => exact (hs _ (by decide +kernel) : (Cond.eq (.elem (Term.static "java/lang/Integer" "DigitOnes" "[B") (.int (Int32.ofNat 35))) (.int 53)).before args s = true)
    | 36, _ => exact (hs _ (by decide +kernel) : (Cond.eq (.elem (Term.static "java/lang/Integer" "DigitOnes" "[B") (.int (Int32.ofNat 36))) (.int 54)).before args s = true)
    | 37, _ => exact (hs _ (by decide +kernel) : (Cond.eq (.elem (Term.static "java/lang/Integer" "DigitOnes" "[B") (.int (Int32.ofNat 37))) (.int 55)).before args s = true)
    | 38, _ => exact (hs _ (by decide +kernel) : (Cond.eq (.elem (Term.static "java/lang/Integer" "DigitOnes" "[B") (.int (Int32.ofNat 38))) (.int 56)).before args s = true)
    | 39, _ => exact (hs _ (by decide +kernel) : (Cond.eq (.elem (Term.static "java/lang/Integer" "DigitOnes" "[B") (.int (Int32.ofNat 39))) (.int 57)).before args s = true)
    | 40, _ => exact (hs _ (by decide +kernel) : (Cond.eq (.elem (Term.static "java/lang/Integer" "DigitOnes" "[B") (.int (Int32.ofNat 40))) (.int 48)).before args s = true)
    | 41, _ => exact (hs _ (by decide +kernel) : (Cond.eq (.elem (Term.static "java/lang/Integer" "DigitOnes" "[B") (.int (Int32.ofNat 41))) (.int 49)).before args s = true)
    | 42, _ => exact (hs _ (by decide +kernel) : (Cond.eq (.elem (Term.static "java/lang/Integer" "DigitOnes" "[B") (.int (Int32.ofNat 42))) (.int 50)).before args s = true)
    | 43, _ => exact (hs _ (by decide +kernel) : (Cond.eq (.elem (Term.static "java/lang/Integer" "DigitOnes" "[B") (.int (Int32.ofNat 43))) (.int 51)).before args s = true)
    | 44, _ => exact (hs _ (by decide +kernel) : (Cond.eq (.elem (Term.static "java/lang/Integer" "DigitOnes" "[B") (.int (Int32.ofNat 44))) (.int 52)).before args s = true)
    | 45, _ => exact (hs _ (by decide +kernel) : (Cond.eq (.elem (Term.static "java/lang/Integer" "DigitOnes" "[B") (.int (Int32.ofNat 45))) (.int 53)).before args s = true)
    | 46, _ => exact (hs _ (by decide +kernel) : (Cond.eq (.elem (Term.static "java/lang/Integer" "DigitOnes" "[B") (.int (Int32.ofNat 46))) (.int 54)).before args s = true)
    | 47, _ => exact (hs _ (by decide +kernel) : (Cond.eq (.elem (Term.static "java/lang/Integer" "DigitOnes" "[B") (.int (Int32.ofNat 47))) (.int 55)).before args s = true)
    | 48, _ => exact (hs _ (by decide +kernel) : (Cond.eq (.elem (Term.static "java/lang/Integer" "DigitOnes" "[B") (.int (Int32.ofNat 48))) (.int 56)).before args s = true)
    | 49, _ => exact (hs _ (by decide +kernel) : (Cond.eq (.elem (Term.static "java/lang/Integer" "DigitOnes" "[B") (.int (Int32.ofNat 49))) (.int 57)).before args s = true)
    | 50, _ => exact (hs _ (by decide +kernel) : (Cond.eq (.elem (Term.static "java/lang/Integer" "DigitOnes" "[B") (.int (Int32.ofNat 50))) (.int 48)).before args s = true)
    | 51, _ => exact (hs _ (by decide +kernel) : (Cond.eq (.elem (Term.static "java/lang/Integer" "DigitOnes" "[B") (.int (Int32.ofNat 51))) (.int 49)).before args s = true)
    | 52, _ => exact (hs _ (by decide +kernel) : (Cond.eq (.elem (Term.static "java/lang/Integer" "DigitOnes" "[B") (.int (Int32.ofNat 52))) (.int 50)).before args s = true)
    | 53, _ => exact (hs _ (by decide +kernel) : (Cond.eq (.elem (Term.static "java/lang/Integer" "DigitOnes" "[B") (.int (Int32.ofNat 53))) (.int 51)).before args s = true)
    | 54, _ => exact (hs _ (by decide +kernel) : (Cond.eq (.elem (Term.static "java/lang/Integer" "DigitOnes" "[B") (.int (Int32.ofNat 54))) (.int 52)).before args s = true)
    | 55, _ => exact (hs _ (by decide +kernel) : (Cond.eq (.elem (Term.static "java/lang/Integer" "DigitOnes" "[B") (.int (Int32.ofNat 55))) (.int 53)).before args s = true)
    | 56, _ => exact (hs _ (by decide +kernel) : (Cond.eq (.elem (Term.static "java/lang/Integer" "DigitOnes" "[B") (.int (Int32.ofNat 56))) (.int 54)).before args s = true)
    | 57, _ => exact (hs _ (by decide +kernel) : (Cond.eq (.elem (Term.static "java/lang/Integer" "DigitOnes" "[B") (.int (Int32.ofNat 57))) (.int 55)).before args s = true)
    | 58, _ => exact (hs _ (by decide +kernel) : (Cond.eq (.elem (Term.static "java/lang/Integer" "DigitOnes" "[B") (.int (Int32.ofNat 58))) (.int 56)).before args s = true)
    | 59, _ => exact (hs _ (by decide +kernel) : (Cond.eq (.elem (Term.static "java/lang/Integer" "DigitOnes" "[B") (.int (Int32.ofNat 59))) (.int 57)).before args s = true)
    | 60, _ => exact (hs _ (by decide +kernel) : (Cond.eq (.elem (Term.static "java/lang/Integer" "DigitOnes" "[B") (.int (Int32.ofNat 60))) (.int 48)).before args s = true)
    | 61, _ => exact (hs _ (by decide +kernel) : (Cond.eq (.elem (Term.static "java/lang/Integer" "DigitOnes" "[B") (.int (Int32.ofNat 61))) (.int 49)).before args s = true)
    | 62, _ => exact (hs _ (by decide +kernel) : (Cond.eq (.elem (Term.static "java/lang/Integer" "DigitOnes" "[B") (.int (Int32.ofNat 62))) (.int 50)).before args s = true)
    | 63, _ => exact (hs _ (by decide +kernel) : (Cond.eq (.elem (Term.static "java/lang/Integer" "DigitOnes" "[B") (.int (Int32.ofNat 63))) (.int 51)).before args s = true)
    | 64, _ => exact (hs _ (by decide +kernel) : (Cond.eq (.elem (Term.static "java/lang/Integer" "DigitOnes" "[B") (.int (Int32.ofNat 64))) (.int 52)).before args s = true)
    | 65, _ => exact (hs _ (by decide +kernel) : (Cond.eq (.elem (Term.static "java/lang/Integer" "DigitOnes" "[B") (.int (Int32.ofNat 65))) (.int 53)).before args s = true)
    | 66, _ => exact (hs _ (by decide +kernel) : (Cond.eq (.elem (Term.static "java/lang/Integer" "DigitOnes" "[B") (.int (Int32.ofNat 66))) (.int 54)).before args s = true)
    | 67, _ => exact (hs _ (by decide +kernel) : (Cond.eq (.elem (Term.static "java/lang/Integer" "DigitOnes" "[B") (.int (Int32.ofNat 67))) (.int 55)).before args s = true)
    | 68, _ => exact (hs _ (by decide +kernel) : (Cond.eq (.elem (Term.static "java/lang/Integer" "DigitOnes" "[B") (.int (Int32.ofNat 68))) (.int 56)).before args s = true)
    | 69, _ => exact (hs _ (by decide +kernel) : (Cond.eq (.elem (Term.static "java/lang/Integer" "DigitOnes" "[B") (.int (Int32.ofNat 69))) (.int 57)).before args s = true)
    | 70, _ => exact (hs _ (by decide +kernel) : (Cond.eq (.elem (Term.static "java/lang/Integer" "DigitOnes" "[B") (.int (Int32.ofNat 70))) (.int 48)).before args s = true)
    | 71, _ => exact (hs _ (by decide +kernel) : (Cond.eq (.elem (Term.static "java/lang/Integer" "DigitOnes" "[B") (.int (Int32.ofNat 71))) (.int 49)).before args s = true)
    | 72, _ => exact (hs _ (by decide +kernel) : (Cond.eq (.elem (Term.static "java/lang/Integer" "DigitOnes" "[B") (.int (Int32.ofNat 72))) (.int 50)).before args s = true)
    | 73, _ => exact (hs _ (by decide +kernel) : (Cond.eq (.elem (Term.static "java/lang/Integer" "DigitOnes" "[B") (.int (Int32.ofNat 73))) (.int 51)).before args s = true)
    | 74, _ => exact (hs _ (by decide +kernel) : (Cond.eq (.elem (Term.static "java/lang/Integer" "DigitOnes" "[B") (.int (Int32.ofNat 74))) (.int 52)).before args s = true)
    | 75, _ => exact (hs _ (by decide +kernel) : (Cond.eq (.elem (Term.static "java/lang/Integer" "DigitOnes" "[B") (.int (Int32.ofNat 75))) (.int 53)).before args s = true)
    | 76, _ => exact (hs _ (by decide +kernel) : (Cond.eq (.elem (Term.static "java/lang/Integer" "DigitOnes" "[B") (.int (Int32.ofNat 76))) (.int 54)).before args s = true)
    | 77, _ => exact (hs _ (by decide +kernel) : (Cond.eq (.elem (Term.static "java/lang/Integer" "DigitOnes" "[B") (.int (Int32.ofNat 77))) (.int 55)).before args s = true)
    | 78, _ => exact (hs _ (by decide +kernel) : (Cond.eq (.elem (Term.static "java/lang/Integer" "DigitOnes" "[B") (.int (Int32.ofNat 78))) (.int 56)).before args s = true)
    | 79, _ => exact (hs _ (by decide +kernel) : (Cond.eq (.elem (Term.static "java/lang/Integer" "DigitOnes" "[B") (.int (Int32.ofNat 79))) (.int 57)).before args s = true)
    | 80, _ => exact (hs _ (by decide +kernel) : (Cond.eq (.elem (Term.static "java/lang/Integer" "DigitOnes" "[B") (.int (Int32.ofNat 80))) (.int 48)).before args s = true)
    | 81, _ => exact (hs _ (by decide +kernel) : (Cond.eq (.elem (Term.static "java/lang/Integer" "DigitOnes" "[B") (.int (Int32.ofNat 81))) (.int 49)).before args s = true)
    | 82, _ => exact (hs _ (by decide +kernel) : (Cond.eq (.elem (Term.static "java/lang/Integer" "DigitOnes" "[B") (.int (Int32.ofNat 82))) (.int 50)).before args s = true)
    | 83, _ => exact (hs _ (by decide +kernel) : (Cond.eq (.elem (Term.static "java/lang/Integer" "DigitOnes" "[B") (.int (Int32.ofNat 83))) (.int 51)).before args s = true)
    | 84, _ => exact (hs _ (by decide +kernel) : (Cond.eq (.elem (Term.static "java/lang/Integer" "DigitOnes" "[B") (.int (Int32.ofNat 84))) (.int 52)).before args s = true)
    | 85, _ => exact (hs _ (by decide +kernel) : (Cond.eq (.elem (Term.static "java/lang/Integer" "DigitOnes" "[B") (.int (Int32.ofNat 85))) (.int 53)).before args s = true)
    | 86, _ => exact (hs _ (by decide +kernel) : (Cond.eq (.elem (Term.static "java/lang/Integer" "DigitOnes" "[B") (.int (Int32.ofNat 86))) (.int 54)).before args s = true)
    | 87, _ => exact (hs _ (by decide +kernel) : (Cond.eq (.elem (Term.static "java/lang/Integer" "DigitOnes" "[B") (.int (Int32.ofNat 87))) (.int 55)).before args s = true)
    | 88, _ => exact (hs _ (by decide +kernel) : (Cond.eq (.elem (Term.static "java/lang/Integer" "DigitOnes" "[B") (.int (Int32.ofNat 88))) (.int 56)).before args s = true)
    | 89, _ => exact (hs _ (by decide +kernel) : (Cond.eq (.elem (Term.static "java/lang/Integer" "DigitOnes" "[B") (.int (Int32.ofNat 89))) (.int 57)).before args s = true)
    | 90, _ => exact (hs _ (by decide +kernel) : (Cond.eq (.elem (Term.static "java/lang/Integer" "DigitOnes" "[B") (.int (Int32.ofNat 90))) (.int 48)).before args s = true)
    | 91, _ => exact (hs _ (by decide +kernel) : (Cond.eq (.elem (Term.static "java/lang/Integer" "DigitOnes" "[B") (.int (Int32.ofNat 91))) (.int 49)).before args s = true)
    | 92, _ => exact (hs _ (by decide +kernel) : (Cond.eq (.elem (Term.static "java/lang/Integer" "DigitOnes" "[B") (.int (Int32.ofNat 92))) (.int 50)).before args s = true)
    | 93, _ => exact (hs _ (by decide +kernel) : (Cond.eq (.elem (Term.static "java/lang/Integer" "DigitOnes" "[B") (.int (Int32.ofNat 93))) (.int 51)).before args s = true)
    | 94, _ => exact (hs _ (by decide +kernel) : (Cond.eq (.elem (Term.static "java/lang/Integer" "DigitOnes" "[B") (.int (Int32.ofNat 94))) (.int 52)).before args s = true)
    | 95, _ => exact (hs _ (by decide +kernel) : (Cond.eq (.elem (Term.static "java/lang/Integer" "DigitOnes" "[B") (.int (Int32.ofNat 95))) (.int 53)).before args s = true)
    | 96, _ => exact (hs _ (by decide +kernel) : (Cond.eq (.elem (Term.static "java/lang/Integer" "DigitOnes" "[B") (.int (Int32.ofNat 96))) (.int 54)).before args s = true)
    | 97, _ => exact (hs _ (by decide +kernel) : (Cond.eq (.elem (Term.static "java/lang/Integer" "DigitOnes" "[B") (.int (Int32.ofNat 97))) (.int 55)).before args s = true)
    | 98, _ => exact (hs _ (by decide +kernel) : (Cond.eq (.elem (Term.static "java/lang/Integer" "DigitOnes" "[B") (.int (Int32.ofNat 98))) (.int 56)).before args s = true)
    | 99, _ => exact (hs _ (by decide +kernel) : (Cond.eq (.elem (Term.static "java/lang/Integer" "DigitOnes" "[B") (.int (Int32.ofNat 99))) (.int 57)).before args s = true)
    | j + 100, hj => omega
  obtain ⟨t, ht, hT⟩ := va_Tof (args := args) (tm := (Term.static "java/lang/Integer" "DigitOnes" "[B")) (ty := .byte) (N := 100) (f := fun j => .int (digO j)) (A := fun q => s.heap.size ≤ q) (by decide) (hs _ (by decide +kernel)) (va_eqt (hs _ (by decide +kernel))) (fun j hj => va_eqt (hel j hj)) hA
  exact ⟨t, va_Zof (hts _ (List.mem_of_getElem? (i := 1265) (by decide +kernel))) (hts _ (List.mem_of_getElem? (i := 42) (by decide +kernel))) ht hA, hT⟩
set_option maxHeartbeats 4000000 in
theorem ls_EX (hts : ∀ w ∈ lw_tbl, w.before args s = true) (hgv : (Jvm.Cond.and given_1 narrow_1).before args s = true) : ∃ xq : Nat → Nat, EX xq (fun q => s.heap.size ≤ q) s s.heap := by
  have hs := flat_of_before _ hgv
  obtain ⟨q0, hq0⟩ := Classical.axiomOfChoice (ls_R hts hgv)
  obtain ⟨q1, hq1⟩ := Classical.axiomOfChoice (ls_RS hts hgv)
  obtain ⟨v0, hv0⟩ := ls_s0 hgv (hq1 0 _ rfl)
  obtain ⟨v1, hv1⟩ := ls_s1 hgv (hq1 1 _ rfl)
  obtain ⟨v2, hv2⟩ := ls_s2 hgv (hq1 2 _ rfl)
  obtain ⟨v3, hv3⟩ := ls_s3 hgv (hq1 3 _ rfl)
  obtain ⟨v4, hv4⟩ := ls_s4 hgv (hq1 4 _ rfl)
  obtain ⟨v5, hv5⟩ := ls_s5 hgv (hq1 5 _ rfl)
  obtain ⟨v6, hv6⟩ := ls_s6 hgv (hq1 6 _ rfl)
  obtain ⟨v7, hv7, hv8⟩ := ls_DO hts hgv
  have hA : ∀ a : Nat, a < s.heap.size → ¬ (fun q => s.heap.size ≤ q) a := fun a h => Nat.not_le.mpr h
  have z1 : vx_Zq Bundle.tN "UNASSIGNED_STACK" Bundle.steD (fun q => s.heap.size ≤ q) s s.heap := vx_Zqof (hts _ (List.mem_of_getElem? (i := 330) (by decide +kernel))) (hts _ (List.mem_of_getElem? (i := 22) (by decide +kernel))) (hs _ (by decide +kernel)) hA
  have z2 : vx_Zq Bundle.tN "SUPPRESSED_SENTINEL" Bundle.listD (fun q => s.heap.size ≤ q) s s.heap := vx_Zqof (hts _ (List.mem_of_getElem? (i := 332) (by decide +kernel))) (hts _ (List.mem_of_getElem? (i := 22) (by decide +kernel))) (hs _ (by decide +kernel)) hA
  have z3 : va_Z "java/lang/String" "COMPACT_STRINGS" "Z" (.int 1) (fun q => s.heap.size ≤ q) s s.heap := va_Zof (hts _ (List.mem_of_getElem? (i := 1065) (by decide +kernel))) (hts _ (List.mem_of_getElem? (i := 32) (by decide +kernel))) (va_eqt (hs _ (by decide +kernel))) hA
  have z4 : va_Zq "jdk/internal/util/Preconditions" "SIOOBE_FORMATTER" "Ljava/util/function/BiFunction;" (fun q => s.heap.size ≤ q) s s.heap := va_Zqof (hts _ (List.mem_of_getElem? (i := 1095) (by decide +kernel))) (hts _ (List.mem_of_getElem? (i := 39) (by decide +kernel))) (hs _ (by decide +kernel)) hA
  have hLX : LXs (lsX q0 q1 v0 v1 v2 v3 v4 v5 v6 v7) (fun q => s.heap.size ≤ q) s s.heap := by
    refine ⟨ls_NC hgv, fun i x hx => ?_, ls_S7 hv0 hv1 hv2 hv3 hv4 hv5 hv6, va_Nw.of rfl (A := args) (hts _ (List.mem_of_getElem? (i := 1190) (by decide +kernel))), hv7, hv8⟩
    have hi : i < 70 := by
      have := (List.getElem?_eq_some_iff.mp hx).1
      have h2 : exS.length = 7 := by decide
      omega
    rw [lsX_mi hi]; exact hq1 i x hx
  refine ⟨lsX q0 q1 v0 v1 v2 v3 v4 v5 v6 v7, ls_N hts, fun i x hx => ?_, z1, z2, hLX, z3, z4, ls_K hts, ls_D hts⟩
  have hi : i < 30 := by
    have := (List.getElem?_eq_some_iff.mp hx).1
    have h2 : exT.length = 26 := by decide
    omega
  rw [lsX_lo hi]; exact hq0 i x hx
end LST
