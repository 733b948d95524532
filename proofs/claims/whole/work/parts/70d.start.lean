/-! THE LAW'S START: what the machine holds -/
theorem va_OF_u {o n d : String} {v w : Value} {t : Nat} {A : Nat → Prop} {U : State} {H : Heap} (h1 : va_OF o n d v t A U H) (h2 : va_OF o n d w t A U H) : v = w := by
  obtain ⟨cf, k, i, f, cell, a1, -, a2, -, a3, -⟩ := h1
  obtain ⟨cf', k', i', f', cell', b1, -, b2, -, b3, -⟩ := h2
  have e1 := Option.some.inj (a1.symm.trans b1)
  simp only [Prod.mk.injEq] at e1
  obtain ⟨-, -, -, rfl⟩ := e1
  cases Option.some.inj (a2.symm.trans b2)
  exact Option.some.inj (a3.symm.trans b3)
theorem va_T_u {ty : FieldType} {t N M : Nat} {f g : Nat → Value} {A : Nat → Prop} {U : State} {H : Heap} (h1 : va_T ty t N f A U H) (h2 : va_T ty t M g A U H) : Int32.ofNat N = Int32.ofNat M ∧ ∀ j, j < N → j < M → f j = g j := by
  obtain ⟨cell, a1, -, -, -, a2, a3, -⟩ := h1
  obtain ⟨cell', b1, -, -, -, b2, b3, -⟩ := h2
  cases Option.some.inj (a1.symm.trans b1)
  exact ⟨a2.symm.trans b2, fun j h1 h2 => Option.some.inj ((a3 j h1).symm.trans (b3 j h2))⟩
section LST
variable {args : Array Value} {s : State}
theorem ls_r {own tx : String} {k : Nat} (h1 : (Cond.stringRef own k tx).before args s = true) (h2 : (Cond.exactly (.string own k) "java/lang/String").before args s = true) : ∃ a, vk_R own k tx a s := by
  obtain ⟨a, c, cA, kA, q1, -⟩ := Cond.exactly_spec (args := args) (first := s) (o := none) (s := s) (idx := []) (t := .string own k) (cls := "java/lang/String") h2
  exact ⟨a, vk_R.of h1 q1⟩
def lsS (a v len : Nat) (byt : List Int32) (s : State) : Prop := va_O "java/lang/String" a (fun q => s.heap.size ≤ q) s s.heap ∧ va_OF "java/lang/String" "coder" "B" (.int 0) a (fun q => s.heap.size ≤ q) s s.heap ∧ va_OF "java/lang/String" "value" "[B" (.ref v) a (fun q => s.heap.size ≤ q) s s.heap ∧ va_T .byte v len (fun j => .int (byt.getD j 0)) (fun q => s.heap.size ≤ q) s s.heap
theorem ls_s {own tx : String} {k a len : Nat} {byt : List Int32} (hR : vk_R own k tx a s) (hl : len < 2 ^ 31) (hex : (Cond.exactly (.string own k) "java/lang/String").before args s = true) (hco : (Cond.eq (.field (.string own k) "java/lang/String" "coder" "B") (.int 0)).before args s = true) (har : (Cond.arrayOf (.field (.string own k) "java/lang/String" "value" "[B") .byte).before args s = true) (hle : (Cond.eq (.length (.field (.string own k) "java/lang/String" "value" "[B")) (.int (Int32.ofNat len))).before args s = true)
    (hel : ∀ j : Nat, j < len → (Cond.eq (.elem (.field (.string own k) "java/lang/String" "value" "[B") (.int (Int32.ofNat j))) (.int (byt.getD j 0))).before args s = true) : ∃ v, lsS a v len byt s := by
  obtain ⟨adK, adV, ⟨h1, -⟩, h2⟩ := vk_Sof (args := args) (s := s) (N := 1) (tm := fun _ => .string own k) (len := [len]) (byt := [byt]) (A := fun q => s.heap.size ≤ q) (fun i hi => by rcases (show i = 0 by omega) with rfl; exact hl) (fun i hi => hex) (fun i hi => hco) (fun i hi => har) (fun i hi => by rcases (show i = 0 by omega) with rfl; exact hle) (fun i hi j hj => by rcases (show i = 0 by omega) with rfl; exact hel j hj) (fun i j hi hj h => absurd (show i = j by omega) h) (fun a h => Nat.not_le.mpr h)
  have e : adK 0 = a := by
    have h3 := vk_R.of hR.1 (h2 0 (by decide))
    have h4 := h3.2.symm.trans hR.2
    cases h4; rfl
  have h5 := h1 0 (by decide)
  rw [e] at h5
  exact ⟨adV 0, h5⟩
theorem ls_ne {a b v w n m : Nat} {x y : List Int32} (h1 : lsS a v n x s) (h2 : lsS b w m y s) (h : Int32.ofNat n ≠ Int32.ofNat m ∨ (0 < n ∧ 0 < m ∧ x.getD 0 0 ≠ y.getD 0 0)) : a ≠ b := fun e => by
  subst e
  have e2 := va_OF_u h1.2.2.1 h2.2.2.1
  cases e2
  obtain ⟨e3, e4⟩ := va_T_u h1.2.2.2 h2.2.2.2
  rcases h with h | ⟨q1, q2, h⟩
  · exact h e3
  · have h9 : Value.int (x.getD 0 0) = Value.int (y.getD 0 0) := e4 0 q1 q2
    exact h (Value.int.inj h9)
theorem ls_none {α : Type} {L : List α} {n i : Nat} {x : α} (hn : L.length = n) (h : L[i + n]? = some x) : False := by
  have := (List.getElem?_eq_some_iff.mp h).1
  omega
theorem ls_R (hts : ∀ w ∈ lw_tbl, w.before args s = true) (hgv : (Jvm.Cond.and given_1 narrow_1).before args s = true) : ∀ i : Nat, ∃ a : Nat, ∀ x, exT[i]? = some x → vk_R x.1 x.2.1 x.2.2 a s := by
  have hs := flat_of_before _ hgv
  intro i
  match i with
  | 0 => exact (ls_r (own := "SandProofreader$Script") (k := 73) (tx := "d") (hts _ (List.mem_of_getElem? (i := 1261) (by decide +kernel))) (hs _ (by decide +kernel))).imp fun a h x hx => by (cases hx; exact h)
  | 1 => exact (ls_r (own := "SandProofreader$Script") (k := 75) (tx := "i@t:r,cfd") (hts _ (List.mem_of_getElem? (i := 1262) (by decide +kernel))) (hs _ (by decide +kernel))).imp fun a h x hx => by (cases hx; exact h)
  | 2 => exact (ls_r (own := "SandProofreader$Script") (k := 77) (tx := "i:r,c") (hts _ (List.mem_of_getElem? (i := 1263) (by decide +kernel))) (hs _ (by decide +kernel))).imp fun a h x hx => by (cases hx; exact h)
  | 3 => exact (ls_r (own := "SandProofreader$Script") (k := 79) (tx := "i") (hts _ (List.mem_of_getElem? (i := 1264) (by decide +kernel))) (hs _ (by decide +kernel))).imp fun a h x hx => by (cases hx; exact h)
  | 4 => exact (ls_r (own := "SandProofreader$Script") (k := 81) (tx := "") (hts _ (List.mem_of_getElem? (i := 1265) (by decide +kernel))) (hs _ (by decide +kernel))).imp fun a h x hx => by (cases hx; exact h)
  | 5 => exact (ls_r (own := "SandProofreader") (k := 72) (tx := "the maximum stride is out of range") (hts _ (List.mem_of_getElem? (i := 557) (by decide +kernel))) (hs _ (by decide +kernel))).imp fun a h x hx => by (cases hx; exact h)
  | 6 => exact (ls_r (own := "SandProofreader") (k := 453) (tx := "the call is rejected") (hts _ (List.mem_of_getElem? (i := 621) (by decide +kernel))) (hs _ (by decide +kernel))).imp fun a h x hx => by (cases hx; exact h)
  | 7 => exact (ls_r (own := "SandProofreader") (k := 427) (tx := "there is no track with this id") (hts _ (List.mem_of_getElem? (i := 685) (by decide +kernel))) (hs _ (by decide +kernel))).imp fun a h x hx => by (cases hx; exact h)
  | 8 => exact (ls_r (own := "SandProofreader") (k := 438) (tx := "the cell is outside the beach") (hts _ (List.mem_of_getElem? (i := 709) (by decide +kernel))) (hs _ (by decide +kernel))).imp fun a h x hx => by (cases hx; exact h)
  | 9 => exact (ls_r (own := "SandProofreader") (k := 110) (tx := "the time or the depth is out of range") (hts _ (List.mem_of_getElem? (i := 716) (by decide +kernel))) (hs _ (by decide +kernel))).imp fun a h x hx => by (cases hx; exact h)
  | 10 => exact (ls_r (own := "SandProofreader") (k := 432) (tx := "there is no print with this id") (hts _ (List.mem_of_getElem? (i := 751) (by decide +kernel))) (hs _ (by decide +kernel))).imp fun a h x hx => by (cases hx; exact h)
  | 11 => exact (ls_r (own := "SandProofreader") (k := 445) (tx := "the level is out of range") (hts _ (List.mem_of_getElem? (i := 826) (by decide +kernel))) (hs _ (by decide +kernel))).imp fun a h x hx => by (cases hx; exact h)
  | 12 => exact (ls_r (own := "SandProofreader") (k := 447) (tx := "there is no such print") (hts _ (List.mem_of_getElem? (i := 919) (by decide +kernel))) (hs _ (by decide +kernel))).imp fun a h x hx => by (cases hx; exact h)
  | 13 => exact (ls_r (own := "SandProofreader") (k := 245) (tx := "the track has fewer than two prints") (hts _ (List.mem_of_getElem? (i := 1062) (by decide +kernel))) (hs _ (by decide +kernel))).imp fun a h x hx => by (cases hx; exact h)
  | 14 => exact (ls_r (own := "SandProofreader") (k := 267) (tx := "there is no such position") (hts _ (List.mem_of_getElem? (i := 1107) (by decide +kernel))) (hs _ (by decide +kernel))).imp fun a h x hx => by (cases hx; exact h)
  | 15 => exact (ls_r (own := "SandProofreader") (k := 440) (tx := "there is no such row") (hts _ (List.mem_of_getElem? (i := 1137) (by decide +kernel))) (hs _ (by decide +kernel))).imp fun a h x hx => by (cases hx; exact h)
  | 16 => exact (ls_r (own := "SandProofreader") (k := 302) (tx := "there are no prints") (hts _ (List.mem_of_getElem? (i := 1153) (by decide +kernel))) (hs _ (by decide +kernel))).imp fun a h x hx => by (cases hx; exact h)
  | 17 => exact (ls_r (own := "SandProofreader") (k := 338) (tx := "there is no character at this index") (hts _ (List.mem_of_getElem? (i := 1207) (by decide +kernel))) (hs _ (by decide +kernel))).imp fun a h x hx => by (cases hx; exact h)
  | 18 => exact (ls_r (own := "SandProofreader") (k := 345) (tx := "the code of the character is out of range") (hts _ (List.mem_of_getElem? (i := 1221) (by decide +kernel))) (hs _ (by decide +kernel))).imp fun a h x hx => by (cases hx; exact h)
  | 19 => exact (ls_r (own := "SandProofreader") (k := 355) (tx := "the input is full") (hts _ (List.mem_of_getElem? (i := 1235) (by decide +kernel))) (hs _ (by decide +kernel))).imp fun a h x hx => by (cases hx; exact h)
  | 20 => exact (ls_r (own := "SandProofreader") (k := 361) (tx := "the input has a syntax error") (hts _ (List.mem_of_getElem? (i := 1330) (by decide +kernel))) (hs _ (by decide +kernel))).imp fun a h x hx => by (cases hx; exact h)
  | 21 => exact (ls_r (own := "SandProofreader") (k := 383) (tx := "a command has an id, a cell or a number unfit for it") (hts _ (List.mem_of_getElem? (i := 1346) (by decide +kernel))) (hs _ (by decide +kernel))).imp fun a h x hx => by (cases hx; exact h)
  | 22 => exact (ls_r (own := "SandProofreader") (k := 397) (tx := "there was no syntax error") (hts _ (List.mem_of_getElem? (i := 1382) (by decide +kernel))) (hs _ (by decide +kernel))).imp fun a h x hx => by (cases hx; exact h)
  | 23 => exact (ls_r (own := "SandProofreader") (k := 449) (tx := "there was no such rejection") (hts _ (List.mem_of_getElem? (i := 1393) (by decide +kernel))) (hs _ (by decide +kernel))).imp fun a h x hx => by (cases hx; exact h)
  | 24 => exact (ls_r (own := "SandProofreader") (k := 413) (tx := "no change can be undone") (hts _ (List.mem_of_getElem? (i := 1422) (by decide +kernel))) (hs _ (by decide +kernel))).imp fun a h x hx => by (cases hx; exact h)
  | 25 => exact (ls_r (own := "SandProofreader") (k := 418) (tx := "there is no snapshot") (hts _ (List.mem_of_getElem? (i := 1437) (by decide +kernel))) (hs _ (by decide +kernel))).imp fun a h x hx => by (cases hx; exact h)
  | i + 26 => exact ⟨0, fun x hx => (ls_none (n := 26) rfl hx).elim⟩
theorem ls_s0 (hgv : (Jvm.Cond.and given_1 narrow_1).before args s = true) {a : Nat} (hR : vk_R "SandProofreader$Script" 73 "d" a s) : ∃ v, lsS a v 1 [100] s := by
  have hs := flat_of_before _ hgv
  exact ls_s hR (by decide) (hs _ (by decide +kernel)) (hs _ (by decide +kernel)) (hs _ (by decide +kernel)) (hs _ (by decide +kernel)) (fun j hj => by
    match j, hj with
    | 0, _ => exact (hs _ (by decide +kernel) : (Cond.eq (.elem (.field (.string "SandProofreader$Script" 73) "java/lang/String" "value" "[B") (.int (Int32.ofNat 0))) (.int 100)).before args s = true)
    | j + 1, hj => omega)
theorem ls_s1 (hgv : (Jvm.Cond.and given_1 narrow_1).before args s = true) {a : Nat} (hR : vk_R "SandProofreader$Script" 75 "i@t:r,cfd" a s) : ∃ v, lsS a v 9 [105, 64, 116, 58, 114, 44, 99, 102, 100] s := by
  have hs := flat_of_before _ hgv
  exact ls_s hR (by decide) (hs _ (by decide +kernel)) (hs _ (by decide +kernel)) (hs _ (by decide +kernel)) (hs _ (by decide +kernel)) (fun j hj => by
    match j, hj with
    | 0, _ => exact (hs _ (by decide +kernel) : (Cond.eq (.elem (.field (.string "SandProofreader$Script" 75) "java/lang/String" "value" "[B") (.int (Int32.ofNat 0))) (.int 105)).before args s = true)
    | 1, _ => exact (hs _ (by decide +kernel) : (Cond.eq (.elem (.field (.string "SandProofreader$Script" 75) "java/lang/String" "value" "[B") (.int (Int32.ofNat 1))) (.int 64)).before args s = true)
    | 2, _ => exact (hs _ (by decide +kernel) : (Cond.eq (.elem (.field (.string "SandProofreader$Script" 75) "java/lang/String" "value" "[B") (.int (Int32.ofNat 2))) (.int 116)).before args s = true)
    | 3, _ => exact (hs _ (by decide +kernel) : (Cond.eq (.elem (.field (.string "SandProofreader$Script" 75) "java/lang/String" "value" "[B") (.int (Int32.ofNat 3))) (.int 58)).before args s = true)
    | 4, _ => exact (hs _ (by decide +kernel) : (Cond.eq (.elem (.field (.string "SandProofreader$Script" 75) "java/lang/String" "value" "[B") (.int (Int32.ofNat 4))) (.int 114)).before args s = true)
    | 5, _ => exact (hs _ (by decide +kernel) : (Cond.eq (.elem (.field (.string "SandProofreader$Script" 75) "java/lang/String" "value" "[B") (.int (Int32.ofNat 5))) (.int 44)).before args s = true)
    | 6, _ => exact (hs _ (by decide +kernel) : (Cond.eq (.elem (.field (.string "SandProofreader$Script" 75) "java/lang/String" "value" "[B") (.int (Int32.ofNat 6))) (.int 99)).before args s = true)
    | 7, _ => exact (hs _ (by decide +kernel) : (Cond.eq (.elem (.field (.string "SandProofreader$Script" 75) "java/lang/String" "value" "[B") (.int (Int32.ofNat 7))) (.int 102)).before args s = true)
    | 8, _ => exact (hs _ (by decide +kernel) : (Cond.eq (.elem (.field (.string "SandProofreader$Script" 75) "java/lang/String" "value" "[B") (.int (Int32.ofNat 8))) (.int 100)).before args s = true)
    | j + 9, hj => omega)
theorem ls_s2 (hgv : (Jvm.Cond.and given_1 narrow_1).before args s = true) {a : Nat} (hR : vk_R "SandProofreader$Script" 77 "i:r,c" a s) : ∃ v, lsS a v 5 [105, 58, 114, 44, 99] s := by
  have hs := flat_of_before _ hgv
  exact ls_s hR (by decide) (hs _ (by decide +kernel)) (hs _ (by decide +kernel)) (hs _ (by decide +kernel)) (hs _ (by decide +kernel)) (fun j hj => by
    match j, hj with
    | 0, _ => exact (hs _ (by decide +kernel) : (Cond.eq (.elem (.field (.string "SandProofreader$Script" 77) "java/lang/String" "value" "[B") (.int (Int32.ofNat 0))) (.int 105)).before args s = true)
    | 1, _ => exact (hs _ (by decide +kernel) : (Cond.eq (.elem (.field (.string "SandProofreader$Script" 77) "java/lang/String" "value" "[B") (.int (Int32.ofNat 1))) (.int 58)).before args s = true)
    | 2, _ => exact (hs _ (by decide +kernel) : (Cond.eq (.elem (.field (.string "SandProofreader$Script" 77) "java/lang/String" "value" "[B") (.int (Int32.ofNat 2))) (.int 114)).before args s = true)
    | 3, _ => exact (hs _ (by decide +kernel) : (Cond.eq (.elem (.field (.string "SandProofreader$Script" 77) "java/lang/String" "value" "[B") (.int (Int32.ofNat 3))) (.int 44)).before args s = true)
    | 4, _ => exact (hs _ (by decide +kernel) : (Cond.eq (.elem (.field (.string "SandProofreader$Script" 77) "java/lang/String" "value" "[B") (.int (Int32.ofNat 4))) (.int 99)).before args s = true)
    | j + 5, hj => omega)
theorem ls_s3 (hgv : (Jvm.Cond.and given_1 narrow_1).before args s = true) {a : Nat} (hR : vk_R "SandProofreader$Script" 79 "i" a s) : ∃ v, lsS a v 1 [105] s := by
  have hs := flat_of_before _ hgv
  exact ls_s hR (by decide) (hs _ (by decide +kernel)) (hs _ (by decide +kernel)) (hs _ (by decide +kernel)) (hs _ (by decide +kernel)) (fun j hj => by
    match j, hj with
    | 0, _ => exact (hs _ (by decide +kernel) : (Cond.eq (.elem (.field (.string "SandProofreader$Script" 79) "java/lang/String" "value" "[B") (.int (Int32.ofNat 0))) (.int 105)).before args s = true)
    | j + 1, hj => omega)
theorem ls_s4 (hgv : (Jvm.Cond.and given_1 narrow_1).before args s = true) {a : Nat} (hR : vk_R "SandProofreader$Script" 81 "" a s) : ∃ v, lsS a v 0 [] s := by
  have hs := flat_of_before _ hgv
  exact ls_s hR (by decide) (hs _ (by decide +kernel)) (hs _ (by decide +kernel)) (hs _ (by decide +kernel)) (hs _ (by decide +kernel)) (fun j hj => absurd hj (Nat.not_lt_zero j))
theorem ls_N (hts : ∀ w ∈ lw_tbl, w.before args s = true) : ∀ (i : Nat) (x : String × Nat × MethodName × String), exN[i]? = some x → va_Nw (.methodLinkNest x.1 x.2.1 x.2.2.1 x.2.2.2) s := fun i x hx => by
  match i, hx with
  | 0, hx => cases hx; exact va_Nw.of rfl (A := args) (hts _ (List.mem_of_getElem? (i := 109) (by decide +kernel)))
  | 1, hx => cases hx; exact va_Nw.of rfl (A := args) (hts _ (List.mem_of_getElem? (i := 135) (by decide +kernel)))
  | 2, hx => cases hx; exact va_Nw.of rfl (A := args) (hts _ (List.mem_of_getElem? (i := 1339) (by decide +kernel)))
  | 3, hx => cases hx; exact va_Nw.of rfl (A := args) (hts _ (List.mem_of_getElem? (i := 1341) (by decide +kernel)))
  | 4, hx => cases hx; exact va_Nw.of rfl (A := args) (hts _ (List.mem_of_getElem? (i := 1342) (by decide +kernel)))
  | 5, hx => cases hx; exact va_Nw.of rfl (A := args) (hts _ (List.mem_of_getElem? (i := 1343) (by decide +kernel)))
  | 6, hx => cases hx; exact va_Nw.of rfl (A := args) (hts _ (List.mem_of_getElem? (i := 1345) (by decide +kernel)))
  | 7, hx => cases hx; exact va_Nw.of rfl (A := args) (hts _ (List.mem_of_getElem? (i := 1093) (by decide +kernel)))
  | 8, hx => cases hx; exact va_Nw.of rfl (A := args) (hts _ (List.mem_of_getElem? (i := 278) (by decide +kernel)))
  | i + 9, hx => exact (ls_none (n := 9) rfl hx).elim
theorem ls_K (hts : ∀ w ∈ lw_tbl, w.before args s = true) : ∀ (i : Nat) (x : String), exK[i]? = some x → va_Nw (.castable x x) s := fun i x hx => by
  match i, hx with
  | 0, hx => cases hx; exact va_Nw.of rfl (A := args) (hts _ (List.mem_of_getElem? (i := 678) (by decide +kernel)))
  | 1, hx => cases hx; exact va_Nw.of rfl (A := args) (hts _ (List.mem_of_getElem? (i := 514) (by decide +kernel)))
  | 2, hx => cases hx; exact va_Nw.of rfl (A := args) (hts _ (List.mem_of_getElem? (i := 614) (by decide +kernel)))
  | 3, hx => cases hx; exact va_Nw.of rfl (A := args) (hts _ (List.mem_of_getElem? (i := 912) (by decide +kernel)))
  | 4, hx => cases hx; exact va_Nw.of rfl (A := args) (hts _ (List.mem_of_getElem? (i := 1055) (by decide +kernel)))
  | 5, hx => cases hx; exact va_Nw.of rfl (A := args) (hts _ (List.mem_of_getElem? (i := 1228) (by decide +kernel)))
  | i + 6, hx => exact (ls_none (n := 6) rfl hx).elim
theorem ls_D (hts : ∀ w ∈ lw_tbl, w.before args s = true) : ∀ (i : Nat) (x : String), exD[i]? = some x → va_Nw (.declares (Bundle.initS x)) s := fun i x hx => by
  match i, hx with
  | 0, hx => cases hx; exact va_Nw.of rfl (A := args) (hts _ (List.mem_of_getElem? (i := 516) (by decide +kernel)))
  | 1, hx => cases hx; exact va_Nw.of rfl (A := args) (hts _ (List.mem_of_getElem? (i := 518) (by decide +kernel)))
  | 2, hx => cases hx; exact va_Nw.of rfl (A := args) (hts _ (List.mem_of_getElem? (i := 520) (by decide +kernel)))
  | i + 3, hx => exact (ls_none (n := 3) rfl hx).elim
theorem ls_NC (hgv : (Jvm.Cond.and given_1 narrow_1).before args s = true) : NC s := fun E F hE hF hne => by
  have hs := flat_of_before _ hgv
  simp only [exK, List.mem_cons, List.not_mem_nil, or_false] at hE hF
  rcases hE with rfl | rfl | rfl | rfl | rfl | rfl <;> rcases hF with rfl | rfl | rfl | rfl | rfl | rfl
  · exact absurd rfl hne
  · exact va_Nc.of (hs _ (by decide +kernel))
  · exact va_Nc.of (hs _ (by decide +kernel))
  · exact va_Nc.of (hs _ (by decide +kernel))
  · exact va_Nc.of (hs _ (by decide +kernel))
  · exact va_Nc.of (hs _ (by decide +kernel))
  · exact va_Nc.of (hs _ (by decide +kernel))
  · exact absurd rfl hne
  · exact va_Nc.of (hs _ (by decide +kernel))
  · exact va_Nc.of (hs _ (by decide +kernel))
  · exact va_Nc.of (hs _ (by decide +kernel))
  · exact va_Nc.of (hs _ (by decide +kernel))
  · exact va_Nc.of (hs _ (by decide +kernel))
  · exact va_Nc.of (hs _ (by decide +kernel))
  · exact absurd rfl hne
  · exact va_Nc.of (hs _ (by decide +kernel))
  · exact va_Nc.of (hs _ (by decide +kernel))
  · exact va_Nc.of (hs _ (by decide +kernel))
  · exact va_Nc.of (hs _ (by decide +kernel))
  · exact va_Nc.of (hs _ (by decide +kernel))
  · exact va_Nc.of (hs _ (by decide +kernel))
  · exact absurd rfl hne
  · exact va_Nc.of (hs _ (by decide +kernel))
  · exact va_Nc.of (hs _ (by decide +kernel))
  · exact va_Nc.of (hs _ (by decide +kernel))
  · exact va_Nc.of (hs _ (by decide +kernel))
  · exact va_Nc.of (hs _ (by decide +kernel))
  · exact va_Nc.of (hs _ (by decide +kernel))
  · exact absurd rfl hne
  · exact va_Nc.of (hs _ (by decide +kernel))
  · exact va_Nc.of (hs _ (by decide +kernel))
  · exact va_Nc.of (hs _ (by decide +kernel))
  · exact va_Nc.of (hs _ (by decide +kernel))
  · exact va_Nc.of (hs _ (by decide +kernel))
  · exact va_Nc.of (hs _ (by decide +kernel))
  · exact absurd rfl hne
end LST
