/-! THE LAW'S START: what the machine holds -/
theorem va_OF_u {o n d : String} {v w : Value} {t : Nat} {A : Nat → Prop} {U : State} {H : Heap} (h1 : va_OF o n d v t A U H) (h2 : va_OF o n d w t A U H) : v = w := by
  obtain ⟨cf, k, i, f, cell, a1, -, a2, -, a3, -⟩ := h1
  obtain ⟨cf', k', i', f', cell', b1, -, b2, -, b3, -⟩ := h2
  have e1 := Option.some.inj (a1.symm.trans b1)
  simp only [Prod.mk.injEq] at e1
  obtain ⟨-, -, -, rfl⟩ := e1
  cases Option.some.inj (a2.symm.trans b2)
  exact Option.some.inj (a3.symm.trans b3)
theorem va_T_u {ty : FieldType} {t N M : Nat} {f g : Nat → Value} {A : Nat → Prop} {U : State} {H : Heap} (h1 : va_T ty t N f A U H) (h2 : va_T ty t M g A U H) : Int32.ofNat N = Int32.ofNat M ∧ ∀ j, j < N → j < M → f j = g j := by
  obtain ⟨cell, a1, -, -, -, a2, a3, -⟩ := h1
  obtain ⟨cell', b1, -, -, -, b2, b3, -⟩ := h2
  cases Option.some.inj (a1.symm.trans b1)
  exact ⟨a2.symm.trans b2, fun j h1 h2 => Option.some.inj ((a3 j h1).symm.trans (b3 j h2))⟩
section LST
variable {args : Array Value} {s : State}
theorem ls_r {own tx : String} {k : Nat} (h1 : (Cond.stringRef own k tx).before args s = true) (h2 : (Cond.exactly (.string own k) "java/lang/String").before args s = true) : ∃ a, vk_R own k tx a s := by
  obtain ⟨a, c, cA, kA, q1, -⟩ := Cond.exactly_spec (args := args) (first := s) (o := none) (s := s) (idx := []) (t := .string own k) (cls := "java/lang/String") h2
  exact ⟨a, vk_R.of h1 q1⟩
def lsS (a v len : Nat) (byt : List Int32) (s : State) : Prop := va_O "java/lang/String" a (fun q => s.heap.size ≤ q) s s.heap ∧ va_OF "java/lang/String" "coder" "B" (.int 0) a (fun q => s.heap.size ≤ q) s s.heap ∧ va_OF "java/lang/String" "value" "[B" (.ref v) a (fun q => s.heap.size ≤ q) s s.heap ∧ va_T .byte v len (fun j => .int (byt.getD j 0)) (fun q => s.heap.size ≤ q) s s.heap
theorem ls_s {own tx : String} {k a len : Nat} {byt : List Int32} (hR : vk_R own k tx a s) (hl : len < 2 ^ 31) (hex : (Cond.exactly (.string own k) "java/lang/String").before args s = true) (hco : (Cond.eq (.field (.string own k) "java/lang/String" "coder" "B") (.int 0)).before args s = true) (har : (Cond.arrayOf (.field (.string own k) "java/lang/String" "value" "[B") .byte).before args s = true) (hle : (Cond.eq (.length (.field (.string own k) "java/lang/String" "value" "[B")) (.int (Int32.ofNat len))).before args s = true)
    (hel : ∀ j : Nat, j < len → (Cond.eq (.elem (.field (.string own k) "java/lang/String" "value" "[B") (.int (Int32.ofNat j))) (.int (byt.getD j 0))).before args s = true) : ∃ v, lsS a v len byt s := by
  obtain ⟨adK, adV, ⟨h1, -⟩, h2⟩ := vk_Sof (args := args) (s := s) (N := 1) (tm := fun _ => .string own k) (len := [len]) (byt := [byt]) (A := fun q => s.heap.size ≤ q) (fun i hi => by rcases (show i = 0 by omega) with rfl; exact hl) (fun i hi => hex) (fun i hi => hco) (fun i hi => har) (fun i hi => by rcases (show i = 0 by omega) with rfl; exact hle) (fun i hi j hj => by rcases (show i = 0 by omega) with rfl; exact hel j hj) (fun i j hi hj h => absurd (show i = j by omega) h) (fun a h => Nat.not_le.mpr h)
  have e : adK 0 = a := by
    have h3 := vk_R.of hR.1 (h2 0 (by decide))
    have h4 := h3.2.symm.trans hR.2
    cases h4; rfl
  have h5 := h1 0 (by decide)
  rw [e] at h5
  exact ⟨adV 0, h5⟩
theorem ls_ne {a b v w n m : Nat} {x y : List Int32} (h1 : lsS a v n x s) (h2 : lsS b w m y s) (h : Int32.ofNat n ≠ Int32.ofNat m ∨ (0 < n ∧ 0 < m ∧ x.getD 0 0 ≠ y.getD 0 0)) : a ≠ b := fun e => by
  subst e
  have e2 := va_OF_u h1.2.2.1 h2.2.2.1
  cases e2
  obtain ⟨e3, e4⟩ := va_T_u h1.2.2.2 h2.2.2.2
  rcases h with h | ⟨q1, q2, h⟩
  · exact h e3
  · have := e4 0 q1 q2
    cases (Value.int.inj this : x.getD 0 0 = y.getD 0 0) ▸ h rfl
theorem ls_R (hts : ∀ w ∈ lw_tbl, w.before args s = true) (hgv : (Jvm.Cond.and given_1 narrow_1).before args s = true) : ∀ i : Nat, ∃ a : Nat, ∀ x, exT[i]? = some x → vk_R x.1 x.2.1 x.2.2 a s := by
  have hs := flat_of_before _ hgv
  intro i
  match i with
  | 0 => exact (ls_r (own := "SandProofreader$Script") (k := 73) (tx := "d") (hts _ (List.mem_of_getElem? (i := 1261) (by decide +kernel))) (hs _ (by decide +kernel))).imp fun a h x hx => by (cases hx; exact h)
  | 1 => exact (ls_r (own := "SandProofreader$Script") (k := 75) (tx := "i@t:r,cfd") (hts _ (List.mem_of_getElem? (i := 1262) (by decide +kernel))) (hs _ (by decide +kernel))).imp fun a h x hx => by (cases hx; exact h)
  | 2 => exact (ls_r (own := "SandProofreader$Script") (k := 77) (tx := "i:r,c") (hts _ (List.mem_of_getElem? (i := 1263) (by decide +kernel))) (hs _ (by decide +kernel))).imp fun a h x hx => by (cases hx; exact h)
  | 3 => exact (ls_r (own := "SandProofreader$Script") (k := 79) (tx := "i") (hts _ (List.mem_of_getElem? (i := 1264) (by decide +kernel))) (hs _ (by decide +kernel))).imp fun a h x hx => by (cases hx; exact h)
  | 4 => exact (ls_r (own := "SandProofreader$Script") (k := 81) (tx := "") (hts _ (List.mem_of_getElem? (i := 1265) (by decide +kernel))) (hs _ (by decide +kernel))).imp fun a h x hx => by (cases hx; exact h)
  | 5 => exact (ls_r (own := "SandProofreader") (k := 72) (tx := "the maximum stride is out of range") (hts _ (List.mem_of_getElem? (i := 557) (by decide +kernel))) (hs _ (by decide +kernel))).imp fun a h x hx => by (cases hx; exact h)
  | 6 => exact (ls_r (own := "SandProofreader") (k := 453) (tx := "the call is rejected") (hts _ (List.mem_of_getElem? (i := 621) (by decide +kernel))) (hs _ (by decide +kernel))).imp fun a h x hx => by (cases hx; exact h)
  | 7 => exact (ls_r (own := "SandProofreader") (k := 427) (tx := "there is no track with this id") (hts _ (List.mem_of_getElem? (i := 685) (by decide +kernel))) (hs _ (by decide +kernel))).imp fun a h x hx => by (cases hx; exact h)
  | 8 => exact (ls_r (own := "SandProofreader") (k := 438) (tx := "the cell is outside the beach") (hts _ (List.mem_of_getElem? (i := 709) (by decide +kernel))) (hs _ (by decide +kernel))).imp fun a h x hx => by (cases hx; exact h)
  | 9 => exact (ls_r (own := "SandProofreader") (k := 110) (tx := "the time or the depth is out of range") (hts _ (List.mem_of_getElem? (i := 716) (by decide +kernel))) (hs _ (by decide +kernel))).imp fun a h x hx => by (cases hx; exact h)
  | 10 => exact (ls_r (own := "SandProofreader") (k := 432) (tx := "there is no print with this id") (hts _ (List.mem_of_getElem? (i := 751) (by decide +kernel))) (hs _ (by decide +kernel))).imp fun a h x hx => by (cases hx; exact h)
  | 11 => exact (ls_r (own := "SandProofreader") (k := 445) (tx := "the level is out of range") (hts _ (List.mem_of_getElem? (i := 826) (by decide +kernel))) (hs _ (by decide +kernel))).imp fun a h x hx => by (cases hx; exact h)
  | 12 => exact (ls_r (own := "SandProofreader") (k := 447) (tx := "there is no such print") (hts _ (List.mem_of_getElem? (i := 919) (by decide +kernel))) (hs _ (by decide +kernel))).imp fun a h x hx => by (cases hx; exact h)
  | 13 => exact (ls_r (own := "SandProofreader") (k := 245) (tx := "the track has fewer than two prints") (hts _ (List.mem_of_getElem? (i := 1062) (by decide +kernel))) (hs _ (by decide +kernel))).imp fun a h x hx => by (cases hx; exact h)
  | 14 => exact (ls_r (own := "SandProofreader") (k := 267) (tx := "there is no such position") (hts _ (List.mem_of_getElem? (i := 1107) (by decide +kernel))) (hs _ (by decide +kernel))).imp fun a h x hx => by (cases hx; exact h)
  | 15 => exact (ls_r (own := "SandProofreader") (k := 440) (tx := "there is no such row") (hts _ (List.mem_of_getElem? (i := 1137) (by decide +kernel))) (hs _ (by decide +kernel))).imp fun a h x hx => by (cases hx; exact h)
  | 16 => exact (ls_r (own := "SandProofreader") (k := 302) (tx := "there are no prints") (hts _ (List.mem_of_getElem? (i := 1153) (by decide +kernel))) (hs _ (by decide +kernel))).imp fun a h x hx => by (cases hx; exact h)
  | 17 => exact (ls_r (own := "SandProofreader") (k := 338) (tx := "there is no character at this index") (hts _ (List.mem_of_getElem? (i := 1207) (by decide +kernel))) (hs _ (by decide +kernel))).imp fun a h x hx => by (cases hx; exact h)
  | 18 => exact (ls_r (own := "SandProofreader") (k := 345) (tx := "the code of the character is out of range") (hts _ (List.mem_of_getElem? (i := 1221) (by decide +kernel))) (hs _ (by decide +kernel))).imp fun a h x hx => by (cases hx; exact h)
  | 19 => exact (ls_r (own := "SandProofreader") (k := 355) (tx := "the input is full") (hts _ (List.mem_of_getElem? (i := 1235) (by decide +kernel))) (hs _ (by decide +kernel))).imp fun a h x hx => by (cases hx; exact h)
  | 20 => exact (ls_r (own := "SandProofreader") (k := 361) (tx := "the input has a syntax error") (hts _ (List.mem_of_getElem? (i := 1330) (by decide +kernel))) (hs _ (by decide +kernel))).imp fun a h x hx => by (cases hx; exact h)
  | 21 => exact (ls_r (own := "SandProofreader") (k := 383) (tx := "a command has an id, a cell or a number unfit for it") (hts _ (List.mem_of_getElem? (i := 1346) (by decide +kernel))) (hs _ (by decide +kernel))).imp fun a h x hx => by (cases hx; exact h)
  | 22 => exact (ls_r (own := "SandProofreader") (k := 397) (tx := "there was no syntax error") (hts _ (List.mem_of_getElem? (i := 1382) (by decide +kernel))) (hs _ (by decide +kernel))).imp fun a h x hx => by (cases hx; exact h)
  | 23 => exact (ls_r (own := "SandProofreader") (k := 449) (tx := "there was no such rejection") (hts _ (List.mem_of_getElem? (i := 1393) (by decide +kernel))) (hs _ (by decide +kernel))).imp fun a h x hx => by (cases hx; exact h)
  | 24 => exact (ls_r (own := "SandProofreader") (k := 413) (tx := "no change can be undone") (hts _ (List.mem_of_getElem? (i := 1422) (by decide +kernel))) (hs _ (by decide +kernel))).imp fun a h x hx => by (cases hx; exact h)
  | 25 => exact (ls_r (own := "SandProofreader") (k := 418) (tx := "there is no snapshot") (hts _ (List.mem_of_getElem? (i := 1437) (by decide +kernel))) (hs _ (by decide +kernel))).imp fun a h x hx => by (cases hx; exact h)
  | i + 26 => exact ⟨0, fun x hx => by simp [exT] at hx⟩
theorem ls_s0 (hgv : (Jvm.Cond.and given_1 narrow_1).before args s = true) {a : Nat} (hR : vk_R "SandProofreader$Script" 73 "d" a s) : ∃ v, lsS a v 1 [100] s := by
  have hs := flat_of_before _ hgv
  exact ls_s hR (by decide) (hs _ (by decide +kernel)) (hs _ (by decide +kernel)) (hs _ (by decide +kernel)) (hs _ (by decide +kernel)) (fun j hj => by
    match j, hj with
    | 0, _ => exact (hs _ (by decide +kernel) : (Cond.eq (.elem (.field (.string "SandProofreader$Script" 73) "java/lang/String" "value" "[B") (.int (Int32.ofNat 0))) (.int 100)).before args s = true)
    | j + 1, hj => omega)
theorem ls_s1 (hgv : (Jvm.Cond.and given_1 narrow_1).before args s = true) {a : Nat} (hR : vk_R "SandProofreader$Script" 75 "i@t:r,cfd" a s) : ∃ v, lsS a v 9 [105, 64, 116, 58, 114, 44, 99, 102, 100] s := by
  have hs := flat_of_before _ hgv
  exact ls_s hR (by decide) (hs _ (by decide +kernel)) (hs _ (by decide +kernel)) (hs _ (by decide +kernel)) (hs _ (by decide +kernel)) (fun j hj => by
    match j, hj with
    | 0, _ => exact (hs _ (by decide +kernel) : (Cond.eq (.elem (.field (.string "SandProofreader$Script" 75) "java/lang/String" "value" "[B") (.int (Int32.ofNat 0))) (.int 105)).before args s = true)
    | 1, _ => exact (hs _ (by decide +kernel) : (Cond.eq (.elem (.field (.string "SandProofreader$Script" 75) "java/lang/String" "value" "[B") (.int (Int32.ofNat 1))) (.int 64)).before args s = true)
    | 2, _ => exact (hs _ (by decide +kernel) : (Cond.eq (.elem (.field (.string "SandProofreader$Script" 75) "java/lang/String" "value" "[B") (.int (Int32.ofNat 2))) (.int 116)).before args s = true)
    | 3, _ => exact (hs _ (by decide +kernel) : (Cond.eq (.elem (.field (.string "SandProofreader$Script" 75) "java/lang/String" "value" "[B") (.int (Int32.ofNat 3))) (.int 58)).before args s = true)
    | 4, _ => exact (hs _ (by decide +kernel) : (Cond.eq (.elem (.field (.string "SandProofreader$Script" 75) "java/lang/String" "value" "[B") (.int (Int32.ofNat 4))) (.int 114)).before args s = true)
    | 5, _ => exact (hs _ (by decide +kernel) : (Cond.eq (.elem (.field (.string "SandProofreader$Script" 75) "java/lang/String" "value" "[B") (.int (Int32.ofNat 5))) (.int 44)).before args s = true)
    | 6, _ => exact (hs _ (by decide +kernel) : (Cond.eq (.elem (.field (.string "SandProofreader$Script" 75) "java/lang/String" "value" "[B") (.int (Int32.ofNat 6))) (.int 99)).before args s = true)
    | 7, _ => exact (hs _ (by decide +kernel) : (Cond.eq (.elem (.field (.string "SandProofreader$Script" 75) "java/lang/String" "value" "[B") (.int (Int32.ofNat 7))) (.int 102)).before args s = true)
    | 8, _ => exact (hs _ (by decide +kernel) : (Cond.eq (.elem (.field (.string "SandProofreader$Script" 75) "java/lang/String" "value" "[B") (.int (Int32.ofNat 8))) (.int 100)).before args s = true)
    | j + 9, hj => omega)
theorem ls_s2 (hgv : (Jvm.Cond.and given_1 narrow_1).before args s = true) {a : Nat} (hR : vk_R "SandProofreader$Script" 77 "i:r,c" a s) : ∃ v, lsS a v 5 [105, 58, 114, 44, 99] s := by
  have hs := flat_of_before _ hgv
  exact ls_s hR (by decide) (hs _ (by decide +kernel)) (hs _ (by decide +kernel)) (hs _ (by decide +kernel)) (hs _ (by decide +kernel)) (fun j hj => by
    match j, hj with
    | 0, _ => exact (hs _ (by decide +kernel) : (Cond.eq (.elem (.field (.string "SandProofreader$Script" 77) "java/lang/String" "value" "[B") (.int (Int32.ofNat 0))) (.int 105)).before args s = true)
    | 1, _ => exact (hs _ (by decide +kernel) : (Cond.eq (.elem (.field (.string "SandProofreader$Script" 77) "java/lang/String" "value" "[B") (.int (Int32.ofNat 1))) (.int 58)).before args s = true)
    | 2, _ => exact (hs _ (by decide +kernel) : (Cond.eq (.elem (.field (.string "SandProofreader$Script" 77) "java/lang/String" "value" "[B") (.int (Int32.ofNat 2))) (.int 114)).before args s = true)
    | 3, _ => exact (hs _ (by decide +kernel) : (Cond.eq (.elem (.field (.string "SandProofreader$Script" 77) "java/lang/String" "value" "[B") (.int (Int32.ofNat 3))) (.int 44)).before args s = true)
    | 4, _ => exact (hs _ (by decide +kernel) : (Cond.eq (.elem (.field (.string "SandProofreader$Script" 77) "java/lang/String" "value" "[B") (.int (Int32.ofNat 4))) (.int 99)).before args s = true)
    | j + 5, hj => omega)
theorem ls_s3 (hgv : (Jvm.Cond.and given_1 narrow_1).before args s = true) {a : Nat} (hR : vk_R "SandProofreader$Script" 79 "i" a s) : ∃ v, lsS a v 1 [105] s := by
  have hs := flat_of_before _ hgv
  exact ls_s hR (by decide) (hs _ (by decide +kernel)) (hs _ (by decide +kernel)) (hs _ (by decide +kernel)) (hs _ (by decide +kernel)) (fun j hj => by
    match j, hj with
    | 0, _ => exact (hs _ (by decide +kernel) : (Cond.eq (.elem (.field (.string "SandProofreader$Script" 79) "java/lang/String" "value" "[B") (.int (Int32.ofNat 0))) (.int 105)).before args s = true)
    | j + 1, hj => omega)
theorem ls_s4 (hgv : (Jvm.Cond.and given_1 narrow_1).before args s = true) {a : Nat} (hR : vk_R "SandProofreader$Script" 81 "" a s) : ∃ v, lsS a v 0 [] s := by
  have hs := flat_of_before _ hgv
  exact ls_s hR (by decide) (hs _ (by decide +kernel)) (hs _ (by decide +kernel)) (hs _ (by decide +kernel)) (hs _ (by decide +kernel)) (fun j hj => absurd hj (Nat.not_lt_zero j))
theorem ls_N (hts : ∀ w ∈ lw_tbl, w.before args s = true) : ∀ (i : Nat) (x : String × Nat × MethodName × String), exN[i]? = some x → va_Nw (.methodLinkNest x.1 x.2.1 x.2.2.1 x.2.2.2) s := fun i x hx => by
  match i, hx with
  | 0, hx => cases hx; exact va_Nw.of rfl (A := args) (hts _ (List.mem_of_getElem? (i := 109) (by decide +kernel)))
  | 1, hx => cases hx; exact va_Nw.of rfl (A := args) (hts _ (List.mem_of_getElem? (i := 135) (by decide +kernel)))
  | 2, hx => cases hx; exact va_Nw.of rfl (A := args) (hts _ (List.mem_of_getElem? (i := 1339) (by decide +kernel)))
  | 3, hx => cases hx; exact va_Nw.of rfl (A := args) (hts _ (List.mem_of_getElem? (i := 1341) (by decide +kernel)))
  | 4, hx => cases hx; exact va_Nw.of rfl (A := args) (hts _ (List.mem_of_getElem? (i := 1342) (by decide +kernel)))
  | 5, hx => cases hx; exact va_Nw.of rfl (A := args) (hts _ (List.mem_of_getElem? (i := 1343) (by decide +kernel)))
  | 6, hx => cases hx; exact va_Nw.of rfl (A := args) (hts _ (List.mem_of_getElem? (i := 1345) (by decide +kernel)))
  | 7, hx => cases hx; exact va_Nw.of rfl (A := args) (hts _ (List.mem_of_getElem? (i := 1093) (by decide +kernel)))
  | 8, hx => cases hx; exact va_Nw.of rfl (A := args) (hts _ (List.mem_of_getElem? (i := 278) (by decide +kernel)))
  | i + 9, hx => simp [exN] at hx
theorem ls_K (hts : ∀ w ∈ lw_tbl, w.before args s = true) : ∀ (i : Nat) (x : String), exK[i]? = some x → va_Nw (.castable x x) s := fun i x hx => by
  match i, hx with
  | 0, hx => cases hx; exact va_Nw.of rfl (A := args) (hts _ (List.mem_of_getElem? (i := 678) (by decide +kernel)))
  | 1, hx => cases hx; exact va_Nw.of rfl (A := args) (hts _ (List.mem_of_getElem? (i := 514) (by decide +kernel)))
  | 2, hx => cases hx; exact va_Nw.of rfl (A := args) (hts _ (List.mem_of_getElem? (i := 614) (by decide +kernel)))
  | 3, hx => cases hx; exact va_Nw.of rfl (A := args) (hts _ (List.mem_of_getElem? (i := 912) (by decide +kernel)))
  | 4, hx => cases hx; exact va_Nw.of rfl (A := args) (hts _ (List.mem_of_getElem? (i := 1055) (by decide +kernel)))
  | 5, hx => cases hx; exact va_Nw.of rfl (A := args) (hts _ (List.mem_of_getElem? (i := 1228) (by decide +kernel)))
  | i + 6, hx => simp [exK] at hx
theorem ls_D (hts : ∀ w ∈ lw_tbl, w.before args s = true) : ∀ (i : Nat) (x : String), exD[i]? = some x → va_Nw (.declares (Bundle.initS x)) s := fun i x hx => by
  match i, hx with
  | 0, hx => cases hx; exact va_Nw.of rfl (A := args) (hts _ (List.mem_of_getElem? (i := 516) (by decide +kernel)))
  | 1, hx => cases hx; exact va_Nw.of rfl (A := args) (hts _ (List.mem_of_getElem? (i := 518) (by decide +kernel)))
  | 2, hx => cases hx; exact va_Nw.of rfl (A := args) (hts _ (List.mem_of_getElem? (i := 520) (by decide +kernel)))
  | i + 3, hx => simp [exD] at hx
theorem ls_NC (hgv : (Jvm.Cond.and given_1 narrow_1).before args s = true) : NC s := fun E F hE hF hne => by
  have hs := flat_of_before _ hgv
  simp only [exK, List.mem_cons, List.not_mem_nil, or_false] at hE hF
  rcases hE with rfl | rfl | rfl | rfl | rfl | rfl <;> rcases hF with rfl | rfl | rfl | rfl | rfl | rfl
  · exact absurd rfl hne
  · exact va_Nc.of (hs _ (by decide +kernel))
  · exact va_Nc.of (hs _ (by decide +kernel))
  · exact va_Nc.of (hs _ (by decide +kernel))
  · exact va_Nc.of (hs _ (by decide +kernel))
  · exact va_Nc.of (hs _ (by decide +kernel))
  · exact va_Nc.of (hs _ (by decide +kernel))
  · exact absurd rfl hne
  · exact va_Nc.of (hs _ (by decide +kernel))
  · exact va_Nc.of (hs _ (by decide +kernel))
  · exact va_Nc.of (hs _ (by decide +kernel))
  · exact va_Nc.of (hs _ (by decide +kernel))
  · exact va_Nc.of (hs _ (by decide +kernel))
  · exact va_Nc.of (hs _ (by decide +kernel))
  · exact absurd rfl hne
  · exact va_Nc.of (hs _ (by decide +kernel))
  · exact va_Nc.of (hs _ (by decide +kernel))
  · exact va_Nc.of (hs _ (by decide +kernel))
  · exact va_Nc.of (hs _ (by decide +kernel))
  · exact va_Nc.of (hs _ (by decide +kernel))
  · exact va_Nc.of (hs _ (by decide +kernel))
  · exact absurd rfl hne
  · exact va_Nc.of (hs _ (by decide +kernel))
  · exact va_Nc.of (hs _ (by decide +kernel))
  · exact va_Nc.of (hs _ (by decide +kernel))
  · exact va_Nc.of (hs _ (by decide +kernel))
  · exact va_Nc.of (hs _ (by decide +kernel))
  · exact va_Nc.of (hs _ (by decide +kernel))
  · exact absurd rfl hne
  · exact va_Nc.of (hs _ (by decide +kernel))
  · exact va_Nc.of (hs _ (by decide +kernel))
  · exact va_Nc.of (hs _ (by decide +kernel))
  · exact va_Nc.of (hs _ (by decide +kernel))
  · exact va_Nc.of (hs _ (by decide +kernel))
  · exact va_Nc.of (hs _ (by decide +kernel))
  · exact absurd rfl hne
theorem ls_EX (hts : ∀ w ∈ lw_tbl, w.before args s = true) (hgv : (Jvm.Cond.and given_1 narrow_1).before args s = true) : ∃ xq : Nat → Nat, EX xq (fun q => s.heap.size ≤ q) s s.heap := by
  have hs := flat_of_before _ hgv
  obtain ⟨q0, hq0⟩ := Classical.axiomOfChoice (ls_R hts hgv)
  obtain ⟨v0, hv0⟩ := ls_s0 hgv (hq0 0 _ rfl)
  obtain ⟨v1, hv1⟩ := ls_s1 hgv (hq0 1 _ rfl)
  obtain ⟨v2, hv2⟩ := ls_s2 hgv (hq0 2 _ rfl)
  obtain ⟨v3, hv3⟩ := ls_s3 hgv (hq0 3 _ rfl)
  obtain ⟨v4, hv4⟩ := ls_s4 hgv (hq0 4 _ rfl)
  have hA : ∀ a : Nat, a < s.heap.size → ¬ (fun q => s.heap.size ≤ q) a := fun a h => Nat.not_le.mpr h
  refine ⟨fun k => if k < 100 then q0 k else if k = 100 then v0 else if k = 101 then v1 else if k = 102 then v2 else if k = 103 then v3 else v4, ls_N hts, fun i x hx => ?_, vx_Zqof (hts _ (List.mem_of_getElem? (i := 539) (by decide +kernel))) (hts _ (List.mem_of_getElem? (i := 76) (by decide +kernel))) (hs _ (by decide +kernel)) hA, vx_Zqof (hts _ (List.mem_of_getElem? (i := 541) (by decide +kernel))) (hts _ (List.mem_of_getElem? (i := 76) (by decide +kernel))) (hs _ (by decide +kernel)) hA, ⟨fun i hi => ?_, fun i j hi hj he => ?_⟩, va_Zof (hts _ (List.mem_of_getElem? (i := 1279) (by decide +kernel))) (hts _ (List.mem_of_getElem? (i := 85) (by decide +kernel))) (va_eqt (hs _ (by decide +kernel))) hA, va_Zqof (hts _ (List.mem_of_getElem? (i := 1295) (by decide +kernel))) (hts _ (List.mem_of_getElem? (i := 90) (by decide +kernel))) (hs _ (by decide +kernel)) hA, ls_K hts, ls_D hts⟩
  · have hi : i < 100 := by
      have := (List.getElem?_eq_some_iff.mp hx).1
      have h2 : exT.length = 26 := by decide
      omega
    show vk_R x.1 x.2.1 x.2.2 (if i < 100 then q0 i else _) s
    rw [if_pos hi]; exact hq0 i x hx
  · rcases (show i = 0 ∨ i = 1 ∨ i = 2 ∨ i = 3 ∨ i = 4 by omega) with rfl | rfl | rfl | rfl | rfl
    · exact hv0
    · exact hv1
    · exact hv2
    · exact hv3
    · exact hv4
  · rcases (show i = 0 ∨ i = 1 ∨ i = 2 ∨ i = 3 ∨ i = 4 by omega) with rfl | rfl | rfl | rfl | rfl <;> rcases (show j = 0 ∨ j = 1 ∨ j = 2 ∨ j = 3 ∨ j = 4 by omega) with rfl | rfl | rfl | rfl | rfl
    · rfl
    · exact absurd he (ls_ne hv0 hv1 (Or.inl (by decide)))
    · exact absurd he (ls_ne hv0 hv2 (Or.inl (by decide)))
    · exact absurd he (ls_ne hv0 hv3 (Or.inr ⟨by decide, by decide, by decide⟩))
    · exact absurd he (ls_ne hv0 hv4 (Or.inl (by decide)))
    · exact absurd he (ls_ne hv1 hv0 (Or.inl (by decide)))
    · rfl
    · exact absurd he (ls_ne hv1 hv2 (Or.inl (by decide)))
    · exact absurd he (ls_ne hv1 hv3 (Or.inl (by decide)))
    · exact absurd he (ls_ne hv1 hv4 (Or.inl (by decide)))
    · exact absurd he (ls_ne hv2 hv0 (Or.inl (by decide)))
    · exact absurd he (ls_ne hv2 hv1 (Or.inl (by decide)))
    · rfl
    · exact absurd he (ls_ne hv2 hv3 (Or.inl (by decide)))
    · exact absurd he (ls_ne hv2 hv4 (Or.inl (by decide)))
    · exact absurd he (ls_ne hv3 hv0 (Or.inr ⟨by decide, by decide, by decide⟩))
    · exact absurd he (ls_ne hv3 hv1 (Or.inl (by decide)))
    · exact absurd he (ls_ne hv3 hv2 (Or.inl (by decide)))
    · rfl
    · exact absurd he (ls_ne hv3 hv4 (Or.inl (by decide)))
    · exact absurd he (ls_ne hv4 hv0 (Or.inl (by decide)))
    · exact absurd he (ls_ne hv4 hv1 (Or.inl (by decide)))
    · exact absurd he (ls_ne hv4 hv2 (Or.inl (by decide)))
    · exact absurd he (ls_ne hv4 hv3 (Or.inl (by decide)))
    · rfl
theorem ls_pa {ty : FieldType} (h : (Cond.arrayClass ty).before args s = true) : ∃ cA, ArrOfT s cA ty ∧ s.vm.findClass ("[" ++ ty.toString) = some cA := by
  obtain ⟨c, k, comp, h1, h2, h3⟩ := Cond.arrayClass_spec (args := args) (first := s) (o := none) (s := s) (idx := []) h
  exact ⟨c, fun n z => ⟨fun k h => (by cases h), k, h2, comp, h3⟩, h1⟩
theorem ls_oa {C : String} (h : (Cond.arrayOver (.object C)).before args s = true) : ∃ cA, ArrOfT s cA (.object C) ∧ va_RA s cA (.object C) := by
  obtain ⟨comp, c, k, h1, h2, h3, h4, h5⟩ := Cond.arrayOver_spec (args := args) (first := s) (o := none) (s := s) (idx := []) h
  exact ⟨c, fun n z => ⟨fun k h => (by cases h), k, h3, comp, h4⟩, k, comp, h3, h4, h1, h5⟩
theorem ls_C (hts : ∀ w ∈ lw_tbl, w.before args s = true) : ∃ (dC : Nat → ClassId) (dI : Nat → Nat → Nat), ∀ (k : Nat) (q : vw_C), vwCl[k]? = some q → u_Kn s q.1 q.2.1 q.2.2 (dC k) (dI k) := by
  obtain ⟨c0, iS0, h0⟩ := u_known (C := RJ0) (T := TJ0) (N := 2) (n := 4) hts inJ0 (hts _ (List.mem_of_getElem? (i := 662) (by decide +kernel)))
  obtain ⟨c1, iS1, h1⟩ := u_known (C := RJx00060) (T := TJx00060) (N := 6) (n := 6) hts inJx00060 (hts _ (List.mem_of_getElem? (i := 644) (by decide +kernel)))
  obtain ⟨c2, iS2, h2⟩ := u_known (C := RX0) (T := TX0) (N := 7) (n := 7) hts inX0 (hts _ (List.mem_of_getElem? (i := 101) (by decide +kernel)))
  obtain ⟨c3, iS3, h3⟩ := u_known (C := RX1) (T := TX1) (N := 7) (n := 7) hts inX1 (hts _ (List.mem_of_getElem? (i := 277) (by decide +kernel)))
  obtain ⟨c4, iS4, h4⟩ := u_known (C := RX2) (T := TX2) (N := 2) (n := 2) hts inX2 (hts _ (List.mem_of_getElem? (i := 237) (by decide +kernel)))
  obtain ⟨c5, iS5, h5⟩ := u_known (C := RX3) (T := TX3) (N := 10) (n := 10) hts inX3 (hts _ (List.mem_of_getElem? (i := 134) (by decide +kernel)))
  obtain ⟨c6, iS6, h6⟩ := u_known (C := RX4) (T := TX4) (N := 1) (n := 1) hts inX4 (hts _ (List.mem_of_getElem? (i := 227) (by decide +kernel)))
  obtain ⟨c7, iS7, h7⟩ := u_known (C := RX5) (T := TX5) (N := 3) (n := 3) hts inX5 (hts _ (List.mem_of_getElem? (i := 590) (by decide +kernel)))
  obtain ⟨c8, iS8, h8⟩ := u_known (C := RX6) (T := TX6) (N := 5) (n := 5) hts inX6 (hts _ (List.mem_of_getElem? (i := 254) (by decide +kernel)))
  obtain ⟨c9, iS9, h9⟩ := u_known (C := RX7) (T := TX7) (N := 2) (n := 2) hts inX7 (hts _ (List.mem_of_getElem? (i := 260) (by decide +kernel)))
  obtain ⟨c10, iS10, h10⟩ := u_known (C := RX8) (T := TX8) (N := 3) (n := 3) hts inX8 (hts _ (List.mem_of_getElem? (i := 108) (by decide +kernel)))
  obtain ⟨c11, iS11, h11⟩ := u_known (C := RX9) (T := TX9) (N := 10) (n := 10) hts inX9 (hts _ (List.mem_of_getElem? (i := 93) (by decide +kernel)))
  obtain ⟨c12, iS12, h12⟩ := u_known (C := RX10) (T := TX10) (N := 18) (n := 18) hts inX10 (hts _ (List.mem_of_getElem? (i := 1443) (by decide +kernel)))
  refine ⟨fun k => if k = 0 then c0 else if k = 1 then c1 else if k = 2 then c2 else if k = 3 then c3 else if k = 4 then c4 else if k = 5 then c5 else if k = 6 then c6 else if k = 7 then c7 else if k = 8 then c8 else if k = 9 then c9 else if k = 10 then c10 else if k = 11 then c11 else c12, fun k => if k = 0 then iS0 else if k = 1 then iS1 else if k = 2 then iS2 else if k = 3 then iS3 else if k = 4 then iS4 else if k = 5 then iS5 else if k = 6 then iS6 else if k = 7 then iS7 else if k = 8 then iS8 else if k = 9 then iS9 else if k = 10 then iS10 else if k = 11 then iS11 else iS12, fun k q hq => ?_⟩
  match k, hq with
  | 0, hq => cases hq; exact h0
  | 1, hq => cases hq; exact h1
  | 2, hq => cases hq; exact h2
  | 3, hq => cases hq; exact h3
  | 4, hq => cases hq; exact h4
  | 5, hq => cases hq; exact h5
  | 6, hq => cases hq; exact h6
  | 7, hq => cases hq; exact h7
  | 8, hq => cases hq; exact h8
  | 9, hq => cases hq; exact h9
  | 10, hq => cases hq; exact h10
  | 11, hq => cases hq; exact h11
  | 12, hq => cases hq; exact h12
  | k + 13, hq => simp [vwCl] at hq
theorem ls_A (hts : ∀ w ∈ lw_tbl, w.before args s = true) {D : va_G} (hC : ∀ (k : Nat) (q : vw_C), vwCl[k]? = some q → u_Kn s q.1 q.2.1 q.2.2 (D.1 k) (D.2 k)) : ∃ cy : Nat → ClassId, va_K D vwCl (tyG cy) s := by
  obtain ⟨a0, p0, r0⟩ := ls_pa (ty := .char) (hts _ (List.mem_of_getElem? (i := 274) (by decide +kernel)))
  obtain ⟨a1, p1, r1⟩ := ls_pa (ty := .int) (hts _ (List.mem_of_getElem? (i := 1503) (by decide +kernel)))
  obtain ⟨a2, p2, r2⟩ := ls_oa (C := "SandProofreader$Beach") (hts _ (List.mem_of_getElem? (i := 243) (by decide +kernel)))
  obtain ⟨a3, p3, r3⟩ := ls_oa (C := "SandProofreader$Command") (hts _ (List.mem_of_getElem? (i := 276) (by decide +kernel)))
  obtain ⟨a4, p4, r4⟩ := ls_oa (C := "SandProofreader$Print") (hts _ (List.mem_of_getElem? (i := 133) (by decide +kernel)))
  obtain ⟨a5, p5, r5⟩ := ls_oa (C := "SandProofreader$Track") (hts _ (List.mem_of_getElem? (i := 107) (by decide +kernel)))
  refine ⟨fun k => if k = 0 then a0 else if k = 1 then a1 else if k = 2 then a2 else if k = 3 then a3 else if k = 4 then a4 else a5, hC, fun k q hq => ?_⟩
  match k, hq with
  | 0, hq => cases hq; exact ⟨p0, r0⟩
  | 1, hq => cases hq; exact ⟨p1, r1⟩
  | 2, hq => cases hq; exact ⟨p2, r2⟩
  | 3, hq => cases hq; exact ⟨p3, r3⟩
  | 4, hq => cases hq; exact ⟨p4, r4⟩
  | 5, hq => cases hq; exact ⟨p5, r5⟩
  | k + 6, hq => simp at hq
theorem ls_I (hts : ∀ w ∈ lw_tbl, w.before args s = true) : IX s := ⟨ls_N hts, va_AO.of (A := args) (hts _ (List.mem_of_getElem? (i := 243) (by decide +kernel))), va_AO.of (A := args) (hts _ (List.mem_of_getElem? (i := 276) (by decide +kernel))), va_AO.of (A := args) (hts _ (List.mem_of_getElem? (i := 133) (by decide +kernel))), va_AO.of (A := args) (hts _ (List.mem_of_getElem? (i := 107) (by decide +kernel)))⟩
end LST
