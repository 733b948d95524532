/-! THE LAW'S OWN METHODS: each makes one call of the class and says how it ended -/
/-- the exceptions that a call may throw -/
def XI (L : List String) (x : XO) : Prop := ∀ E r, x = some (E, r) → E ∈ L
section XIS
variable {L : List String} {x y : XO}
theorem XI.or (h : XI L x) (h2 : XI L y) : XI L (x.or y) := fun E r e => by
  rcases x with _ | z
  · exact h2 E r e
  · exact h E r e
theorem XI.at {o : Option Nat} {F : Nat → XO} (h : ∀ k, XI L (F k)) : XI L (atO o none F) := fun E r e => by
  rcases o with _ | k
  · cases e
  · exact h k E r e
theorem XI.no : XI L none := fun _ _ e => by cases e
theorem XI.of {E : String} {r : Option RC} (h : E ∈ L) : XI L (some (E, r)) := fun _ _ e => by (cases e; exact h)
theorem XI.ite {p : Prop} [Decidable p] (h : XI L x) (h2 : XI L y) : XI L (if p then x else y) := by
  by_cases q : p
  · rw [if_pos q]; exact h
  · rw [if_neg q]; exact h2
theorem XI.fi {b : Bool} (h : eIAE ∈ L) : XI L (f_xIn b) := XI.ite XI.no (XI.of h)
theorem XI.fs {b : Bool} (h : eISE ∈ L) : XI L (f_xIs b) := XI.ite (XI.of h) XI.no
theorem XI.fo {b : Bool} (h : eIOO ∈ L) : XI L (f_xOut b) := XI.ite XI.no (XI.of h)
theorem XI.fj {o : Option (Int32 × Int32)} (h : eUOE ∈ L) : XI L (f_xRej o) := by
  rcases o with _ | y
  · exact XI.no
  · exact XI.of h
theorem XI.ff {o : Option Nat} (h : eNSE ∈ L) : XI L (f_xFound o) := by
  rcases o with _ | y
  · exact XI.of h
  · exact XI.no
theorem XI.ft {σ : Nat → Nat → Int32} {i : Int32} (h : eIOO ∈ L) : XI L (f_xTrack σ i) := by
  unfold f_xTrack f_xNo
  split
  · exact XI.of h
  · exact XI.no
theorem XI.fp {σ : Nat → Nat → Int32} {i : Int32} (h : eIOO ∈ L) : XI L (f_xPrint σ i) := by
  unfold f_xPrint f_xNo
  split
  · exact XI.of h
  · exact XI.no
theorem XI.fc {r c1 : Int32} (h : eIOO ∈ L) : XI L (f_xCell r c1) := XI.ite XI.no (XI.of h)
theorem XI.fr {r : Int32} (h : eIOO ∈ L) : XI L (f_xRow r) := XI.ite XI.no (XI.of h)
theorem XI.fl {v : Int32} (h : eIAE ∈ L) : XI L (f_xLevel v) := XI.ite XI.no (XI.of h)
theorem XI.fa {b : Bool} (h : eARE ∈ L) : XI L (f_xAr b) := XI.ite (XI.of h) XI.no
theorem XI.fk {rc : Option RC} (h : eNSE ∈ L) : XI L (f_xRj rc) := by
  rcases rc with _ | y
  · exact XI.of h
  · exact XI.no
theorem XI.fq {rc : Option RC} (h : eNSE ∈ L) : XI L (f_xRjC rc) := by
  rcases rc with _ | ⟨a, b, _ | y⟩
  · exact XI.of h
  · exact XI.of h
  · exact XI.no
theorem XI.run {σ : Nat → Nat → Int32} {i : Nat} {z : Int32} (h : eISE ∈ L) (h2 : eUOE ∈ L) : XI L (f_xRun σ i z) := by
  unfold f_xRun f_xRunR
  split
  · split
    · exact XI.no
    · exact XI.of h2
  · exact XI.of h
theorem XI.exe {σ : Nat → Nat → Int32} (h0 : eIAE ∈ L) (h : eISE ∈ L) (h2 : eUOE ∈ L) : XI L (f_xExe σ) := by
  unfold f_xExe f_xStep
  exact XI.ite (XI.at fun k => XI.ite XI.no (XI.run h h2)) (XI.of h0)
end XIS
/-- what the classes of exceptions are not -/
def NC (U : State) : Prop := ∀ E F : String, E ∈ exK → F ∈ exK → E ≠ F → va_Nc E F U
theorem NC.moved {u U : State} (hvm : u.vm.Alike U.vm) (h : NC u) : NC U := fun E F a b c => va_Nc.moved hvm (h E F a b c)
abbrev eL (cl : ClassId) (f : Nat → Int64) : va_E := .inl (cl, 1, .inr (.inl f))
abbrev eD (cd : ClassId) (g : Nat → UInt64) : va_E := .inl (cd, 1, .inr (.inr (.inr (.inl g))))
abbrev tyL (cy : Nat → ClassId) (cl cd : ClassId) : List (ClassId × FieldType) := tyG cy ++ [(cl, .long), (cd, .double)]
def wPc (xq ad : Nat → Nat) (D : va_G) (cy : Nat → ClassId) (cl cd : ClassId) (sz : Nat) (av : List Value) (ws : va_W) (qo : Nat) (e : va_E) (Z : Heap → Prop) : Array Value → State → Prop := va_Pc av (fun U => U.heap.size = sz ∧ va_P D vwCl ws U.heap ∧ va_at D vwCl (qo, e) U.heap ∧ va_K D vwCl (tyL cy cl cd) U ∧ EX xq (sp_A ad 459 U.heap.size) U U.heap ∧ NC U ∧ (∀ k, k < 459 → ad k ≠ qo) ∧ Z U.heap)
def wA (ad : Nat → Nat) (qo sz : Nat) : Nat → Prop := fun q => sp_A ad 459 sz q ∨ q = qo
def wQ (x : XO) (L : List String) (D : va_G) (qo : Nat) (e e1 : va_E) (ws1 : va_W) (B : Option RC → Heap → Prop) (A : Nat → Prop) : Array Value → State → Outcome → State → Prop := fun _ st o t => o = .returned (some (.int (kC L x))) ∧ va_F A st t ∧ ((x = none ∧ va_P D vwCl ws1 t.heap ∧ va_at D vwCl (qo, e1) t.heap) ∨ ∃ E r, x = some (E, r) ∧ B r t.heap ∧ va_at D vwCl (qo, e) t.heap)
theorem wP_blind {xq ad : Nat → Nat} {D : va_G} {cy : Nat → ClassId} {cl cd : ClassId} {sz : Nat} {av : List Value} {ws : va_W} {qo : Nat} {e : va_E} {Z : Heap → Prop} : FrameBlind (wPc xq ad D cy cl cd sz av ws qo e Z) := fun a U g mk z => ⟨z.1, z.2.1, z.2.2.1, z.2.2.2.1, va_K.moved (u := U) (U := U.calling g mk a) (Vm.Alike.refl U.vm) z.2.2.2.2.1, EX.same (u := U) (U := U.calling g mk a) rfl z.2.2.2.2.2.1, NC.moved (u := U) (U := U.calling g mk a) (Vm.Alike.refl U.vm) z.2.2.2.2.2.2.1, z.2.2.2.2.2.2.2⟩
theorem wCons {D : va_G} {cl : List vw_C} {q : Nat × va_E} {ws : va_W} {H : Heap} (h : va_at D cl q H) (hP : va_P D cl ws H) : va_P D cl (q :: ws) H := fun k x hx => by
  rcases k with _ | k
  · cases hx; exact h
  · exact hP k x hx
theorem wTail {D : va_G} {cl : List vw_C} {q : Nat × va_E} {ws : va_W} {H : Heap} (hP : va_P D cl (q :: ws) H) : va_P D cl ws H := fun k x hx => hP (k + 1) x hx
theorem wHead {D : va_G} {cl : List vw_C} {q : Nat × va_E} {ws : va_W} {H : Heap} (hP : va_P D cl (q :: ws) H) : va_at D cl q H := hP 0 q rfl
theorem wApart {ad : Nat → Nat} {K qo : Nat} {e : va_E} {E : Nat → (Nat → Int32) → va_E} {σ : Nat → Nat → Int32} {A : Nat → Prop} (hi : sp_inj ad K) (hq : ∀ k, k < K → ad k ≠ qo) (hA : A qo) (hAk : ∀ k, k < K → A (ad k)) : va_D A ((qo, e) :: sp_W E ad K σ) := by
  have hd := sp_D (E := E) (σ := σ) hi hAk
  refine ⟨fun i j p q hp9 hq9 hpq => ?_, fun k q hq9 => ?_⟩
  · rcases i with _ | i
    · rcases j with _ | j
      · rfl
      · cases hp9
        obtain ⟨h1, rfl⟩ := sp_W_is hq9
        exact absurd hpq.symm (hq _ h1)
    · rcases j with _ | j
      · cases hq9
        obtain ⟨h1, rfl⟩ := sp_W_is hp9
        exact absurd hpq (hq _ h1)
      · exact congrArg (· + 1) (hd.1 i j p q hp9 hq9 hpq)
  · rcases k with _ | k
    · cases hq9; exact hA
    · exact hd.2 k q hq9
theorem wNot {ad : Nat → Nat} {K qo n : Nat} (hq : ∀ k, k < K → ad k ≠ qo) (hl : qo < n) : ¬ sp_A ad K n qo := fun z => z.elim (fun ⟨k, hk, e⟩ => hq k hk e.symm) (fun z => by omega)
theorem kC_b {L : List String} {x : XO} {E : String} {r : Option RC} (h : x = some (E, r)) : kC L x = kI L E := by rw [h]; rfl
theorem b01 {b : Bool} (h : ¬ b2i b = 0) : b2i b = 1 := by cases b <;> first | rfl | exact absurd rfl h
theorem b01a {o : Option Nat} {F : Nat → Int32} (h : ¬ atO o 0 (fun k => bz (F k)) = 0) : atO o 0 (fun k => bz (F k)) = 1 := by
  rcases o with _ | k
  · exact absurd rfl h
  · rcases bz_01 (F k) with q | q
    · exact absurd q h
    · exact q
theorem sp_blindPr {q ad : Nat → Nat} {K : Nat} {D : va_G} {tys : List (ClassId × FieldType)} {sz : Nat} {av : List Value} {ws : va_W} {rj : Option Nat} {rc : Option RC} : FrameBlind (sp_Pr D rj rc (sp_Pmx q ad K D tys sz av ws)) := fun a U g mk z => ⟨sp_blindmx a U g mk z.1, z.2⟩
