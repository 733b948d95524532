/-! METHODS THAT THROW: an outcome is none (it returns), or the exception's class with what is kept of the rejection -/
abbrev RC : Type := Int32 × Int32 × Option (Int32 × Int32)
abbrev XO : Type := Option (String × Option RC)
abbrev eIOO : String := "java/lang/IndexOutOfBoundsException"
abbrev eIAE : String := "java/lang/IllegalArgumentException"
abbrev eUOE : String := "java/lang/UnsupportedOperationException"
abbrev eNSE : String := "java/util/NoSuchElementException"
abbrev eARE : String := "java/lang/ArithmeticException"
abbrev eISE : String := "java/lang/IllegalStateException"
/-- the latest rejection behind a throw: as before, or new with these contents -/
def sp_N (D : va_G) (sz : Nat) (rj rj9 : Option Nat) : Option RC → Heap → Prop
  | none, _ => rj9 = rj
  | some x, H => ∃ (a : Nat) (c : Option Nat), rj9 = some a ∧ sz ≤ a ∧ va_at D vwCl (a, .inr (8, [.int x.1, .int x.2.1, va_rf c])) H ∧ match x.2.2 with
    | none => c = none
    | some y => ∃ b : Nat, c = some b ∧ sz ≤ b ∧ va_at D vwCl (b, .inr (8, [.int y.1, .int y.2, .null])) H
theorem sp_N.mono {D : va_G} {sz sz2 : Nat} {rj rj9 : Option Nat} {r : Option RC} {H : Heap} (h : sp_N D sz2 rj rj9 r H) (hz : sz ≤ sz2) : sp_N D sz rj rj9 r H := by
  rcases r with _ | ⟨x1, x2, _ | y⟩
  · exact h
  · obtain ⟨a, c, h1, h2, h3, h4⟩ := h
    exact ⟨a, c, h1, Nat.le_trans hz h2, h3, h4⟩
  · obtain ⟨a, c, h1, h2, h3, b, h4, h5, h6⟩ := h
    exact ⟨a, c, h1, Nat.le_trans hz h2, h3, b, h4, Nat.le_trans hz h5, h6⟩
def sp_B (D : va_G) (ad : Nat → Nat) (cy : Nat → ClassId) (pm : Nat → Nat) (σ : Nat → Nat → Int32) (sz : Nat) (rj : Option Nat) (r : Option RC) (H : Heap) : Prop := ∃ rj9 : Option Nat, va_P D vwCl (cW ad cy pm rj9 σ) H ∧ sp_N D sz rj rj9 r H
def sp_QT (x : XO) (D : va_G) (v : Option Value) (ws : va_W) (A : Nat → Prop) : Array Value → State → Outcome → State → Prop := fun a st o t => x = none ∧ sp_Q D v ws A a st o t
def sp_XT (x : XO) (B : Option RC → Heap → Prop) (A : Nat → Prop) : String → State → State → Prop := fun E st t => ∃ r : Option RC, x = some (E, r) ∧ B r t.heap ∧ va_F A st t
theorem sp_SF {A : Nat → Prop} {s t : State} {H : Heap} {locs : List Loc} (hS : va_S A s.heap H locs) (h1 : H.size ≤ t.heap.size) (h2 : ∀ q : Nat, q < H.size → t.heap[q]? = H[q]?) : va_F A s t := ⟨Nat.le_trans hS.1 h1, fun q a b => (h2 q (Nat.lt_of_lt_of_le a hS.1)).trans (hS.2.1 q a b)⟩
theorem sp_notA {ad : Nat → Nat} {K q : Nat} {H0 H : Heap} (hlt : ∀ k, k < K → ad k < H0.size) (hq : H0.size ≤ q) (hH : q < H.size) : ¬ sp_A ad K H.size q := fun z => z.elim (fun ⟨k, hk, he⟩ => by have := hlt k hk; omega) (fun h => by omega)
section SPT
variable {p : Program} {l : Launch} {e : Env} {R : Room} {s : State} {m : MethodId} {args : Array Value} {below : List Frame} {meth : Method} {c : Code} {H : Heap} {locs : List Loc} {cells slots : Nat} {Q : State → Prop}
variable {cc : ByteArray} {pc : Nat} {ls : Array Slot} {rest st0 : List Value} {D : va_G} {A0 A1 : Nat → Prop} {a : Array Value} {H0 : Heap} {mc ms : Nat} {free : Addr → Prop}
variable {ad : Nat → Nat} {cy : Nat → ClassId} {pm : Nat → Nat} {rj : Option Nat} {σ : Nat → Nat → Int32}
/-- a call that returns or throws -/
theorem sp_callx {x : XO} {v : Option Value} {ws1 : va_W} {B : Option RC → Heap → Prop} (hr : vx_Run p l e R s m args below meth c H locs cells slots mc ms (F0 m pc ls st0) rest (sp_QT x D v ws1 A1 a) (sp_XT x B A1) free) (hS : va_S A0 H0 H locs) (hA : ∀ q, q < H.size → A1 q → A0 q) (hf : ∀ q, free q → A0 q)
    (kx : ∀ (E : String) (r : Option RC) (ce : Cell) (q9 : Addr) (H1 : Heap) (locs1 : List Loc), x = some (E, r) → B r H1 → H.size ≤ H1.size → (∀ q : Nat, q < H.size → ¬ A1 q → H1[q]? = H[q]?) → va_S A0 H0 H1 locs1 → H1[q9]? = some ce → ce.vm = .none → s.vm.findClass E = some ce.cls → vx_W p l e R s m args below meth c H1 locs1 (cells + mc) (slots + ms) Q (F0 m pc ls rest) q9)
    (kk : x = none → ∀ (H1 : Heap) (locs1 : List Loc), va_P D vwCl ws1 H1 → H.size ≤ H1.size → (∀ q : Nat, q < H.size → ¬ A1 q → H1[q]? = H[q]?) → va_S A0 H0 H1 locs1 → W p l e R s m args below meth c H1 locs1 (cells + mc) (slots + ms) Q (F0 m (pc + 3) ls (v.toList ++ rest))) : W p l e R s m args below meth c H locs cells slots Q (F0 m pc ls st0) := by
  intro T hT X
  rcases hr T hT X with ⟨v', st₀, t, T', L, h0, X', hL, e1, e2, ⟨hx, hv, hp, hF⟩, st⟩ | ⟨q, st₀, t, T', L, E, ce, h0, X', hL, e1, e2, ⟨r, hx, hb, hF⟩, hce, hcv, hcl, st⟩
  · cases hv
    obtain ⟨k1, k2, k3⟩ := vx_keep h0 e1 hS hA hf hL hF
    obtain ⟨t2, a1, b1⟩ := kk hx T'.heap (locs ++ L) (by rw [e1]; exact hp) k1 k2 k3 T' rfl X'
    exact ⟨t2, st t2 a1, b1⟩
  · obtain ⟨k1, k2, k3⟩ := vx_keep h0 e1 hS hA hf hL hF
    obtain ⟨t2, a1, b1⟩ := kx E r ce q T'.heap (locs ++ L) hx (by rw [e1]; exact hb) k1 k2 k3 (by rw [e1]; exact hce) hcv hcl T' rfl X'
    exact ⟨t2, st.trans a1, b1⟩
/-- the latest rejection is written -/
theorem sp_putrj (hexec : p.tables.exec = Jvm.exec) (hb : c.code = cc) {own ref : String} {index q : Nat} {Ts : List Cond} (hts : ∀ w ∈ Ts, w.before args s = true) (hin : ∀ w ∈ wsX90, w ∈ Ts) (hown : s.vm.findClass own = some m.cls) (hK : va_K D vwCl (tyG cy) s) (hP : va_P D vwCl (cW ad cy pm rj σ) H) (hi : sp_inj ad 459) (hAk : ∀ k, k < 459 → A0 (ad k)) (hS0 : va_S A0 H0 H locs) (hlink : (Cond.fieldLink own index ref "latestRejection" "LSandProofreader$Rejection;").before args s = true) (hsame : ∀ x, s.fieldFound? "SandProofreader" "latestRejection" "LSandProofreader$Rejection;" = some x → s.fieldFound? ref "latestRejection" "LSandProofreader$Rejection;" = some x)
    (hdg : decode cc pc = .ok (.putfield index, 3)) (kk : ∀ (H1 : Heap) (locs1 : List Loc), va_P D vwCl (cW ad cy pm (some q) σ) H1 → va_S A0 H0 H1 locs1 → W p l e R s m args below meth c H1 locs1 cells slots Q (F0 m (pc + 3) ls rest)) : W p l e R s m args below meth c H locs cells slots Q (F0 m pc ls (.ref q :: .ref (ad 429) :: rest)) := by
  refine va_put (C := RX9) (T := TX9) (N := 10) (ci := 12) (v := .ref q) (ty := .object "SandProofreader$Rejection") hexec hb hts hin tyX9 tyX9_ok nmX9 hown hK hP (sp_D hi hAk) hS0 429 (fs := oF ad rj (σ 429)) (by rw [sp_W_at (by decide), cE_sp]) rfl 8 (by decide) hlink hsame rfl (by decide +kernel) rfl rfl (Nat.le_of_ble_eq_true rfl) hdg fun H1 locs1 hP1 _ hS1 => ?_
  have he : (sp_W (cE ad cy pm rj) ad 459 σ).set 429 (ad 429, .inr (12, (oF ad rj (σ 429)).set 8 (.ref q))) = cW ad cy pm (some q) σ := by
    refine sp_W_setE (by decide) ?_ (fun k _ hk => (cE_rj hk))
    rw [cE_sp]
    rfl
  rw [he] at hP1
  exact kk H1 locs1 hP1 hS1
end SPT
theorem opt_em {α : Type} (x : Option α) : x = none ∨ ∃ a, x = some a := by cases x with
  | none => exact Or.inl rfl
  | some a => exact Or.inr ⟨a, rfl⟩
theorem cW_go {D : va_G} {W1 W2 : va_W} {H : Heap} (h : W1 = W2) (hP : va_P D vwCl W1 H) : va_P D vwCl W2 H := h ▸ hP
