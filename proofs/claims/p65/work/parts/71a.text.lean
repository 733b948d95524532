/-! TEXTS: strings and builders beside the class's cells -/
/-- a string at t: w letters c; nothing of it in A -/
def TXs (t w : Nat) (c : Nat → Nat) (A : Nat → Prop) (U : State) (H : Heap) : Prop := ∃ (v : Nat) (f : Nat → Int32), va_O "java/lang/String" t A U H ∧ va_OF "java/lang/String" "coder" "B" (.int 0) t A U H ∧ va_OF "java/lang/String" "value" "[B" (.ref v) t A U H ∧ va_T .byte v w (fun j => .int (f j)) A U H ∧ sb_Lat c w f ∧ sb_Fit f ∧ w ≤ 65536
theorem TXs.moved {t w : Nat} {c : Nat → Nat} {A : Nat → Prop} {u U : State} {H : Heap} (hvm : u.vm.Alike U.vm) (h : TXs t w c A u H) : TXs t w c A U H := by
  obtain ⟨v, f, h1, h2, h3, h4, h5⟩ := h
  exact ⟨v, f, h1.moved hvm, h2.moved hvm, h3.moved hvm, h4.moved hvm, h5⟩
theorem TXs.kept {t w : Nat} {c : Nat → Nat} {A : Nat → Prop} {U : State} {H H1 : Heap} (h : TXs t w c A U H) (hq : ∀ a : Nat, a < H.size → ¬ A a → H1[a]? = H[a]?) : TXs t w c A U H1 := by
  obtain ⟨v, f, h1, h2, h3, h4, h5⟩ := h
  exact ⟨v, f, h1.kept hq, h2.kept hq, h3.kept hq, h4.kept hq, h5⟩
theorem TXs.narrow {t w : Nat} {c : Nat → Nat} {A B : Nat → Prop} {U : State} {H : Heap} (h : TXs t w c A U H) (hAB : ∀ z, B z → A z) : TXs t w c B U H := by
  obtain ⟨v, f, h1, h2, h3, h4, h5⟩ := h
  exact ⟨v, f, h1.narrow hAB, h2.narrow hAB, h3.narrow hAB, h4.narrow hAB, h5⟩
theorem TXs.recv {t w : Nat} {c : Nat → Nat} {A : Nat → Prop} {s : State} {H : Heap} {locs : List Loc} (h : TXs t w c A s s.heap) (hS : va_S A s.heap H locs) : ∃ cell : Cell, H[t]? = some cell ∧ cell.vm.isStatics = false ∧ s.vm.findClass "java/lang/String" = some cell.cls := by
  obtain ⟨v, f, h1, -⟩ := h
  obtain ⟨cell, q1, q2, q3, -⟩ := h1.kept hS.2.1
  exact ⟨cell, q1, q2, q3⟩
/-- a builder at q with its bytes at v: room for m, n of them used -/
def sbAt (D : va_G) (cy : Nat → ClassId) (q v m n : Nat) (a : Nat → Int32) (H : Heap) : Prop := q ≠ v ∧ va_at D vwCl (q, .inr (1, [.ref v, .int 0, .int 0, .int (nI n)])) H ∧ va_at D vwCl (v, .inl (cy 1, m, .inl a)) H
abbrev sA (q v sz : Nat) : Nat → Prop := fun x => x = q ∨ x = v ∨ sz ≤ x
theorem iP.two {D : va_G} {A : Nat → Prop} {q v : Nat} {e0 e1 : va_E} {H : Heap} (h1 : q ≠ v) (hq : A q) (hv : A v) (h2 : va_at D vwCl (q, e0) H) (h3 : va_at D vwCl (v, e1) H) : ∃ (ad : Nat → Nat) (E : Nat → va_E), iP D A ad 2 E H ∧ ad 0 = q ∧ ad 1 = v ∧ E 0 = e0 ∧ E 1 = e1 := by
  refine ⟨fun k => if k = 0 then q else v, fun k => if k = 0 then e0 else e1, ⟨fun i j hi hj hij => ?_, fun k hk => ?_, fun k hk => ?_⟩, rfl, rfl, rfl, rfl⟩
  · rcases (show i = 0 ∨ i = 1 by omega) with rfl | rfl <;> rcases (show j = 0 ∨ j = 1 by omega) with rfl | rfl
    · rfl
    · exact absurd hij h1
    · exact absurd hij.symm h1
    · rfl
  · rcases (show k = 0 ∨ k = 1 by omega) with rfl | rfl
    · exact hq
    · exact hv
  · rcases (show k = 0 ∨ k = 1 by omega) with rfl | rfl
    · exact h2
    · exact h3
theorem iP.three {D : va_G} {A : Nat → Prop} {y q v : Nat} {e0 e1 e2 : va_E} {H : Heap} (h1 : y ≠ q) (h2 : y ≠ v) (h3 : q ≠ v) (hy : A y) (hq : A q) (hv : A v) (k0 : va_at D vwCl (y, e0) H) (k1 : va_at D vwCl (q, e1) H) (k2 : va_at D vwCl (v, e2) H) : ∃ (ad : Nat → Nat) (E : Nat → va_E), iP D A ad 3 E H ∧ ad 0 = y ∧ ad 1 = q ∧ ad 2 = v ∧ E 0 = e0 ∧ E 1 = e1 ∧ E 2 = e2 := by
  refine ⟨fun k => if k = 0 then y else if k = 1 then q else v, fun k => if k = 0 then e0 else if k = 1 then e1 else e2, ⟨fun i j hi hj hij => ?_, fun k hk => ?_, fun k hk => ?_⟩, rfl, rfl, rfl, rfl, rfl, rfl⟩
  · rcases (show i = 0 ∨ i = 1 ∨ i = 2 by omega) with rfl | rfl | rfl <;> rcases (show j = 0 ∨ j = 1 ∨ j = 2 by omega) with rfl | rfl | rfl
    · rfl
    · exact absurd hij h1
    · exact absurd hij h2
    · exact absurd hij.symm h1
    · rfl
    · exact absurd hij h3
    · exact absurd hij.symm h2
    · exact absurd hij.symm h3
    · rfl
  · rcases (show k = 0 ∨ k = 1 ∨ k = 2 by omega) with rfl | rfl | rfl
    · exact hy
    · exact hq
    · exact hv
  · rcases (show k = 0 ∨ k = 1 ∨ k = 2 by omega) with rfl | rfl | rfl
    · exact k0
    · exact k1
    · exact k2
theorem sbAt.pq {D : va_G} {cy : Nat → ClassId} {q v m n : Nat} {a : Nat → Int32} {A : Nat → Prop} {H : Heap} (h : sbAt D cy q v m n a H) (hq : A q) (hv : A v) : ∃ (ad : Nat → Nat) (E : Nat → va_E), iP D A ad 2 E H ∧ ad 0 = q ∧ ad 1 = v ∧ E 0 = .inr (1, [.ref v, .int 0, .int 0, .int (nI n)]) ∧ E 1 = .inl (cy 1, m, .inl a) := iP.two h.1 hq hv h.2.1 h.2.2
theorem arAt.pq {D : va_G} {x : va_E} {v : Nat} {A : Nat → Prop} {H : Heap} (h : va_at D vwCl (v, x) H) (hv : A v) : ∃ (ad : Nat → Nat) (E : Nat → va_E), iP D A ad 1 E H ∧ ad 0 = v ∧ E 0 = x :=
  ⟨fun _ => v, fun _ => x, ⟨fun i j hi hj _ => by omega, fun _ _ => hv, fun _ _ => h⟩, rfl, rfl⟩
theorem sbAt.of {D : va_G} {cy : Nat → ClassId} {q v m n K κ : Nat} {a : Nat → Int32} {A : Nat → Prop} {ad : Nat → Nat} {E : Nat → va_E} {H : Heap} (h : iP D A ad K E H) (hκ : κ < K) (h0 : 0 < κ) (e0 : ad 0 = q) (e1 : ad κ = v) (f0 : E 0 = .inr (1, [.ref v, .int 0, .int 0, .int (nI n)])) (f1 : E κ = .inl (cy 1, m, .inl a)) : sbAt D cy q v m n a H := by
  refine ⟨fun z => ?_, ?_, ?_⟩
  · have := h.1 0 κ (by omega) hκ (by rw [e0, e1]; exact z)
    omega
  · have h9 := h.2.2 0 (by omega)
    rw [e0, f0] at h9; exact h9
  · have h9 := h.2.2 κ hκ
    rw [e1, f1] at h9; exact h9
theorem sbAt.recv {D : va_G} {cy : Nat → ClassId} {q v m n : Nat} {a : Nat → Int32} {s : State} {H : Heap} (hK : va_K D vwCl (tyG cy) s) (h : sbAt D cy q v m n a H) : ∃ cell : Cell, H[q]? = some cell ∧ cell.vm.isStatics = false ∧ s.vm.findClass RJ4 = some cell.cls := va_recv hK (sp_one h.2.1) (ci := 1) (q := (RJ4, TJ4, 4)) rfl (q0 := 0) rfl
/-- what the library's methods of texts want -/
def tP (xq : Nat → Nat) (D : va_G) (cy : Nat → ClassId) (sz : Nat) (A : Nat → Prop) (av : List Value) (T : List (Nat × Nat × (Nat → Nat))) (Rw : List (Nat × Nat × (Nat → Int32))) (Z : Heap → Prop) : Array Value → State → Prop := va_Pc av (fun U => U.heap.size = sz ∧ Z U.heap ∧ va_K D vwCl (tyG cy) U ∧ EX xq A U U.heap ∧ (∀ x ∈ T, TXs x.1 x.2.1 x.2.2 A U U.heap) ∧ ∀ x ∈ Rw, va_T .byte x.1 x.2.1 (fun j => .int (x.2.2 j)) A U U.heap)
theorem tP_blind {xq : Nat → Nat} {D : va_G} {cy : Nat → ClassId} {sz : Nat} {A : Nat → Prop} {av : List Value} {T : List (Nat × Nat × (Nat → Nat))} {Rw : List (Nat × Nat × (Nat → Int32))} {Z : Heap → Prop} : FrameBlind (tP xq D cy sz A av T Rw Z) := fun a U g mk z => ⟨z.1, z.2.1, z.2.2.1, va_K.moved (u := U) (U := U.calling g mk a) (Vm.Alike.refl U.vm) z.2.2.2.1, EX.same (u := U) (U := U.calling g mk a) rfl z.2.2.2.2.1, fun x hx => TXs.moved (u := U) (U := U.calling g mk a) (Vm.Alike.refl U.vm) (z.2.2.2.2.2.1 x hx), fun x hx => va_T.moved (u := U) (U := U.calling g mk a) (Vm.Alike.refl U.vm) (z.2.2.2.2.2.2 x hx)⟩
section TPR
variable {xq : Nat → Nat} {D : va_G} {cy : Nat → ClassId} {A A1 : Nat → Prop} {s : State} {H : Heap} {locs : List Loc} {As : List Value} {T : List (Nat × Nat × (Nat → Nat))} {Rw : List (Nat × Nat × (Nat → Int32))} {Z : Heap → Prop}
theorem tPre (hK : va_K D vwCl (tyG cy) s) (hE : EX xq A s s.heap) (hS : va_S A s.heap H locs) (hA : ∀ x, A1 x → A x) (hZ : Z H) (hT : ∀ x ∈ T, TXs x.1 x.2.1 x.2.2 A s s.heap) (hR : ∀ x ∈ Rw, va_T .byte x.1 x.2.1 (fun j => .int (x.2.2 j)) A s s.heap) : PreS s H (tP xq D cy H.size A1 As T Rw Z) As :=
  ⟨tP_blind, fun U hU hW => ⟨rfl, by rw [hU], by rw [hU]; exact hZ, va_K.moved hW.alike hK, by rw [hU]; exact ((hE.kept hS.2.1).narrow hA).warm hW, fun x hx => by rw [hU]; exact (((hT x hx).kept hS.2.1).narrow hA).moved hW.alike, fun x hx => by rw [hU]; exact (((hR x hx).kept hS.2.1).narrow hA).moved hW.alike⟩⟩
theorem tPreV {C : String} {b : Nat} (hK : va_K D vwCl (tyG cy) s) (hE : EX xq A s s.heap) (hS : va_S A s.heap H locs) (hA : ∀ x, A1 x → A x) (hr : ∃ cell : Cell, H[b]? = some cell ∧ cell.vm.isStatics = false ∧ s.vm.findClass C = some cell.cls) (hZ : Z H) (hT : ∀ x ∈ T, TXs x.1 x.2.1 x.2.2 A s s.heap) (hR : ∀ x ∈ Rw, va_T .byte x.1 x.2.1 (fun j => .int (x.2.2 j)) A s s.heap) : PreV s H C b (tP xq D cy H.size A1 (.ref b :: As) T Rw Z) As :=
  ⟨tP_blind, hr, fun U hU hW => ⟨rfl, by rw [hU], by rw [hU]; exact hZ, va_K.moved hW.alike hK, by rw [hU]; exact ((hE.kept hS.2.1).narrow hA).warm hW, fun x hx => by rw [hU]; exact (((hT x hx).kept hS.2.1).narrow hA).moved hW.alike, fun x hx => by rw [hU]; exact (((hR x hx).kept hS.2.1).narrow hA).moved hW.alike⟩⟩
end TPR
theorem tNo {α : Type} {P : α → Prop} : ∀ x ∈ ([] : List α), P x := fun _ h => absurd h List.not_mem_nil
theorem tOne {α : Type} {P : α → Prop} {y : α} (h : P y) : ∀ x ∈ [y], P x := fun _ hx => by
  cases List.mem_singleton.mp hx; exact h
/-- an end with an answer and a heap of which B tells -/
def tQ (B : Option Value → Heap → Prop) (A : Nat → Prop) : Array Value → State → Outcome → State → Prop := fun _ st o t => ∃ v, o = .returned v ∧ B v t.heap ∧ va_F A st t
section TCL
variable {p : Program} {l : Launch} {e : Env} {R : Room} {s : State} {m : MethodId} {args : Array Value} {below : List Frame} {meth : Method} {c : Code} {H : Heap} {locs : List Loc} {cells slots : Nat} {Q : State → Prop}
variable {pc : Nat} {ls : Array Slot} {rest st0 : List Value} {A0 A1 : Nat → Prop} {a : Array Value} {H0 : Heap} {mc ms : Nat} {free : Addr → Prop}
theorem t_call {B : Option Value → Heap → Prop} (hr : va_Run p l e R s m args below meth c H locs cells slots mc ms (F0 m pc ls st0) rest (tQ B A1 a) free) (hS : va_S A0 H0 H locs) (hA : ∀ q, q < H.size → A1 q → A0 q) (hf : ∀ q, free q → A0 q)
    (kk : ∀ (v : Option Value) (H1 : Heap) (locs1 : List Loc), B v H1 → H.size ≤ H1.size → (∀ q : Nat, q < H.size → ¬ A1 q → H1[q]? = H[q]?) → va_S A0 H0 H1 locs1 → W p l e R s m args below meth c H1 locs1 (cells + mc) (slots + ms) Q (F0 m (pc + 3) ls (v.toList ++ rest))) : W p l e R s m args below meth c H locs cells slots Q (F0 m pc ls st0) := by
  intro T hT X
  obtain ⟨v', st₀, t, T', L, h0, X', hL, e1, e2, ⟨v, hv, hB, hz, hk⟩, st⟩ := hr T hT X
  cases hv
  rw [h0] at hz hk
  obtain ⟨t2, a1, b1⟩ := kk v' T'.heap (locs ++ L) (by rw [e1]; exact hB) (by rw [e1]; exact hz) (fun q h1 h2 => by rw [e1]; exact hk q h1 h2)
    ⟨Nat.le_trans hS.1 (by rw [e1]; exact hz), fun q h1 h2 => by rw [e1, hk q (Nat.lt_of_lt_of_le h1 hS.1) (fun z => h2 (hA q (Nat.lt_of_lt_of_le h1 hS.1) z))]; exact hS.2.1 q h1 h2, fun q hq => by
      rcases List.mem_append.mp hq with h | h
      · exact hS.2.2 q h
      · exact hf _ (hL q h)⟩ T' rfl X'
  exact ⟨t2, st t2 a1, b1⟩
end TCL
theorem nI_max {a b : Nat} (ha : a < 2 ^ 31) (hb : b < 2 ^ 31) : (if nI a < nI b then nI b else nI a) = nI (max a b) := by
  by_cases h : a < b
  · rw [if_pos (nI_lt h hb), Nat.max_eq_right (by omega)]
  · rw [if_neg (nI_nlt (by omega) ha), Nat.max_eq_left (by omega)]
theorem nI_min {a b : Nat} (ha : a < 2 ^ 31) (hb : b < 2 ^ 31) : (if nI b < nI a then nI b else nI a) = nI (min a b) := by
  by_cases h : b < a
  · rw [if_pos (nI_lt h ha), Nat.min_eq_right (by omega)]
  · rw [if_neg (nI_nlt (by omega) hb), Nat.min_eq_left (by omega)]
theorem sb_chr {x : Int32} {c : Nat} (hc : c < 256) (hx : x = sb_b c) : ((x &&& 255).toUInt32 % 65536).toInt32 = nI c := by
  subst hx
  obtain ⟨b1, b2, -⟩ := sb_byte c hc
  rw [b1, b2]
theorem cap_eq {k u : Nat} (h : u < k) : u + max (k - u) (u + 2) = sb_cap k u := by
  unfold sb_cap
  rw [if_neg (by omega)]
  split
  · rw [Nat.max_eq_left (by omega)]; omega
  · rw [Nat.max_eq_right (by omega)]; omega
theorem cap_le {k u : Nat} (h : u < k) (hk : k ≤ 100) : sb_cap k u ≤ 202 := by
  unfold sb_cap
  split
  · omega
  · split <;> omega
theorem cmp_le {k u : Nat} (hk : k < 2 ^ 30) (hu : u < 2 ^ 30) : nI k - nI u ≤ 0 ↔ k ≤ u := by
  rw [Int32.le_iff_toInt_le, pk_sub_toInt hk hu, Int32.toInt_zero]; omega
theorem dig_1 : ∀ d, d < 10 → ¬ (-(nI d) ≤ -10) := by decide +kernel
theorem dig_2 : ∀ d, d < 10 → (-100 : Int32) < -(nI d) := by decide +kernel
theorem dig_3 : ∀ d, d < 10 → (-9 : Int32) ≤ -(nI d) := by decide +kernel
theorem dig_4 : ∀ d, d < 10 → vp_nar .byte (digO d) = sb_b (48 + d) := by decide +kernel
theorem nm_B {s : State} {cA : ClassId} (h : va_RA s cA .byte) : s.vm.findClass "[B" = some cA := by
  have h9 : s.vm.findClass ("[" ++ (FieldType.byte).toString) = some cA := h
  rw [show "[" ++ (FieldType.byte).toString = "[B" by decide +kernel] at h9
  exact h9

set_option maxHeartbeats 4000000 in
set_option maxRecDepth 100000 in
theorem t_coder (l : Launch) (xq : Nat → Nat) (D : va_G) (cy : Nat → ClassId) (sz : Nat) (A : Nat → Prop) (t w : Nat) (c0 : Nat → Nat) : Met l yJ0_coder_7d493 wsJ0_coder_7d493 ({ frames := 0, cells := 0, slots := 0, locals := 0 } : Room) (tP xq D cy sz (A) [.ref t] [(t, w, c0)] [] (fun _ => True)) (sp_S (some (.int 0))) 0 0 (fun _ => False) := by
  refine Met.ofW (cc := cJ0_coder_7d493) (maxL := 1) (ret := (some .byte)) (by decide) rfl ?_
  intro p e s m args below meth c s₁ B hml hv
  obtain ⟨rfl, hsz, hZ, hK, hE, hT, hRw⟩ := hv
  have hx := B.exec
  have hb := B.bytes
  have hr := B.returns
  have hts := atoms_spec (ws := wsJ0_coder_7d493) B.pre
  have hown : s.vm.findClass RJ0 = some m.cls := findClass_of_methodNamed B.named
  have hlocks := B.notSynchronized
  subst hsz
  have hS : va_S (A) s.heap s.heap [] := va_S.rf
  have hT0 : TXs t w c0 A s s.heap := hT (t, w, c0) (List.mem_singleton.mpr rfl)
  obtain ⟨v, f, hO, hC, hV, hB, hL, hF, hw⟩ := hT0
  have hl := lv_entry ([.ref t]) (n := 1) (Nat.le_of_ble_eq_true rfl)
  refine W.eq (lg_entry_eq _ ([.ref t]) _) ?_
  generalize (lg_sl ([.ref t]) ++ List.replicate (1 - (lg_sl ([.ref t])).length) Slot.unset).toArray = ls at hl ⊢
  have hl : lv_has ls 1 [(0, .ref t)] := hl
  refine va_gets hx hb hE.2.2.2.2.2.1 hS hown (hts _ (List.mem_of_getElem? (i := 1) rfl)) (fun _ h => h) dJ0_coder_7d493_0 ?_
  refine lv_if_eq (tgt := 13) hx hb dJ0_coder_7d493_3 (by decide) (fun c_1 => ?_) (fun c_1 => ?_)
  · exact absurd c_1 (by decide)
  · skip
    refine lv_aload_n hx hb dJ0_coder_7d493_6 rfl (lv_at hl 0 rfl) ?_
    refine vk_getf hx hb hC hS hown (hts _ (List.mem_of_getElem? (i := 2) rfl)) (fun _ h => h) dJ0_coder_7d493_7 ?_
    refine lv_goto (tgt := 14) hx hb dJ0_coder_7d493_10 (by decide) ?_
    exact W.zret (v := 0) hx hb hr (by decide) (fun T9 hT9 _ => ⟨rfl, hT9⟩) (fun _ h => by cases h) dJ0_coder_7d493_14

set_option maxHeartbeats 4000000 in
set_option maxRecDepth 100000 in
theorem t_isLat (l : Launch) (xq : Nat → Nat) (D : va_G) (cy : Nat → ClassId) (sz : Nat) (A : Nat → Prop) (t w : Nat) (c0 : Nat → Nat) : Met l yJ0_isLatin1_aae02 wsJ0_isLatin1_aae02 ({ frames := 0, cells := 0, slots := 0, locals := 0 } : Room) (tP xq D cy sz (A) [.ref t] [(t, w, c0)] [] (fun _ => True)) (sp_S (some (.int 1))) 0 0 (fun _ => False) := by
  refine Met.ofW (cc := cJ0_isLatin1_aae02) (maxL := 1) (ret := (some .boolean)) (by decide) rfl ?_
  intro p e s m args below meth c s₁ B hml hv
  obtain ⟨rfl, hsz, hZ, hK, hE, hT, hRw⟩ := hv
  have hx := B.exec
  have hb := B.bytes
  have hr := B.returns
  have hts := atoms_spec (ws := wsJ0_isLatin1_aae02) B.pre
  have hown : s.vm.findClass RJ0 = some m.cls := findClass_of_methodNamed B.named
  have hlocks := B.notSynchronized
  subst hsz
  have hS : va_S (A) s.heap s.heap [] := va_S.rf
  have hT0 : TXs t w c0 A s s.heap := hT (t, w, c0) (List.mem_singleton.mpr rfl)
  obtain ⟨v, f, hO, hC, hV, hB, hL, hF, hw⟩ := hT0
  have hl := lv_entry ([.ref t]) (n := 1) (Nat.le_of_ble_eq_true rfl)
  refine W.eq (lg_entry_eq _ ([.ref t]) _) ?_
  generalize (lg_sl ([.ref t]) ++ List.replicate (1 - (lg_sl ([.ref t])).length) Slot.unset).toArray = ls at hl ⊢
  have hl : lv_has ls 1 [(0, .ref t)] := hl
  refine va_gets hx hb hE.2.2.2.2.2.1 hS hown (hts _ (List.mem_of_getElem? (i := 1) rfl)) (fun _ h => h) dJ0_isLatin1_aae02_0 ?_
  refine lv_if_eq (tgt := 17) hx hb dJ0_isLatin1_aae02_3 (by decide) (fun c_1 => ?_) (fun c_1 => ?_)
  · exact absurd c_1 (by decide)
  · skip
    refine lv_aload_n hx hb dJ0_isLatin1_aae02_6 rfl (lv_at hl 0 rfl) ?_
    refine vk_getf hx hb hC hS hown (hts _ (List.mem_of_getElem? (i := 2) rfl)) (fun _ h => h) dJ0_isLatin1_aae02_7 ?_
    refine lv_if_ne (tgt := 17) hx hb dJ0_isLatin1_aae02_10 (by decide) (fun c_2 => ?_) (fun c_2 => ?_)
    · exact absurd rfl c_2
    · skip
      refine lv_iconst (v := 1) hx hb dJ0_isLatin1_aae02_13 (by decide) ?_
      refine lv_goto (tgt := 18) hx hb dJ0_isLatin1_aae02_14 (by decide) ?_
      exact W.zret (v := 1) hx hb hr (by decide) (fun T9 hT9 _ => ⟨rfl, hT9⟩) (fun _ h => by cases h) dJ0_isLatin1_aae02_18

set_option maxHeartbeats 4000000 in
set_option maxRecDepth 100000 in
theorem t_length (l : Launch) (xq : Nat → Nat) (D : va_G) (cy : Nat → ClassId) (sz : Nat) (A : Nat → Prop) (t w : Nat) (c0 : Nat → Nat) : Met l yJ0_length_8abf5 wsJ0_length_8abf5 ({ frames := 1, cells := 0, slots := 0, locals := 20 } : Room) (tP xq D cy sz (A) [.ref t] [(t, w, c0)] [] (fun _ => True)) (sp_S (some (.int (nI w)))) 0 0 (fun _ => False) := by
  refine Met.ofW (cc := cJ0_length_8abf5) (maxL := 1) (ret := (some .int)) (by decide) rfl ?_
  intro p e s m args below meth c s₁ B hml hv
  obtain ⟨rfl, hsz, hZ, hK, hE, hT, hRw⟩ := hv
  have hx := B.exec
  have hb := B.bytes
  have hr := B.returns
  have hts := atoms_spec (ws := wsJ0_length_8abf5) B.pre
  have hown : s.vm.findClass RJ0 = some m.cls := findClass_of_methodNamed B.named
  have hlocks := B.notSynchronized
  subst hsz
  have hS : va_S (A) s.heap s.heap [] := va_S.rf
  have hT0 : TXs t w c0 A s s.heap := hT (t, w, c0) (List.mem_singleton.mpr rfl)
  have hrec := hT0.recv hS
  obtain ⟨v, f, hO, hC, hV, hB, hL, hF, hw⟩ := hT0
  have hl := lv_entry ([.ref t]) (n := 1) (Nat.le_of_ble_eq_true rfl)
  refine W.eq (lg_entry_eq _ ([.ref t]) _) ?_
  generalize (lg_sl ([.ref t]) ++ List.replicate (1 - (lg_sl ([.ref t])).length) Slot.unset).toArray = ls at hl ⊢
  have hl : lv_has ls 1 [(0, .ref t)] := hl
  refine lv_aload_n hx hb dJ0_length_8abf5_0 rfl (lv_at hl 0 rfl) ?_
  refine vk_getf hx hb hV hS hown (hts _ (List.mem_of_getElem? (i := 1) rfl)) (fun _ h => h) dJ0_length_8abf5_1 ?_
  refine va_tlen hx hb hB hS (v := nI w) rfl dJ0_length_8abf5_4 ?_
  refine lv_aload_n hx hb dJ0_length_8abf5_5 rfl (lv_at hl 0 rfl) ?_
  refine sp_call (W.runV (As := []) (rest := [.int (nI w)]) ⟨hx, hb, hml, hown, hts⟩ (t_coder l xq D cy _ A t w c0) (cwV 0 hts gJ0_length_8abf5_J0_coder_7d493 rfl rfl rfl (by decide +kernel) ⟨Nat.le_of_ble_eq_true rfl, Nat.le_of_ble_eq_true rfl⟩) (tPreV hK hE hS (fun _ h => h) hrec trivial hT tNo) rfl rfl hl.1 rfl (lv_room (Nat.le_of_ble_eq_true rfl)) dJ0_length_8abf5_6 ⟨Nat.le_of_ble_eq_true rfl, Nat.le_of_ble_eq_true rfl⟩) ?_
  refine W.eq (g2 := F0 m 9 ls [.int 0, .int (nI w)]) rfl ?_
  refine lv_ishr hx hb dJ0_length_8abf5_9 ?_
  exact W.iret (v := nI w >>> ((0 : Int32) &&& 31)) hx hb hr (fun T9 hT9 _ => ⟨by rw [sb_shr0], hT9⟩) (fun _ h => by cases h) dJ0_length_8abf5_10

set_option maxHeartbeats 4000000 in
set_option maxRecDepth 100000 in
theorem t_J3check (l : Launch) (xq : Nat → Nat) (D : va_G) (cy : Nat → ClassId) (sz : Nat) (A : Nat → Prop) (k n : Nat) (hk : k < n) (hn : n < 2 ^ 31) (v : Value) (hv : v = .null ∨ ∃ r, v = .ref r) : Met l yJ3_checkIndex_8e157 wsJ3_checkIndex_8e157 ({ frames := 0, cells := 0, slots := 0, locals := 0 } : Room) (tP xq D cy sz A [.int (nI k), .int (nI n), v] [] [] (fun _ => True)) (sp_S (some (.int (nI k)))) 0 0 (fun _ => False) := by
  refine Met.ofW (cc := cJ3_checkIndex_8e157) (maxL := 3) (ret := (some .int)) (by decide) rfl ?_
  intro p e s m args below meth c s₁ B hml hv
  obtain ⟨rfl, hsz, hZ, hK, hE, hT, hRw⟩ := hv
  subst hsz
  have hx := B.exec
  have hb := B.bytes
  have hr := B.returns
  have hts := atoms_spec (ws := wsJ3_checkIndex_8e157) B.pre
  have hown : s.vm.findClass RJ3 = some m.cls := findClass_of_methodNamed B.named
  have hlocks := B.notSynchronized
  have hS : va_S A s.heap s.heap [] := va_S.rf
  rcases hv with rfl | ⟨r, rfl⟩
  · skip
    have hl := lv_entry ([.int (nI k), .int (nI n), .null]) (n := 3) (Nat.le_of_ble_eq_true rfl)
    refine W.eq (lg_entry_eq _ ([.int (nI k), .int (nI n), .null]) _) ?_
    generalize (lg_sl ([.int (nI k), .int (nI n), .null]) ++ List.replicate (3 - (lg_sl ([.int (nI k), .int (nI n), .null])).length) Slot.unset).toArray = ls at hl ⊢
    have hl : lv_has ls 3 [(0, .int (nI k)), (1, .int (nI n)), (2, .null)] := hl
    refine lv_iload_n hx hb dJ3_checkIndex_8e157_0 rfl (lv_at hl 0 rfl) ?_
    refine lv_if_lt (tgt := 9) hx hb dJ3_checkIndex_8e157_1 (by decide) (fun c_1 => ?_) (fun c_1 => ?_)
    · exact absurd c_1 (nI_pos (by omega))
    · refine lv_iload_n hx hb dJ3_checkIndex_8e157_4 rfl (lv_at hl 0 rfl) ?_
      refine lv_iload_n hx hb dJ3_checkIndex_8e157_5 rfl (lv_at hl 1 rfl) ?_
      refine lv_icmp_lt (tgt := 16) hx hb dJ3_checkIndex_8e157_6 (by decide) (fun c_2 => ?_) (fun c_2 => ?_)
      · refine lv_iload_n hx hb dJ3_checkIndex_8e157_16 rfl (lv_at hl 0 rfl) ?_
        exact W.iret (v := nI k) hx hb hr (fun T9 hT9 _ => ⟨rfl, hT9⟩) (fun _ h => by cases h) dJ3_checkIndex_8e157_17
      · exact absurd (nI_lt hk (by omega)) c_2
  · skip
    have hl := lv_entry ([.int (nI k), .int (nI n), .ref r]) (n := 3) (Nat.le_of_ble_eq_true rfl)
    refine W.eq (lg_entry_eq _ ([.int (nI k), .int (nI n), .ref r]) _) ?_
    generalize (lg_sl ([.int (nI k), .int (nI n), .ref r]) ++ List.replicate (3 - (lg_sl ([.int (nI k), .int (nI n), .ref r])).length) Slot.unset).toArray = ls at hl ⊢
    have hl : lv_has ls 3 [(0, .int (nI k)), (1, .int (nI n)), (2, .ref r)] := hl
    refine lv_iload_n hx hb dJ3_checkIndex_8e157_0 rfl (lv_at hl 0 rfl) ?_
    refine lv_if_lt (tgt := 9) hx hb dJ3_checkIndex_8e157_1 (by decide) (fun c_1 => ?_) (fun c_1 => ?_)
    · exact absurd c_1 (nI_pos (by omega))
    · refine lv_iload_n hx hb dJ3_checkIndex_8e157_4 rfl (lv_at hl 0 rfl) ?_
      refine lv_iload_n hx hb dJ3_checkIndex_8e157_5 rfl (lv_at hl 1 rfl) ?_
      refine lv_icmp_lt (tgt := 16) hx hb dJ3_checkIndex_8e157_6 (by decide) (fun c_2 => ?_) (fun c_2 => ?_)
      · refine lv_iload_n hx hb dJ3_checkIndex_8e157_16 rfl (lv_at hl 0 rfl) ?_
        exact W.iret (v := nI k) hx hb hr (fun T9 hT9 _ => ⟨rfl, hT9⟩) (fun _ h => by cases h) dJ3_checkIndex_8e157_17
      · exact absurd (nI_lt hk (by omega)) c_2
set_option maxHeartbeats 4000000 in
set_option maxRecDepth 100000 in
theorem t_J0check (l : Launch) (xq : Nat → Nat) (D : va_G) (cy : Nat → ClassId) (sz : Nat) (A : Nat → Prop) (k n : Nat) (hk : k < n) (hn : n < 2 ^ 31) : Met l yJ0_checkIndex_df160 wsJ0_checkIndex_df160 ({ frames := 1, cells := 0, slots := 0, locals := 22 } : Room) (tP xq D cy sz A [.int (nI k), .int (nI n)] [] [] (fun _ => True)) (sp_S (none)) 0 0 (fun _ => False) := by
  refine Met.ofW (cc := cJ0_checkIndex_df160) (maxL := 2) (ret := none) (by decide) rfl ?_
  intro p e s m args below meth c s₁ B hml hv
  obtain ⟨rfl, hsz, hZ, hK, hE, hT, hRw⟩ := hv
  subst hsz
  have hx := B.exec
  have hb := B.bytes
  have hr := B.returns
  have hts := atoms_spec (ws := wsJ0_checkIndex_df160) B.pre
  have hown : s.vm.findClass RJ0 = some m.cls := findClass_of_methodNamed B.named
  have hlocks := B.notSynchronized
  have hS : va_S A s.heap s.heap [] := va_S.rf
  have hl := lv_entry ([.int (nI k), .int (nI n)]) (n := 2) (Nat.le_of_ble_eq_true rfl)
  refine W.eq (lg_entry_eq _ ([.int (nI k), .int (nI n)]) _) ?_
  generalize (lg_sl ([.int (nI k), .int (nI n)]) ++ List.replicate (2 - (lg_sl ([.int (nI k), .int (nI n)])).length) Slot.unset).toArray = ls at hl ⊢
  have hl : lv_has ls 2 [(0, .int (nI k)), (1, .int (nI n))] := hl
  refine lv_iload_n hx hb dJ0_checkIndex_df160_0 rfl (lv_at hl 0 rfl) ?_
  refine lv_iload_n hx hb dJ0_checkIndex_df160_1 rfl (lv_at hl 1 rfl) ?_
  rcases hE.2.2.2.2.2.2.1 with hZ | ⟨r, hZ⟩
  · refine va_gets hx hb hZ hS hown (hts _ (List.mem_of_getElem? (i := 1) rfl)) (fun _ h => h) dJ0_checkIndex_df160_2 ?_
    refine sp_call (W.runS (As := [.int (nI k), .int (nI n), .null]) (rest := []) ⟨hx, hb, hml, hown, hts⟩ (t_J3check l xq D cy _ A k n hk hn (.null) (Or.inl rfl)) (va_cwS 3 hts gJ0_checkIndex_df160_J3_checkIndex_8e157 rfl rfl rfl (by decide +kernel) ⟨Nat.le_of_ble_eq_true rfl, Nat.le_of_ble_eq_true rfl⟩) (tPre hK hE hS (fun _ h => h) trivial tNo tNo) rfl rfl hl.1 rfl (lv_room (Nat.le_of_ble_eq_true rfl)) dJ0_checkIndex_df160_5 ⟨Nat.le_of_ble_eq_true rfl, Nat.le_of_ble_eq_true rfl⟩) ?_
    refine W.eq (g2 := F0 m 8 ls [.int (nI k)]) rfl ?_
    refine lv_pop hx hb dJ0_checkIndex_df160_8 rfl ?_
    exact W.vret hx hb hr (fun T9 hT9 _ => ⟨rfl, hT9⟩) (fun _ h => by cases h) dJ0_checkIndex_df160_9
  · refine va_gets hx hb hZ hS hown (hts _ (List.mem_of_getElem? (i := 1) rfl)) (fun _ h => h) dJ0_checkIndex_df160_2 ?_
    refine sp_call (W.runS (As := [.int (nI k), .int (nI n), .ref r]) (rest := []) ⟨hx, hb, hml, hown, hts⟩ (t_J3check l xq D cy _ A k n hk hn (.ref r) (Or.inr ⟨r, rfl⟩)) (va_cwS 3 hts gJ0_checkIndex_df160_J3_checkIndex_8e157 rfl rfl rfl (by decide +kernel) ⟨Nat.le_of_ble_eq_true rfl, Nat.le_of_ble_eq_true rfl⟩) (tPre hK hE hS (fun _ h => h) trivial tNo tNo) rfl rfl hl.1 rfl (lv_room (Nat.le_of_ble_eq_true rfl)) dJ0_checkIndex_df160_5 ⟨Nat.le_of_ble_eq_true rfl, Nat.le_of_ble_eq_true rfl⟩) ?_
    refine W.eq (g2 := F0 m 8 ls [.int (nI k)]) rfl ?_
    refine lv_pop hx hb dJ0_checkIndex_df160_8 rfl ?_
    exact W.vret hx hb hr (fun T9 hT9 _ => ⟨rfl, hT9⟩) (fun _ h => by cases h) dJ0_checkIndex_df160_9

set_option maxHeartbeats 4000000 in
set_option maxRecDepth 100000 in
theorem t_J1charAt (l : Launch) (xq : Nat → Nat) (D : va_G) (cy : Nat → ClassId) (sz : Nat) (A : Nat → Prop) (v w : Nat) (f : Nat → Int32) (c0 : Nat → Nat) (hL : sb_Lat c0 w f) (hw : w ≤ 65536) (k : Nat) (hk : k < w) : Met l yJ1_charAt_3b067 wsJ1_charAt_3b067 ({ frames := 2, cells := 0, slots := 0, locals := 43 } : Room) (tP xq D cy sz (A) [.ref v, .int (nI k)] [] [(v, w, f)] (fun _ => True)) (sp_S (some (.int (nI (c0 k))))) 0 0 (fun _ => False) := by
  refine Met.ofW (cc := cJ1_charAt_3b067) (maxL := 2) (ret := (some .char)) (by decide) rfl ?_
  intro p e s m args below meth c s₁ B hml hv
  obtain ⟨rfl, hsz, hZ, hK, hE, hT, hRw⟩ := hv
  have hx := B.exec
  have hb := B.bytes
  have hr := B.returns
  have hts := atoms_spec (ws := wsJ1_charAt_3b067) B.pre
  have hown : s.vm.findClass RJ1 = some m.cls := findClass_of_methodNamed B.named
  have hlocks := B.notSynchronized
  subst hsz
  have hS : va_S (A) s.heap s.heap [] := va_S.rf
  have hB : va_T .byte v w (fun j => .int (f j)) A s s.heap := hRw (v, w, f) (List.mem_singleton.mpr rfl)
  obtain ⟨hc8, hc9⟩ := hL k hk
  have hl := lv_entry ([.ref v, .int (nI k)]) (n := 2) (Nat.le_of_ble_eq_true rfl)
  refine W.eq (lg_entry_eq _ ([.ref v, .int (nI k)]) _) ?_
  generalize (lg_sl ([.ref v, .int (nI k)]) ++ List.replicate (2 - (lg_sl ([.ref v, .int (nI k)])).length) Slot.unset).toArray = ls at hl ⊢
  have hl : lv_has ls 2 [(0, .ref v), (1, .int (nI k))] := hl
  refine lv_iload_n hx hb dJ1_charAt_3b067_0 rfl (lv_at hl 1 rfl) ?_
  refine lv_aload_n hx hb dJ1_charAt_3b067_1 rfl (lv_at hl 0 rfl) ?_
  refine va_tlen hx hb hB hS (v := nI w) rfl dJ1_charAt_3b067_2 ?_
  refine sp_call (W.runS (As := [.int (nI k), .int (nI w)]) (rest := []) ⟨hx, hb, hml, hown, hts⟩ (t_J0check l xq D cy _ A k w hk (by omega)) (va_cwS 2 hts gJ1_charAt_3b067_J0_checkIndex_df160 rfl rfl rfl (by decide +kernel) ⟨Nat.le_of_ble_eq_true rfl, Nat.le_of_ble_eq_true rfl⟩) (tPre hK hE hS (fun _ h => h) trivial tNo tNo) rfl rfl hl.1 rfl (lv_room (Nat.le_of_ble_eq_true rfl)) dJ1_charAt_3b067_3 ⟨Nat.le_of_ble_eq_true rfl, Nat.le_of_ble_eq_true rfl⟩) ?_
  refine W.eq (g2 := F0 m 6 ls []) rfl ?_
  refine lv_aload_n hx hb dJ1_charAt_3b067_6 rfl (lv_at hl 0 rfl) ?_
  refine lv_iload_n hx hb dJ1_charAt_3b067_7 rfl (lv_at hl 1 rfl) ?_
  refine va_tb hx hb hB hS (vp_in_nI hk (by omega)) (v := .int (f k)) (by rw [nI_clamp (by omega)]) dJ1_charAt_3b067_8 ?_
  refine lv_sipush (v := 255) hx hb dJ1_charAt_3b067_9 (by decide) ?_
  refine lv_iand hx hb dJ1_charAt_3b067_12 ?_
  refine lv_i2c hx hb dJ1_charAt_3b067_13 (v := nI (c0 k)) (sb_chr hc8 hc9) ?_
  exact W.zret (v := nI (c0 k)) hx hb hr (pk_charN (by omega)).1 (fun T9 hT9 _ => ⟨rfl, hT9⟩) (fun _ h => by cases h) dJ1_charAt_3b067_14

set_option maxHeartbeats 4000000 in
set_option maxRecDepth 100000 in
theorem t_charAt (l : Launch) (xq : Nat → Nat) (D : va_G) (cy : Nat → ClassId) (sz : Nat) (A : Nat → Prop) (t w : Nat) (c0 : Nat → Nat) (k : Nat) (hk : k < w) : Met l yJ0_charAt_5068e wsJ0_charAt_5068e ({ frames := 3, cells := 0, slots := 0, locals := 64 } : Room) (tP xq D cy sz (A) [.ref t, .int (nI k)] [(t, w, c0)] [] (fun _ => True)) (sp_S (some (.int (nI (c0 k))))) 0 0 (fun _ => False) := by
  refine Met.ofW (cc := cJ0_charAt_5068e) (maxL := 2) (ret := (some .char)) (by decide) rfl ?_
  intro p e s m args below meth c s₁ B hml hv
  obtain ⟨rfl, hsz, hZ, hK, hE, hT, hRw⟩ := hv
  have hx := B.exec
  have hb := B.bytes
  have hr := B.returns
  have hts := atoms_spec (ws := wsJ0_charAt_5068e) B.pre
  have hown : s.vm.findClass RJ0 = some m.cls := findClass_of_methodNamed B.named
  have hlocks := B.notSynchronized
  subst hsz
  have hS : va_S (A) s.heap s.heap [] := va_S.rf
  have hT0 : TXs t w c0 A s s.heap := hT (t, w, c0) (List.mem_singleton.mpr rfl)
  have hrec := hT0.recv hS
  obtain ⟨v, f, hO, hC, hV, hB, hL, hF, hw⟩ := hT0
  have hl := lv_entry ([.ref t, .int (nI k)]) (n := 2) (Nat.le_of_ble_eq_true rfl)
  refine W.eq (lg_entry_eq _ ([.ref t, .int (nI k)]) _) ?_
  generalize (lg_sl ([.ref t, .int (nI k)]) ++ List.replicate (2 - (lg_sl ([.ref t, .int (nI k)])).length) Slot.unset).toArray = ls at hl ⊢
  have hl : lv_has ls 2 [(0, .ref t), (1, .int (nI k))] := hl
  refine lv_aload_n hx hb dJ0_charAt_5068e_0 rfl (lv_at hl 0 rfl) ?_
  refine sp_call (W.runV (As := []) (rest := []) ⟨hx, hb, hml, hown, hts⟩ (t_isLat l xq D cy _ A t w c0) (cwV 0 hts gJ0_charAt_5068e_J0_isLatin1_aae02 rfl rfl rfl (by decide +kernel) ⟨Nat.le_of_ble_eq_true rfl, Nat.le_of_ble_eq_true rfl⟩) (tPreV hK hE hS (fun _ h => h) hrec trivial hT tNo) rfl rfl hl.1 rfl (lv_room (Nat.le_of_ble_eq_true rfl)) dJ0_charAt_5068e_1 ⟨Nat.le_of_ble_eq_true rfl, Nat.le_of_ble_eq_true rfl⟩) ?_
  refine W.eq (g2 := F0 m 4 ls [.int 1]) rfl ?_
  refine lv_if_eq (tgt := 16) hx hb dJ0_charAt_5068e_4 (by decide) (fun c_1 => ?_) (fun c_1 => ?_)
  · exact absurd c_1 (by decide)
  · skip
    refine lv_aload_n hx hb dJ0_charAt_5068e_7 rfl (lv_at hl 0 rfl) ?_
    refine vk_getf hx hb hV hS hown (hts _ (List.mem_of_getElem? (i := 1) rfl)) (fun _ h => h) dJ0_charAt_5068e_8 ?_
    refine lv_iload_n hx hb dJ0_charAt_5068e_11 rfl (lv_at hl 1 rfl) ?_
    refine sp_call (W.runS (As := [.ref v, .int (nI k)]) (rest := []) ⟨hx, hb, hml, hown, hts⟩ (t_J1charAt l xq D cy _ A v w f c0 hL hw k hk) (va_cwS 2 hts gJ0_charAt_5068e_J1_charAt_3b067 rfl rfl rfl (by decide +kernel) ⟨Nat.le_of_ble_eq_true rfl, Nat.le_of_ble_eq_true rfl⟩) (tPre hK hE hS (fun _ h => h) trivial tNo (tOne hB)) rfl rfl hl.1 rfl (lv_room (Nat.le_of_ble_eq_true rfl)) dJ0_charAt_5068e_12 ⟨Nat.le_of_ble_eq_true rfl, Nat.le_of_ble_eq_true rfl⟩) ?_
    refine W.eq (g2 := F0 m 15 ls [.int (nI (c0 k))]) rfl ?_
    exact W.zret (v := nI (c0 k)) hx hb hr (pk_charN (by have := (hL k hk).1; omega)).1 (fun T9 hT9 _ => ⟨rfl, hT9⟩) (fun _ h => by cases h) dJ0_charAt_5068e_15
