/-! THE SCRIPT'S STRING CONSTANTS: what the JDK's own methods answer of them -/
def sp_PE (q : Nat → Nat) (A : Nat → Prop) (av : List Value) : Array Value → State → Prop := va_Pc av (fun U => EX q A U U.heap)
theorem sp_blindE {q : Nat → Nat} {A : Nat → Prop} {av : List Value} : FrameBlind (sp_PE q A av) := fun a U g mk z => ⟨z.1, EX.same (u := U) (U := U.calling g mk a) rfl z.2⟩
theorem sp_preE {s : State} {H : Heap} {q : Nat → Nat} {A : Nat → Prop} {locs : List Loc} {As : List Value} (hE : EX q A s s.heap) (hS : va_S A s.heap H locs) : PreS s H (sp_PE q A As) As := ⟨sp_blindE, fun U hU hW => ⟨rfl, by show EX q A U U.heap; rw [hU]; exact (hE.kept hS.2.1).warm hW⟩⟩
theorem sp_preEV {s : State} {H : Heap} {q : Nat → Nat} {A : Nat → Prop} {locs : List Loc} {As : List Value} {i : Nat} (hE : EX q A s s.heap) (hS : va_S A s.heap H locs) (hi : i < 5) : PreV s H "java/lang/String" (q i) (sp_PE q A (.ref (q i) :: As)) As := ⟨sp_blindE, vk_recv hE.2.2.2.2.1 hi hS, fun U hU hW => ⟨rfl, by show EX q A U U.heap; rw [hU]; exact (hE.kept hS.2.1).warm hW⟩⟩
def exC (i k : Nat) : Int32 := (exB.getD i []).getD k 0
theorem ex_len0 : ∀ i, i < 5 → b2i (exL.getD i 0 == 0) = if nI (exL.getD i 0) = 0 then 1 else 0 := by decide +kernel
theorem ex_shr : ∀ i, i < 5 → nI (exL.getD i 0) >>> ((0 : Int32) &&& 31) = nI (exL.getD i 0) := by decide +kernel
theorem ex_len9 : ∀ i, i < 5 → exL.getD i 0 ≤ 9 := by decide +kernel
theorem ex_char : ∀ i, i < 5 → ∀ k, k < 9 → cz (exC i k &&& 255) = exC i k := by decide +kernel
theorem ex_nc : ∀ i, i < 5 → ∀ k, k < 9 → narrow .char (.int (exC i k)) = .int (exC i k) := by decide +kernel
theorem EX.t0 {q : Nat → Nat} {A : Nat → Prop} {U : State} {H : Heap} (h : EX q A U H) : vk_R "SandProofreader$Script" 73 "d" (q 0) U := h.2.1 0 ("SandProofreader$Script", 73, "d") rfl
theorem EX.t1 {q : Nat → Nat} {A : Nat → Prop} {U : State} {H : Heap} (h : EX q A U H) : vk_R "SandProofreader$Script" 75 "i@t:r,cfd" (q 1) U := h.2.1 1 ("SandProofreader$Script", 75, "i@t:r,cfd") rfl
theorem EX.t2 {q : Nat → Nat} {A : Nat → Prop} {U : State} {H : Heap} (h : EX q A U H) : vk_R "SandProofreader$Script" 77 "i:r,c" (q 2) U := h.2.1 2 ("SandProofreader$Script", 77, "i:r,c") rfl
theorem EX.t3 {q : Nat → Nat} {A : Nat → Prop} {U : State} {H : Heap} (h : EX q A U H) : vk_R "SandProofreader$Script" 79 "i" (q 3) U := h.2.1 3 ("SandProofreader$Script", 79, "i") rfl
theorem EX.t4 {q : Nat → Nat} {A : Nat → Prop} {U : State} {H : Heap} (h : EX q A U H) : vk_R "SandProofreader$Script" 81 "" (q 4) U := h.2.1 4 ("SandProofreader$Script", 81, "") rfl
theorem EX.t5 {q : Nat → Nat} {A : Nat → Prop} {U : State} {H : Heap} (h : EX q A U H) : vk_R "SandProofreader" 72 "the maximum stride is out of range" (q 5) U := h.2.1 5 ("SandProofreader", 72, "the maximum stride is out of range") rfl
theorem EX.t6 {q : Nat → Nat} {A : Nat → Prop} {U : State} {H : Heap} (h : EX q A U H) : vk_R "SandProofreader" 453 "the call is rejected" (q 6) U := h.2.1 6 ("SandProofreader", 453, "the call is rejected") rfl
theorem EX.t7 {q : Nat → Nat} {A : Nat → Prop} {U : State} {H : Heap} (h : EX q A U H) : vk_R "SandProofreader" 427 "there is no track with this id" (q 7) U := h.2.1 7 ("SandProofreader", 427, "there is no track with this id") rfl
theorem EX.t8 {q : Nat → Nat} {A : Nat → Prop} {U : State} {H : Heap} (h : EX q A U H) : vk_R "SandProofreader" 438 "the cell is outside the beach" (q 8) U := h.2.1 8 ("SandProofreader", 438, "the cell is outside the beach") rfl
theorem EX.t9 {q : Nat → Nat} {A : Nat → Prop} {U : State} {H : Heap} (h : EX q A U H) : vk_R "SandProofreader" 110 "the time or the depth is out of range" (q 9) U := h.2.1 9 ("SandProofreader", 110, "the time or the depth is out of range") rfl
theorem EX.t10 {q : Nat → Nat} {A : Nat → Prop} {U : State} {H : Heap} (h : EX q A U H) : vk_R "SandProofreader" 432 "there is no print with this id" (q 10) U := h.2.1 10 ("SandProofreader", 432, "there is no print with this id") rfl
theorem EX.t11 {q : Nat → Nat} {A : Nat → Prop} {U : State} {H : Heap} (h : EX q A U H) : vk_R "SandProofreader" 445 "the level is out of range" (q 11) U := h.2.1 11 ("SandProofreader", 445, "the level is out of range") rfl
theorem EX.t12 {q : Nat → Nat} {A : Nat → Prop} {U : State} {H : Heap} (h : EX q A U H) : vk_R "SandProofreader" 447 "there is no such print" (q 12) U := h.2.1 12 ("SandProofreader", 447, "there is no such print") rfl
theorem EX.t13 {q : Nat → Nat} {A : Nat → Prop} {U : State} {H : Heap} (h : EX q A U H) : vk_R "SandProofreader" 245 "the track has fewer than two prints" (q 13) U := h.2.1 13 ("SandProofreader", 245, "the track has fewer than two prints") rfl
theorem EX.t14 {q : Nat → Nat} {A : Nat → Prop} {U : State} {H : Heap} (h : EX q A U H) : vk_R "SandProofreader" 267 "there is no such position" (q 14) U := h.2.1 14 ("SandProofreader", 267, "there is no such position") rfl
theorem EX.t15 {q : Nat → Nat} {A : Nat → Prop} {U : State} {H : Heap} (h : EX q A U H) : vk_R "SandProofreader" 440 "there is no such row" (q 15) U := h.2.1 15 ("SandProofreader", 440, "there is no such row") rfl
theorem EX.t16 {q : Nat → Nat} {A : Nat → Prop} {U : State} {H : Heap} (h : EX q A U H) : vk_R "SandProofreader" 302 "there are no prints" (q 16) U := h.2.1 16 ("SandProofreader", 302, "there are no prints") rfl
theorem EX.t17 {q : Nat → Nat} {A : Nat → Prop} {U : State} {H : Heap} (h : EX q A U H) : vk_R "SandProofreader" 338 "there is no character at this index" (q 17) U := h.2.1 17 ("SandProofreader", 338, "there is no character at this index") rfl
theorem EX.t18 {q : Nat → Nat} {A : Nat → Prop} {U : State} {H : Heap} (h : EX q A U H) : vk_R "SandProofreader" 345 "the code of the character is out of range" (q 18) U := h.2.1 18 ("SandProofreader", 345, "the code of the character is out of range") rfl
theorem EX.t19 {q : Nat → Nat} {A : Nat → Prop} {U : State} {H : Heap} (h : EX q A U H) : vk_R "SandProofreader" 355 "the input is full" (q 19) U := h.2.1 19 ("SandProofreader", 355, "the input is full") rfl
theorem EX.t20 {q : Nat → Nat} {A : Nat → Prop} {U : State} {H : Heap} (h : EX q A U H) : vk_R "SandProofreader" 361 "the input has a syntax error" (q 20) U := h.2.1 20 ("SandProofreader", 361, "the input has a syntax error") rfl
theorem EX.t21 {q : Nat → Nat} {A : Nat → Prop} {U : State} {H : Heap} (h : EX q A U H) : vk_R "SandProofreader" 383 "a command has an id, a cell or a number unfit for it" (q 21) U := h.2.1 21 ("SandProofreader", 383, "a command has an id, a cell or a number unfit for it") rfl
theorem EX.t22 {q : Nat → Nat} {A : Nat → Prop} {U : State} {H : Heap} (h : EX q A U H) : vk_R "SandProofreader" 397 "there was no syntax error" (q 22) U := h.2.1 22 ("SandProofreader", 397, "there was no syntax error") rfl
theorem EX.t23 {q : Nat → Nat} {A : Nat → Prop} {U : State} {H : Heap} (h : EX q A U H) : vk_R "SandProofreader" 449 "there was no such rejection" (q 23) U := h.2.1 23 ("SandProofreader", 449, "there was no such rejection") rfl
theorem EX.t24 {q : Nat → Nat} {A : Nat → Prop} {U : State} {H : Heap} (h : EX q A U H) : vk_R "SandProofreader" 413 "no change can be undone" (q 24) U := h.2.1 24 ("SandProofreader", 413, "no change can be undone") rfl
theorem EX.t25 {q : Nat → Nat} {A : Nat → Prop} {U : State} {H : Heap} (h : EX q A U H) : vk_R "SandProofreader" 418 "there is no snapshot" (q 25) U := h.2.1 25 ("SandProofreader", 418, "there is no snapshot") rfl
theorem EX.k0 {q : Nat → Nat} {A : Nat → Prop} {U : State} {H : Heap} (h : EX q A U H) : va_Nw (.castable "java/lang/IndexOutOfBoundsException" "java/lang/IndexOutOfBoundsException") U := h.2.2.2.2.2.2.2.1 0 "java/lang/IndexOutOfBoundsException" rfl
theorem EX.k1 {q : Nat → Nat} {A : Nat → Prop} {U : State} {H : Heap} (h : EX q A U H) : va_Nw (.castable "java/lang/IllegalArgumentException" "java/lang/IllegalArgumentException") U := h.2.2.2.2.2.2.2.1 1 "java/lang/IllegalArgumentException" rfl
theorem EX.k2 {q : Nat → Nat} {A : Nat → Prop} {U : State} {H : Heap} (h : EX q A U H) : va_Nw (.castable "java/lang/UnsupportedOperationException" "java/lang/UnsupportedOperationException") U := h.2.2.2.2.2.2.2.1 2 "java/lang/UnsupportedOperationException" rfl
theorem EX.k3 {q : Nat → Nat} {A : Nat → Prop} {U : State} {H : Heap} (h : EX q A U H) : va_Nw (.castable "java/util/NoSuchElementException" "java/util/NoSuchElementException") U := h.2.2.2.2.2.2.2.1 3 "java/util/NoSuchElementException" rfl
theorem EX.k4 {q : Nat → Nat} {A : Nat → Prop} {U : State} {H : Heap} (h : EX q A U H) : va_Nw (.castable "java/lang/ArithmeticException" "java/lang/ArithmeticException") U := h.2.2.2.2.2.2.2.1 4 "java/lang/ArithmeticException" rfl
theorem EX.k5 {q : Nat → Nat} {A : Nat → Prop} {U : State} {H : Heap} (h : EX q A U H) : va_Nw (.castable "java/lang/IllegalStateException" "java/lang/IllegalStateException") U := h.2.2.2.2.2.2.2.1 5 "java/lang/IllegalStateException" rfl
theorem EX.d0 {q : Nat → Nat} {A : Nat → Prop} {U : State} {H : Heap} (h : EX q A U H) : va_Nw (.declares (Bundle.initS "java/lang/RuntimeException")) U := h.2.2.2.2.2.2.2.2 0 "java/lang/RuntimeException" rfl
theorem EX.d1 {q : Nat → Nat} {A : Nat → Prop} {U : State} {H : Heap} (h : EX q A U H) : va_Nw (.declares (Bundle.initS "java/lang/Exception")) U := h.2.2.2.2.2.2.2.2 1 "java/lang/Exception" rfl
theorem EX.d2 {q : Nat → Nat} {A : Nat → Prop} {U : State} {H : Heap} (h : EX q A U H) : va_Nw (.declares (Bundle.initS "java/lang/Throwable")) U := h.2.2.2.2.2.2.2.2 2 "java/lang/Throwable" rfl
set_option maxHeartbeats 4000000 in
set_option maxRecDepth 100000 in
theorem c_J0_coder (l : Launch) (q : Nat → Nat) (A : Nat → Prop) (i : Nat) (hi : i < 5) : Met l yJ0_coder_7d493 wsJ0_coder_7d493 ({ frames := 0, cells := 0, slots := 0, locals := 0 } : Room) (sp_PE q A [.ref (q i)]) (sp_S (some (.int 0))) 0 0 (fun _ => False) := by
  refine Met.ofW (cc := cJ0_coder_7d493) (maxL := 1) (ret := (some .byte)) (by decide) rfl ?_
  intro p e s m args below meth c s₁ B hml hv
  obtain ⟨rfl, hE⟩ := hv
  have hx := B.exec
  have hb := B.bytes
  have hr := B.returns
  have hts := atoms_spec (ws := wsJ0_coder_7d493) B.pre
  have hown : s.vm.findClass RJ0 = some m.cls := findClass_of_methodNamed B.named
  have hlocks := B.notSynchronized
  have hS : va_S A s.heap s.heap [] := va_S.rf
  have hl := lv_entry ([.ref (q i)]) (n := 1) (Nat.le_of_ble_eq_true rfl)
  refine W.eq (lg_entry_eq _ ([.ref (q i)]) _) ?_
  generalize (lg_sl ([.ref (q i)]) ++ List.replicate (1 - (lg_sl ([.ref (q i)])).length) Slot.unset).toArray = ls at hl ⊢
  have hl : lv_has ls 1 [(0, .ref (q i))] := hl
  refine va_gets hx hb hE.2.2.2.2.2.1 hS hown (hts _ (List.mem_of_getElem? (i := 1) rfl)) (fun _ h => h) dJ0_coder_7d493_0 ?_
  refine lv_if_eq (tgt := 13) hx hb dJ0_coder_7d493_3 (by decide) (fun c_1 => ?_) (fun c_1 => ?_)
  · exact absurd c_1 (by decide)
  · refine lv_aload_n hx hb dJ0_coder_7d493_6 rfl (lv_at hl 0 rfl) ?_
    refine vk_getf hx hb (hE.2.2.2.2.1.1 i hi).2.1 hS hown (hts _ (List.mem_of_getElem? (i := 2) rfl)) (fun _ h => h) dJ0_coder_7d493_7 ?_
    refine lv_goto (tgt := 14) hx hb dJ0_coder_7d493_10 (by decide) ?_
    exact W.zret (v := 0) hx hb hr (by decide) (fun T9 hT9 _ => ⟨rfl, hT9⟩) (fun _ h => by cases h) dJ0_coder_7d493_14
set_option maxHeartbeats 4000000 in
set_option maxRecDepth 100000 in
theorem c_J0_isLatin1 (l : Launch) (q : Nat → Nat) (A : Nat → Prop) (i : Nat) (hi : i < 5) : Met l yJ0_isLatin1_aae02 wsJ0_isLatin1_aae02 ({ frames := 0, cells := 0, slots := 0, locals := 0 } : Room) (sp_PE q A [.ref (q i)]) (sp_S (some (.int 1))) 0 0 (fun _ => False) := by
  refine Met.ofW (cc := cJ0_isLatin1_aae02) (maxL := 1) (ret := (some .boolean)) (by decide) rfl ?_
  intro p e s m args below meth c s₁ B hml hv
  obtain ⟨rfl, hE⟩ := hv
  have hx := B.exec
  have hb := B.bytes
  have hr := B.returns
  have hts := atoms_spec (ws := wsJ0_isLatin1_aae02) B.pre
  have hown : s.vm.findClass RJ0 = some m.cls := findClass_of_methodNamed B.named
  have hlocks := B.notSynchronized
  have hS : va_S A s.heap s.heap [] := va_S.rf
  have hl := lv_entry ([.ref (q i)]) (n := 1) (Nat.le_of_ble_eq_true rfl)
  refine W.eq (lg_entry_eq _ ([.ref (q i)]) _) ?_
  generalize (lg_sl ([.ref (q i)]) ++ List.replicate (1 - (lg_sl ([.ref (q i)])).length) Slot.unset).toArray = ls at hl ⊢
  have hl : lv_has ls 1 [(0, .ref (q i))] := hl
  refine va_gets hx hb hE.2.2.2.2.2.1 hS hown (hts _ (List.mem_of_getElem? (i := 1) rfl)) (fun _ h => h) dJ0_isLatin1_aae02_0 ?_
  refine lv_if_eq (tgt := 17) hx hb dJ0_isLatin1_aae02_3 (by decide) (fun c_1 => ?_) (fun c_1 => ?_)
  · exact absurd c_1 (by decide)
  · refine lv_aload_n hx hb dJ0_isLatin1_aae02_6 rfl (lv_at hl 0 rfl) ?_
    refine vk_getf hx hb (hE.2.2.2.2.1.1 i hi).2.1 hS hown (hts _ (List.mem_of_getElem? (i := 2) rfl)) (fun _ h => h) dJ0_isLatin1_aae02_7 ?_
    refine lv_if_ne (tgt := 17) hx hb dJ0_isLatin1_aae02_10 (by decide) (fun c_2 => ?_) (fun c_2 => ?_)
    · exact absurd rfl c_2
    · refine lv_iconst (v := 1) hx hb dJ0_isLatin1_aae02_13 (by decide) ?_
      refine lv_goto (tgt := 18) hx hb dJ0_isLatin1_aae02_14 (by decide) ?_
      exact W.zret (v := 1) hx hb hr (by decide) (fun T9 hT9 _ => ⟨rfl, hT9⟩) (fun _ h => by cases h) dJ0_isLatin1_aae02_18
set_option maxHeartbeats 4000000 in
set_option maxRecDepth 100000 in
theorem c_J0_isEmpty (l : Launch) (q : Nat → Nat) (A : Nat → Prop) (i : Nat) (hi : i < 5) : Met l yJ0_isEmpty_aae02 wsJ0_isEmpty_aae02 ({ frames := 0, cells := 0, slots := 0, locals := 0 } : Room) (sp_PE q A [.ref (q i)]) (sp_S (some (.int (b2i (exL.getD i 0 == 0))))) 0 0 (fun _ => False) := by
  refine Met.ofW (cc := cJ0_isEmpty_aae02) (maxL := 1) (ret := (some .boolean)) (by decide) rfl ?_
  intro p e s m args below meth c s₁ B hml hv
  obtain ⟨rfl, hE⟩ := hv
  have hx := B.exec
  have hb := B.bytes
  have hr := B.returns
  have hts := atoms_spec (ws := wsJ0_isEmpty_aae02) B.pre
  have hown : s.vm.findClass RJ0 = some m.cls := findClass_of_methodNamed B.named
  have hlocks := B.notSynchronized
  have hS : va_S A s.heap s.heap [] := va_S.rf
  have hl := lv_entry ([.ref (q i)]) (n := 1) (Nat.le_of_ble_eq_true rfl)
  refine W.eq (lg_entry_eq _ ([.ref (q i)]) _) ?_
  generalize (lg_sl ([.ref (q i)]) ++ List.replicate (1 - (lg_sl ([.ref (q i)])).length) Slot.unset).toArray = ls at hl ⊢
  have hl : lv_has ls 1 [(0, .ref (q i))] := hl
  refine lv_aload_n hx hb dJ0_isEmpty_aae02_0 rfl (lv_at hl 0 rfl) ?_
  refine vk_getf hx hb (hE.2.2.2.2.1.1 i hi).2.2.1 hS hown (hts _ (List.mem_of_getElem? (i := 1) rfl)) (fun _ h => h) dJ0_isEmpty_aae02_1 ?_
  refine va_tlen hx hb (hE.2.2.2.2.1.1 i hi).2.2.2 hS (v := nI (exL.getD i 0)) rfl dJ0_isEmpty_aae02_4 ?_
  refine lv_if_ne (tgt := 12) hx hb dJ0_isEmpty_aae02_5 (by decide) (fun c_1 => ?_) (fun c_1 => ?_)
  · refine lv_iconst (v := 0) hx hb dJ0_isEmpty_aae02_12 (by decide) ?_
    exact W.zret (v := 0) hx hb hr (by decide) (fun T9 hT9 _ => ⟨by rw [ex_len0 i hi, if_neg c_1], hT9⟩) (fun _ h => by cases h) dJ0_isEmpty_aae02_13
  · refine lv_iconst (v := 1) hx hb dJ0_isEmpty_aae02_8 (by decide) ?_
    refine lv_goto (tgt := 13) hx hb dJ0_isEmpty_aae02_9 (by decide) ?_
    exact W.zret (v := 1) hx hb hr (by decide) (fun T9 hT9 _ => ⟨by rw [ex_len0 i hi, if_pos c_1], hT9⟩) (fun _ h => by cases h) dJ0_isEmpty_aae02_13
set_option maxHeartbeats 4000000 in
set_option maxRecDepth 100000 in
theorem c_J0_length (l : Launch) (q : Nat → Nat) (A : Nat → Prop) (i : Nat) (hi : i < 5) : Met l yJ0_length_8abf5 wsJ0_length_8abf5 ({ frames := 1, cells := 0, slots := 0, locals := 20 } : Room) (sp_PE q A [.ref (q i)]) (sp_S (some (.int (nI (exL.getD i 0))))) 0 0 (fun _ => False) := by
  refine Met.ofW (cc := cJ0_length_8abf5) (maxL := 1) (ret := (some .int)) (by decide) rfl ?_
  intro p e s m args below meth c s₁ B hml hv
  obtain ⟨rfl, hE⟩ := hv
  have hx := B.exec
  have hb := B.bytes
  have hr := B.returns
  have hts := atoms_spec (ws := wsJ0_length_8abf5) B.pre
  have hown : s.vm.findClass RJ0 = some m.cls := findClass_of_methodNamed B.named
  have hlocks := B.notSynchronized
  have hS : va_S A s.heap s.heap [] := va_S.rf
  have hl := lv_entry ([.ref (q i)]) (n := 1) (Nat.le_of_ble_eq_true rfl)
  refine W.eq (lg_entry_eq _ ([.ref (q i)]) _) ?_
  generalize (lg_sl ([.ref (q i)]) ++ List.replicate (1 - (lg_sl ([.ref (q i)])).length) Slot.unset).toArray = ls at hl ⊢
  have hl : lv_has ls 1 [(0, .ref (q i))] := hl
  refine lv_aload_n hx hb dJ0_length_8abf5_0 rfl (lv_at hl 0 rfl) ?_
  refine vk_getf hx hb (hE.2.2.2.2.1.1 i hi).2.2.1 hS hown (hts _ (List.mem_of_getElem? (i := 1) rfl)) (fun _ h => h) dJ0_length_8abf5_1 ?_
  refine va_tlen hx hb (hE.2.2.2.2.1.1 i hi).2.2.2 hS (v := nI (exL.getD i 0)) rfl dJ0_length_8abf5_4 ?_
  refine lv_aload_n hx hb dJ0_length_8abf5_5 rfl (lv_at hl 0 rfl) ?_
  refine sp_call (W.runV (As := []) (rest := [.int (nI (exL.getD i 0))]) ⟨hx, hb, hml, hown, hts⟩ (c_J0_coder l q A i hi) (cwV 0 hts gJ0_length_8abf5_J0_coder_7d493 rfl rfl rfl (by decide +kernel) ⟨Nat.le_of_ble_eq_true rfl, Nat.le_of_ble_eq_true rfl⟩) (sp_preEV hE hS hi) rfl rfl hl.1 rfl (lv_room (Nat.le_of_ble_eq_true rfl)) dJ0_length_8abf5_6 ⟨Nat.le_of_ble_eq_true rfl, Nat.le_of_ble_eq_true rfl⟩) ?_
  refine W.eq (g2 := F0 m 9 ls [.int 0, .int (nI (exL.getD i 0))]) rfl ?_
  refine lv_ishr hx hb dJ0_length_8abf5_9 ?_
  exact W.iret (v := nI (exL.getD i 0) >>> ((0 : Int32) &&& 31)) hx hb hr (fun T9 hT9 _ => ⟨by rw [ex_shr i hi], hT9⟩) (fun _ h => by cases h) dJ0_length_8abf5_10
set_option maxHeartbeats 4000000 in
set_option maxRecDepth 100000 in
theorem c_J3_check (l : Launch) (q : Nat → Nat) (A : Nat → Prop) (k n : Nat) (hk : k < n) (hn : n ≤ 9) (v : Value) (hv : v = .null ∨ ∃ r, v = .ref r) : Met l yJ3_checkIndex_8e157 wsJ3_checkIndex_8e157 ({ frames := 0, cells := 0, slots := 0, locals := 0 } : Room) (sp_PE q A [.int (nI k), .int (nI n), v]) (sp_S (some (.int (nI k)))) 0 0 (fun _ => False) := by
  refine Met.ofW (cc := cJ3_checkIndex_8e157) (maxL := 3) (ret := (some .int)) (by decide) rfl ?_
  intro p e s m args below meth c s₁ B hml hv
  obtain ⟨rfl, hE⟩ := hv
  have hx := B.exec
  have hb := B.bytes
  have hr := B.returns
  have hts := atoms_spec (ws := wsJ3_checkIndex_8e157) B.pre
  have hown : s.vm.findClass RJ3 = some m.cls := findClass_of_methodNamed B.named
  have hlocks := B.notSynchronized
  have hS : va_S A s.heap s.heap [] := va_S.rf
  rcases hv with rfl | ⟨r, rfl⟩
  · skip
    have hl := lv_entry ([.int (nI k), .int (nI n), .null]) (n := 3) (Nat.le_of_ble_eq_true rfl)
    refine W.eq (lg_entry_eq _ ([.int (nI k), .int (nI n), .null]) _) ?_
    generalize (lg_sl ([.int (nI k), .int (nI n), .null]) ++ List.replicate (3 - (lg_sl ([.int (nI k), .int (nI n), .null])).length) Slot.unset).toArray = ls at hl ⊢
    have hl : lv_has ls 3 [(0, .int (nI k)), (1, .int (nI n)), (2, .null)] := hl
    refine lv_iload_n hx hb dJ3_checkIndex_8e157_0 rfl (lv_at hl 0 rfl) ?_
    refine lv_if_lt (tgt := 9) hx hb dJ3_checkIndex_8e157_1 (by decide) (fun c_1 => ?_) (fun c_1 => ?_)
    · exact absurd c_1 (nI_pos (by omega))
    · refine lv_iload_n hx hb dJ3_checkIndex_8e157_4 rfl (lv_at hl 0 rfl) ?_
      refine lv_iload_n hx hb dJ3_checkIndex_8e157_5 rfl (lv_at hl 1 rfl) ?_
      refine lv_icmp_lt (tgt := 16) hx hb dJ3_checkIndex_8e157_6 (by decide) (fun c_2 => ?_) (fun c_2 => ?_)
      · refine lv_iload_n hx hb dJ3_checkIndex_8e157_16 rfl (lv_at hl 0 rfl) ?_
        exact W.iret (v := nI k) hx hb hr (fun T9 hT9 _ => ⟨rfl, hT9⟩) (fun _ h => by cases h) dJ3_checkIndex_8e157_17
      · exact absurd (nI_lt hk (by omega)) c_2
  · skip
    have hl := lv_entry ([.int (nI k), .int (nI n), .ref r]) (n := 3) (Nat.le_of_ble_eq_true rfl)
    refine W.eq (lg_entry_eq _ ([.int (nI k), .int (nI n), .ref r]) _) ?_
    generalize (lg_sl ([.int (nI k), .int (nI n), .ref r]) ++ List.replicate (3 - (lg_sl ([.int (nI k), .int (nI n), .ref r])).length) Slot.unset).toArray = ls at hl ⊢
    have hl : lv_has ls 3 [(0, .int (nI k)), (1, .int (nI n)), (2, .ref r)] := hl
    refine lv_iload_n hx hb dJ3_checkIndex_8e157_0 rfl (lv_at hl 0 rfl) ?_
    refine lv_if_lt (tgt := 9) hx hb dJ3_checkIndex_8e157_1 (by decide) (fun c_1 => ?_) (fun c_1 => ?_)
    · exact absurd c_1 (nI_pos (by omega))
    · refine lv_iload_n hx hb dJ3_checkIndex_8e157_4 rfl (lv_at hl 0 rfl) ?_
      refine lv_iload_n hx hb dJ3_checkIndex_8e157_5 rfl (lv_at hl 1 rfl) ?_
      refine lv_icmp_lt (tgt := 16) hx hb dJ3_checkIndex_8e157_6 (by decide) (fun c_2 => ?_) (fun c_2 => ?_)
      · refine lv_iload_n hx hb dJ3_checkIndex_8e157_16 rfl (lv_at hl 0 rfl) ?_
        exact W.iret (v := nI k) hx hb hr (fun T9 hT9 _ => ⟨rfl, hT9⟩) (fun _ h => by cases h) dJ3_checkIndex_8e157_17
      · exact absurd (nI_lt hk (by omega)) c_2
set_option maxHeartbeats 4000000 in
set_option maxRecDepth 100000 in
theorem c_J0_check (l : Launch) (q : Nat → Nat) (A : Nat → Prop) (k n : Nat) (hk : k < n) (hn : n ≤ 9) : Met l yJ0_checkIndex_df160 wsJ0_checkIndex_df160 ({ frames := 1, cells := 0, slots := 0, locals := 22 } : Room) (sp_PE q A [.int (nI k), .int (nI n)]) (sp_S (none)) 0 0 (fun _ => False) := by
  refine Met.ofW (cc := cJ0_checkIndex_df160) (maxL := 2) (ret := none) (by decide) rfl ?_
  intro p e s m args below meth c s₁ B hml hv
  obtain ⟨rfl, hE⟩ := hv
  have hx := B.exec
  have hb := B.bytes
  have hr := B.returns
  have hts := atoms_spec (ws := wsJ0_checkIndex_df160) B.pre
  have hown : s.vm.findClass RJ0 = some m.cls := findClass_of_methodNamed B.named
  have hlocks := B.notSynchronized
  have hS : va_S A s.heap s.heap [] := va_S.rf
  have hl := lv_entry ([.int (nI k), .int (nI n)]) (n := 2) (Nat.le_of_ble_eq_true rfl)
  refine W.eq (lg_entry_eq _ ([.int (nI k), .int (nI n)]) _) ?_
  generalize (lg_sl ([.int (nI k), .int (nI n)]) ++ List.replicate (2 - (lg_sl ([.int (nI k), .int (nI n)])).length) Slot.unset).toArray = ls at hl ⊢
  have hl : lv_has ls 2 [(0, .int (nI k)), (1, .int (nI n))] := hl
  refine lv_iload_n hx hb dJ0_checkIndex_df160_0 rfl (lv_at hl 0 rfl) ?_
  refine lv_iload_n hx hb dJ0_checkIndex_df160_1 rfl (lv_at hl 1 rfl) ?_
  rcases hE.2.2.2.2.2.2.1 with hZ | ⟨r, hZ⟩
  · refine va_gets hx hb hZ hS hown (hts _ (List.mem_of_getElem? (i := 1) rfl)) (fun _ h => h) dJ0_checkIndex_df160_2 ?_
    refine sp_call (W.runS (As := [.int (nI k), .int (nI n), .null]) (rest := []) ⟨hx, hb, hml, hown, hts⟩ (c_J3_check l q A k n hk hn (.null) (Or.inl rfl)) (va_cwS 3 hts gJ0_checkIndex_df160_J3_checkIndex_8e157 rfl rfl rfl (by decide +kernel) ⟨Nat.le_of_ble_eq_true rfl, Nat.le_of_ble_eq_true rfl⟩) (sp_preE hE hS) rfl rfl hl.1 rfl (lv_room (Nat.le_of_ble_eq_true rfl)) dJ0_checkIndex_df160_5 ⟨Nat.le_of_ble_eq_true rfl, Nat.le_of_ble_eq_true rfl⟩) ?_
    refine W.eq (g2 := F0 m 8 ls [.int (nI k)]) rfl ?_
    refine lv_pop hx hb dJ0_checkIndex_df160_8 rfl ?_
    exact W.vret hx hb hr (fun T9 hT9 _ => ⟨rfl, hT9⟩) (fun _ h => by cases h) dJ0_checkIndex_df160_9
  · refine va_gets hx hb hZ hS hown (hts _ (List.mem_of_getElem? (i := 1) rfl)) (fun _ h => h) dJ0_checkIndex_df160_2 ?_
    refine sp_call (W.runS (As := [.int (nI k), .int (nI n), .ref r]) (rest := []) ⟨hx, hb, hml, hown, hts⟩ (c_J3_check l q A k n hk hn (.ref r) (Or.inr ⟨r, rfl⟩)) (va_cwS 3 hts gJ0_checkIndex_df160_J3_checkIndex_8e157 rfl rfl rfl (by decide +kernel) ⟨Nat.le_of_ble_eq_true rfl, Nat.le_of_ble_eq_true rfl⟩) (sp_preE hE hS) rfl rfl hl.1 rfl (lv_room (Nat.le_of_ble_eq_true rfl)) dJ0_checkIndex_df160_5 ⟨Nat.le_of_ble_eq_true rfl, Nat.le_of_ble_eq_true rfl⟩) ?_
    refine W.eq (g2 := F0 m 8 ls [.int (nI k)]) rfl ?_
    refine lv_pop hx hb dJ0_checkIndex_df160_8 rfl ?_
    exact W.vret hx hb hr (fun T9 hT9 _ => ⟨rfl, hT9⟩) (fun _ h => by cases h) dJ0_checkIndex_df160_9
set_option maxHeartbeats 4000000 in
set_option maxRecDepth 100000 in
theorem c_J1_charAt (l : Launch) (q : Nat → Nat) (A : Nat → Prop) (i : Nat) (hi : i < 5) (k : Nat) (hk : k < exL.getD i 0) : Met l yJ1_charAt_3b067 wsJ1_charAt_3b067 ({ frames := 2, cells := 0, slots := 0, locals := 43 } : Room) (sp_PE q A [.ref (q (100 + i)), .int (nI k)]) (sp_S (some (.int (exC i k)))) 0 0 (fun _ => False) := by
  refine Met.ofW (cc := cJ1_charAt_3b067) (maxL := 2) (ret := (some .char)) (by decide) rfl ?_
  intro p e s m args below meth c s₁ B hml hv
  obtain ⟨rfl, hE⟩ := hv
  have hx := B.exec
  have hb := B.bytes
  have hr := B.returns
  have hts := atoms_spec (ws := wsJ1_charAt_3b067) B.pre
  have hown : s.vm.findClass RJ1 = some m.cls := findClass_of_methodNamed B.named
  have hlocks := B.notSynchronized
  have hS : va_S A s.heap s.heap [] := va_S.rf
  have hl := lv_entry ([.ref (q (100 + i)), .int (nI k)]) (n := 2) (Nat.le_of_ble_eq_true rfl)
  refine W.eq (lg_entry_eq _ ([.ref (q (100 + i)), .int (nI k)]) _) ?_
  generalize (lg_sl ([.ref (q (100 + i)), .int (nI k)]) ++ List.replicate (2 - (lg_sl ([.ref (q (100 + i)), .int (nI k)])).length) Slot.unset).toArray = ls at hl ⊢
  have hl : lv_has ls 2 [(0, .ref (q (100 + i))), (1, .int (nI k))] := hl
  have h9 := ex_len9 i hi
  refine lv_iload_n hx hb dJ1_charAt_3b067_0 rfl (lv_at hl 1 rfl) ?_
  refine lv_aload_n hx hb dJ1_charAt_3b067_1 rfl (lv_at hl 0 rfl) ?_
  refine va_tlen hx hb (hE.2.2.2.2.1.1 i hi).2.2.2 hS (v := nI (exL.getD i 0)) rfl dJ1_charAt_3b067_2 ?_
  refine sp_call (W.runS (As := [.int (nI k), .int (nI (exL.getD i 0))]) (rest := []) ⟨hx, hb, hml, hown, hts⟩ (c_J0_check l q A k (exL.getD i 0) hk h9) (va_cwS 2 hts gJ1_charAt_3b067_J0_checkIndex_df160 rfl rfl rfl (by decide +kernel) ⟨Nat.le_of_ble_eq_true rfl, Nat.le_of_ble_eq_true rfl⟩) (sp_preE hE hS) rfl rfl hl.1 rfl (lv_room (Nat.le_of_ble_eq_true rfl)) dJ1_charAt_3b067_3 ⟨Nat.le_of_ble_eq_true rfl, Nat.le_of_ble_eq_true rfl⟩) ?_
  refine W.eq (g2 := F0 m 6 ls []) rfl ?_
  refine lv_aload_n hx hb dJ1_charAt_3b067_6 rfl (lv_at hl 0 rfl) ?_
  refine lv_iload_n hx hb dJ1_charAt_3b067_7 rfl (lv_at hl 1 rfl) ?_
  refine va_tb hx hb (hE.2.2.2.2.1.1 i hi).2.2.2 hS (vp_in_nI hk (by omega)) (v := .int (exC i k)) (by rw [nI_clamp (by omega)]; rfl) dJ1_charAt_3b067_8 ?_
  refine lv_sipush (v := 255) hx hb dJ1_charAt_3b067_9 (by decide) ?_
  refine lv_iand hx hb dJ1_charAt_3b067_12 ?_
  refine lv_i2c hx hb dJ1_charAt_3b067_13 (v := exC i k) (ex_char i hi k (by omega)) ?_
  exact W.zret (v := exC i k) hx hb hr (ex_nc i hi k (by omega)) (fun T9 hT9 _ => ⟨rfl, hT9⟩) (fun _ h => by cases h) dJ1_charAt_3b067_14
set_option maxHeartbeats 4000000 in
set_option maxRecDepth 100000 in
theorem c_J0_charAt (l : Launch) (q : Nat → Nat) (A : Nat → Prop) (i : Nat) (hi : i < 5) (k : Nat) (hk : k < exL.getD i 0) : Met l yJ0_charAt_5068e wsJ0_charAt_5068e ({ frames := 3, cells := 0, slots := 0, locals := 64 } : Room) (sp_PE q A [.ref (q i), .int (nI k)]) (sp_S (some (.int (exC i k)))) 0 0 (fun _ => False) := by
  refine Met.ofW (cc := cJ0_charAt_5068e) (maxL := 2) (ret := (some .char)) (by decide) rfl ?_
  intro p e s m args below meth c s₁ B hml hv
  obtain ⟨rfl, hE⟩ := hv
  have hx := B.exec
  have hb := B.bytes
  have hr := B.returns
  have hts := atoms_spec (ws := wsJ0_charAt_5068e) B.pre
  have hown : s.vm.findClass RJ0 = some m.cls := findClass_of_methodNamed B.named
  have hlocks := B.notSynchronized
  have hS : va_S A s.heap s.heap [] := va_S.rf
  have hl := lv_entry ([.ref (q i), .int (nI k)]) (n := 2) (Nat.le_of_ble_eq_true rfl)
  refine W.eq (lg_entry_eq _ ([.ref (q i), .int (nI k)]) _) ?_
  generalize (lg_sl ([.ref (q i), .int (nI k)]) ++ List.replicate (2 - (lg_sl ([.ref (q i), .int (nI k)])).length) Slot.unset).toArray = ls at hl ⊢
  have hl : lv_has ls 2 [(0, .ref (q i)), (1, .int (nI k))] := hl
  refine lv_aload_n hx hb dJ0_charAt_5068e_0 rfl (lv_at hl 0 rfl) ?_
  refine sp_call (W.runV (As := []) (rest := []) ⟨hx, hb, hml, hown, hts⟩ (c_J0_isLatin1 l q A i hi) (cwV 0 hts gJ0_charAt_5068e_J0_isLatin1_aae02 rfl rfl rfl (by decide +kernel) ⟨Nat.le_of_ble_eq_true rfl, Nat.le_of_ble_eq_true rfl⟩) (sp_preEV hE hS hi) rfl rfl hl.1 rfl (lv_room (Nat.le_of_ble_eq_true rfl)) dJ0_charAt_5068e_1 ⟨Nat.le_of_ble_eq_true rfl, Nat.le_of_ble_eq_true rfl⟩) ?_
  refine W.eq (g2 := F0 m 4 ls [.int 1]) rfl ?_
  refine lv_if_eq (tgt := 16) hx hb dJ0_charAt_5068e_4 (by decide) (fun c_1 => ?_) (fun c_1 => ?_)
  · exact absurd c_1 (by decide)
  · refine lv_aload_n hx hb dJ0_charAt_5068e_7 rfl (lv_at hl 0 rfl) ?_
    refine vk_getf hx hb (hE.2.2.2.2.1.1 i hi).2.2.1 hS hown (hts _ (List.mem_of_getElem? (i := 1) rfl)) (fun _ h => h) dJ0_charAt_5068e_8 ?_
    refine lv_iload_n hx hb dJ0_charAt_5068e_11 rfl (lv_at hl 1 rfl) ?_
    refine sp_call (W.runS (As := [.ref (q (100 + i)), .int (nI k)]) (rest := []) ⟨hx, hb, hml, hown, hts⟩ (c_J1_charAt l q A i hi k hk) (va_cwS 2 hts gJ0_charAt_5068e_J1_charAt_3b067 rfl rfl rfl (by decide +kernel) ⟨Nat.le_of_ble_eq_true rfl, Nat.le_of_ble_eq_true rfl⟩) (sp_preE hE hS) rfl rfl hl.1 rfl (lv_room (Nat.le_of_ble_eq_true rfl)) dJ0_charAt_5068e_12 ⟨Nat.le_of_ble_eq_true rfl, Nat.le_of_ble_eq_true rfl⟩) ?_
    refine W.eq (g2 := F0 m 15 ls [.int (exC i k)]) rfl ?_
    exact W.zret (v := exC i k) hx hb hr (ex_nc i hi k (by have := ex_len9 i hi; omega)) (fun T9 hT9 _ => ⟨rfl, hT9⟩) (fun _ h => by cases h) dJ0_charAt_5068e_15

