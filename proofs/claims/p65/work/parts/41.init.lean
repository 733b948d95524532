/-! CONSTRUCTORS BY CONTINUATION: each row leaves a new world that agrees with the old one -/
section IR2
variable {p : Program} {l : Launch} {e : Env} {R : Room} {s : State} {m : MethodId} {args : Array Value} {below : List Frame} {meth : Method} {c : Code} {H : Heap} {locs : List Loc} {cells slots : Nat} {Q : State → Prop}
variable {cc : ByteArray} {pc : Nat} {ls : Array Slot} {rest st0 : List Value} {D : va_G} {A : Nat → Prop} {tys : List (ClassId × FieldType)} {H0 : Heap} {ad : Nat → Nat} {n : Nat} {E : Nat → va_E} {a : Array Value}
abbrev agA (n : Nat) (ad ad1 : Nat → Nat) : Prop := ∀ k, k < n → ad1 k = ad k
abbrev agE (n : Nat) (E E1 : Nat → va_E) : Prop := ∀ k, k < n → E1 k = E k
abbrev agX (κ : Nat) (E E1 : Nat → va_E) : Prop := ∀ k, k ≠ κ → E1 k = E k
theorem j_new (hexec : p.tables.exec = Jvm.exec) (hb : c.code = cc) {own C : String} {T : u_T} {N ci index : Nat} {Ts : List Cond} (hts : ∀ w ∈ Ts, w.before args s = true) (hin : ∀ w ∈ u_ws C T N, w ∈ Ts) (ty : Nat → FieldType) (hty : ∀ k, k < N → parseFieldDescriptor (T k).2.2.1 = some (ty k)) (hown : s.vm.findClass own = some m.cls) (hcl : (Cond.classLink own index C).before args s = true) (hinst : (Cond.instantiable C N).before args s = true) (hini : (Cond.initialized C).before args s = true)
    (hK : va_K D vwCl tys s) (hP : iP D A ad n E H) (hS : va_S A H0 H locs) (hA : ∀ q, H0.size ≤ q → A q) (hc : vwCl[ci]? = some (C, T, N)) {fs : List Value} (hfs : ∀ j, j < N → defaultValue (ty j) = vp_V fs j) (hcells : cells + 1 ≤ R.cells) (hslots : slots + N ≤ R.slots) (hdg : decode cc pc = .ok (.new index, 3))
    (kk : ∀ (z : Nat) (H1 : Heap) (ad1 : Nat → Nat) (E1 : Nat → va_E), iP D A ad1 (n + 1) E1 H1 → agA n ad ad1 → agE n E E1 → ad1 n = z → E1 n = .inr (ci, fs) → H0.size ≤ z → va_S A H0 H1 locs →
      W p l e R s m args below meth c H1 locs (cells + 1) (slots + N) Q (F0 m (pc + 3) ls (.ref z :: rest))) : W p l e R s m args below meth c H locs cells slots Q (F0 m pc ls rest) :=
  i_new hexec hb hts hin ty hty hown hcl hinst hini hK hP hS hA hc hfs hcells hslots hdg fun z H1 hz hP1 hS1 _ => kk z H1 _ _ hP1 (fun k hk => eU_n _ _ (by omega)) (fun k hk => eU_n _ _ (by omega)) (eU_s _ _ _) (eU_s _ _ _) hz hS1
theorem j_newq (hexec : p.tables.exec = Jvm.exec) (hb : c.code = cc) {own C : String} {index : Nat} (hown : s.vm.findClass own = some m.cls) (hclink : (Cond.classLink own index C).before args s = true) (hover : va_AO C s) (hK : va_K D vwCl tys s) (hP : iP D A ad n E H) (hS : va_S A H0 H locs) (hA : ∀ q, H0.size ≤ q → A q) (t0 : Nat) {cA : ClassId} (ht : tys[t0]? = some (cA, .object C))
    {x : Int32} {N' : Nat} (hn : ¬ x < 0) (hN : x.toNatClampNeg = N') (hbytes : N' * 4 ≤ 536870912) (hcells : cells + 1 ≤ R.cells) (hslots : slots + N' ≤ R.slots) (hdg : decode cc pc = .ok (.anewarray index, 3))
    (kk : ∀ (z : Nat) (H1 : Heap) (ad1 : Nat → Nat) (E1 : Nat → va_E), iP D A ad1 (n + 1) E1 H1 → agA n ad ad1 → agE n E E1 → ad1 n = z → E1 n = rA cA N' (fun _ => none) → H0.size ≤ z → va_S A H0 H1 locs →
      W p l e R s m args below meth c H1 locs (cells + 1) (slots + N') Q (F0 m (pc + 3) ls (.ref z :: rest))) : W p l e R s m args below meth c H locs cells slots Q (F0 m pc ls (.int x :: rest)) :=
  i_newq hexec hb hown hclink hover hK hP hS hA t0 ht hn hN hbytes hcells hslots hdg fun z H1 hz hP1 hS1 => kk z H1 _ _ hP1 (fun k hk => eU_n _ _ (by omega)) (fun k hk => eU_n _ _ (by omega)) (eU_s _ _ _) (eU_s _ _ _) hz hS1
/-- an array of numbers or signs whose class the tables name -/
theorem j_newa (hexec : p.tables.exec = Jvm.exec) (hb : c.code = cc) {atype : ArrayType} (harr : (Cond.arrayClass (newarray.typeOf atype)).before args s = true) (hK : va_K D vwCl tys s) (hP : iP D A ad n E H) (hS : va_S A H0 H locs) (hA : ∀ q, H0.size ≤ q → A q) (t0 : Nat) {cA : ClassId} (ht : tys[t0]? = some (cA, newarray.typeOf atype)) (hno : va_RA s cA (newarray.typeOf atype) → s.vm.findClass ("[" ++ (newarray.typeOf atype).toString) = some cA)
    {x : Int32} {N' : Nat} {a0 : vp_A} (ha : ∀ cB : ClassId, vp_cell cB a0 = arrV cB N' (fun _ => defaultValue (newarray.typeOf atype))) (hn : ¬ x < 0) (hN : x.toNatClampNeg = N') (hbytes : N' * componentBytes (newarray.typeOf atype) ≤ 536870912) (hcells : cells + 1 ≤ R.cells) (hslots : slots + N' ≤ R.slots) (hdg : decode cc pc = .ok (.newarray atype, 2))
    (kk : ∀ (z : Nat) (H1 : Heap) (ad1 : Nat → Nat) (E1 : Nat → va_E), iP D A ad1 (n + 1) E1 H1 → agA n ad ad1 → agE n E E1 → ad1 n = z → E1 n = .inl (cA, a0) → H0.size ≤ z → va_S A H0 H1 locs →
      W p l e R s m args below meth c H1 locs (cells + 1) (slots + N') Q (F0 m (pc + 2) ls (.ref z :: rest))) : W p l e R s m args below meth c H locs cells slots Q (F0 m pc ls (.int x :: rest)) := by
  refine va_newaK hexec hb harr rfl hdg rfl hn hN hbytes hcells hslots rfl fun H1 cB e1 z1 o1 hAr hNm => ?_
  have hcc : cB = cA := Option.some.inj (hNm.symm.trans (hno (hK.2 t0 _ ht).2))
  subst hcc
  have hat : va_at D vwCl (H.size, (.inl (cB, a0) : va_E)) H1 := by
    show H1[H.size]? = some (vp_cell cB a0)
    rw [ha]; exact e1
  exact kk H.size H1 _ _ (hP.grow rfl (hA _ hS.1) o1 hat) (fun k hk => eU_n _ _ (by omega)) (fun k hk => eU_n _ _ (by omega)) (eU_s _ _ _) (eU_s _ _ _) hS.1 ⟨Nat.le_trans hS.1 (by omega), fun y h1 h2 => (o1 y (Nat.lt_of_lt_of_le h1 hS.1)).trans (hS.2.1 y h1 h2), hS.2.2⟩
theorem j_put (hexec : p.tables.exec = Jvm.exec) (hb : c.code = cc) {own ref C : String} {T : u_T} {N ci index : Nat} {Ts : List Cond} (hts : ∀ w ∈ Ts, w.before args s = true) (hin : ∀ w ∈ u_ws C T N, w ∈ Ts) (ty0 : Nat → FieldType) (hty : ∀ k, k < N → parseFieldDescriptor (T k).2.2.1 = some (ty0 k)) (hnm : ∀ a, a < N → ∀ b, b < N → a ≠ b → (T a).2.1 ≠ (T b).2.1) (hown : s.vm.findClass own = some m.cls) (hK : va_K D vwCl tys s) (hP : iP D A ad n E H) (hS0 : va_S A H0 H locs) {κ : Nat} (hκ : κ < n) {a : Nat} (ha : ad κ = a) {fs : List Value} (he : E κ = .inr (ci, fs)) (hc : vwCl[ci]? = some (C, T, N)) (k : Nat) (hk : k < N) (hlink : (Cond.fieldLink own index ref (T k).2.1 (T k).2.2.1).before args s = true) (hsame : ∀ x, s.fieldFound? (T k).1 (T k).2.1 (T k).2.2.1 = some x → s.fieldFound? ref (T k).2.1 (T k).2.2.1 = some x) (hfin : (T k).2.2.2 = false) {ty : FieldType} {v : Value} (hd : parseFieldDescriptor (T k).2.2.1 = some ty) (hn : narrow ty v = v) (hfit : fits ty v = true) (hl : k < fs.length)
    (hdg : decode cc pc = .ok (.putfield index, 3)) (kk : ∀ (H1 : Heap) (locs1 : List Loc) (E1 : Nat → va_E), iP D A ad n E1 H1 → agX κ E E1 → E1 κ = .inr (ci, fs.set k v) → va_S A H0 H1 locs1 → W p l e R s m args below meth c H1 locs1 cells slots Q (F0 m (pc + 3) ls rest)) : W p l e R s m args below meth c H locs cells slots Q (F0 m pc ls (v :: .ref a :: rest)) :=
  i_put hexec hb hts hin ty0 hty hnm hown hK hP hS0 hκ ha he hc k hk hlink hsame hfin hd hn hfit hl hdg fun H1 locs1 hP1 hS1 => kk H1 locs1 _ hP1 (fun k hk => eU_n _ _ hk) (eU_s _ _ _) hS1
theorem j_putF (hexec : p.tables.exec = Jvm.exec) (hb : c.code = cc) {own ref C : String} {T : u_T} {N ci index : Nat} {Ts : List Cond} (hts : ∀ w ∈ Ts, w.before args s = true) (hin : ∀ w ∈ u_ws C T N, w ∈ Ts) (ty0 : Nat → FieldType) (hty : ∀ k, k < N → parseFieldDescriptor (T k).2.2.1 = some (ty0 k)) (hnm : ∀ a, a < N → ∀ b, b < N → a ≠ b → (T a).2.1 ≠ (T b).2.1) (hown : s.vm.findClass own = some m.cls) (hK : va_K D vwCl tys s) (hP : iP D A ad n E H) (hS0 : va_S A H0 H locs) {κ : Nat} (hκ : κ < n) {a : Nat} (ha : ad κ = a) {fs : List Value} (he : E κ = .inr (ci, fs)) (hc : vwCl[ci]? = some (C, T, N)) (k : Nat) (hk : k < N) (hlink : (Cond.fieldLink own index ref (T k).2.1 (T k).2.2.1).before args s = true) (hsame : ∀ x, s.fieldFound? (T k).1 (T k).2.1 (T k).2.2.1 = some x → s.fieldFound? ref (T k).2.1 (T k).2.2.1 = some x) (hfin : (T k).2.2.2 = true) (hin2 : meth.name = "<init>") (hdecl : (T k).1 = own) {ty : FieldType} {v : Value} (hd : parseFieldDescriptor (T k).2.2.1 = some ty) (hn : narrow ty v = v) (hfit : fits ty v = true) (hl : k < fs.length)
    (hdg : decode cc pc = .ok (.putfield index, 3)) (kk : ∀ (H1 : Heap) (locs1 : List Loc) (E1 : Nat → va_E), iP D A ad n E1 H1 → agX κ E E1 → E1 κ = .inr (ci, fs.set k v) → va_S A H0 H1 locs1 → W p l e R s m args below meth c H1 locs1 cells slots Q (F0 m (pc + 3) ls rest)) : W p l e R s m args below meth c H locs cells slots Q (F0 m pc ls (v :: .ref a :: rest)) :=
  i_putF hexec hb hts hin ty0 hty hnm hown hK hP hS0 hκ ha he hc k hk hlink hsame hfin hin2 hdecl hd hn hfit hl hdg fun H1 locs1 hP1 hS1 => kk H1 locs1 _ hP1 (fun k hk => eU_n _ _ hk) (eU_s _ _ _) hS1
theorem j_ast (hexec : p.tables.exec = Jvm.exec) (hb : c.code = cc) (hK : va_K D vwCl tys s) (hP : iP D A ad n E H) (hS : va_S A H0 H locs) {κ κ2 : Nat} (hκ : κ < n) (hκ2 : κ2 < n) {a v : Nat} (ha : ad κ = a) (hv2 : ad κ2 = v) (t0 ci : Nat) {cA : ClassId} {r : vw_C} {m0 : Nat} {vs : List Value} {f : Nat → Option Nat} (he : E κ = rA cA m0 f) (ht : tys[t0]? = some (cA, .object r.1)) (he2 : E κ2 = .inr (ci, vs)) (hc : vwCl[ci]? = some r) (j : Nat) (hj : j < m0) (hm : m0 < 2 ^ 31) (hdg : decode cc pc = .ok (.aastore, 1))
    (kk : ∀ (H1 : Heap) (locs1 : List Loc) (E1 : Nat → va_E), iP D A ad n E1 H1 → agX κ E E1 → E1 κ = rA cA m0 (va_up f j (some v)) → va_S A H0 H1 locs1 → W p l e R s m args below meth c H1 locs1 cells slots Q (F0 m (pc + 1) ls rest)) : W p l e R s m args below meth c H locs cells slots Q (F0 m pc ls (.ref v :: .int (nI j) :: .ref a :: rest)) :=
  i_ast hexec hb hK hP hS hκ hκ2 ha hv2 t0 ci he ht he2 hc j hj hm hdg fun H1 locs1 hP1 hS1 => kk H1 locs1 _ hP1 (fun k hk => eU_n _ _ hk) (eU_s _ _ _) hS1
/-- a constructor called over the object made last -/
theorem j_call {q m1 mc ms : Nat} {G : (Nat → Nat) → (Nat → va_E) → Prop} (hr : va_Run p l e R s m args below meth c H locs cells slots mc ms (F0 m pc ls st0) rest (iQ D q (m1 + 1) G a) (iA q H.size)) (hS : va_S A H0 H locs) (hP : iP D A ad (n + 1) E H) (hq : ad n = q) (hA : ∀ x, H0.size ≤ x → A x)
    (kk : ∀ (H1 : Heap) (locs1 : List Loc) (ad1 : Nat → Nat) (E1 : Nat → va_E), iP D A ad1 (n + (m1 + 1)) E1 H1 → agA (n + 1) ad ad1 → agE n E E1 → G (fun k => ad1 (n + k)) (fun k => E1 (n + k)) → (∀ k, 1 ≤ k → k < m1 + 1 → H0.size ≤ ad1 (n + k)) → va_S A H0 H1 locs1 →
      W p l e R s m args below meth c H1 locs1 (cells + mc) (slots + ms) Q (F0 m (pc + 3) ls rest)) : W p l e R s m args below meth c H locs cells slots Q (F0 m pc ls st0) := by
  intro T hT X
  obtain ⟨v', st₀, t, T', L, h0, X', hL, e1, e2, ⟨hv, ⟨hz0, hk0⟩, a2, E2, hP2, h20, hf2, hG⟩, st⟩ := hr T hT X
  cases hv
  rw [h0] at hz0 hk0 hP2 hf2
  have hq1 : A q := hq ▸ hP.2.1 n (by omega)
  have hAA : ∀ x, iA q H.size x → A x := fun x hx => hx.elim (fun z => by rw [z]; exact hq1) (fun z => hA x (Nat.le_trans hS.1 z))
  have hz : H.size ≤ T'.heap.size := by rw [e1]; exact hz0
  have hk : ∀ x : Nat, x < H.size → ¬ x = q → T'.heap[x]? = H[x]? := fun x h1 h2 => by rw [e1]; exact hk0 x h1 (fun z => z.elim h2 (fun z2 => by omega))
  have hS2 : va_S A H0 T'.heap (locs ++ L) := ⟨Nat.le_trans hS.1 hz, fun x h1 h2 => by rw [hk x (Nat.lt_of_lt_of_le h1 hS.1) (fun z => h2 (by rw [z]; exact hq1))]; exact hS.2.1 x h1 h2, fun x hx => by
      rcases List.mem_append.mp hx with h | h
      · exact hS.2.2 x h
      · exact hAA _ (hL x h)⟩
  have hJ := hP.join (by rw [e1]; exact hP2) (h20.trans hq.symm) hf2 (fun x hx => hA x (Nat.le_trans hS.1 hx)) (fun x h1 h2 => hk x h1 (by rw [← hq]; exact h2))
  have f1 : (fun k => (fun k => if k < n then ad k else a2 (k - n)) (n + k)) = a2 := by funext k; show (if n + k < n then _ else _) = _; rw [if_neg (by omega)]; congr 1; omega
  have f2 : (fun k => (fun k => if k < n then E k else E2 (k - n)) (n + k)) = E2 := by funext k; show (if n + k < n then _ else _) = _; rw [if_neg (by omega)]; congr 1; omega
  obtain ⟨t2, b1, b2⟩ := kk T'.heap (locs ++ L) _ _ hJ (fun k hk => by
      show (if k < n then ad k else a2 (k - n)) = ad k
      by_cases h : k < n
      · rw [if_pos h]
      · rw [if_neg h, show k = n by omega, Nat.sub_self, h20, hq]) (fun k hk => by show (if k < n then E k else E2 (k - n)) = E k; rw [if_pos hk]) (by rw [f1, f2]; exact hG) (fun k h1 h2 => by
      show H0.size ≤ (if n + k < n then ad (n + k) else a2 (n + k - n))
      rw [if_neg (by omega), show n + k - n = k by omega]
      exact Nat.le_trans hS.1 (hf2 k h1 h2)) hS2 T' rfl X'
  exact ⟨t2, st t2 b1, b2⟩
end IR2
theorem Bh.congr {cy : Nat → ClassId} {ad ad1 : Nat → Nat} {E E1 : Nat → va_E} (h : Bh cy ad E) (ha : agA 39 ad ad1) (he : agE 39 E E1) : Bh cy ad1 E1 := by
  obtain ⟨h0, h1, h2, h3, h4⟩ := h
  refine ⟨?_, ?_, ?_, fun j hj => (he _ (by omega)).trans (h3 j hj), fun j hj => (he _ (by omega)).trans (h4 j hj)⟩
  · rw [he 0 (by decide), h0, ha 1 (by decide), ha 8 (by decide)]
  · rw [he 1 (by decide), h1]
    congr 5; funext j
    by_cases hj : j < 6
    · rw [if_pos hj, if_pos hj, ha _ (by omega)]
    · rw [if_neg hj, if_neg hj]
  · rw [he 8 (by decide), h2]
    congr 5; funext j
    by_cases hj : j < 30
    · rw [if_pos hj, if_pos hj, ha _ (by omega)]
    · rw [if_neg hj, if_neg hj]
theorem wi_X7_init_X7 : ∀ w ∈ wsX70, w ∈ wsX7_init := by decide +kernel
set_option maxHeartbeats 4000000 in
set_option maxRecDepth 100000 in
theorem c_X7_init (l : Launch) (D : va_G) (tys : List (ClassId × FieldType)) (q sz b : Nat) : Met l yX7_init wsX7_init ({ frames := 1, cells := 0, slots := 0, locals := 20 } : Room) (sp_Pm D tys sz [.ref q, .ref b] [(q, .inr (10, [.null, .int 0]))]) (sp_Q D none [(q, .inr (10, [.ref b, .int 0]))] (fun a => a = q)) 0 0 (fun a => a = q) := by
  refine Met.ofW (cc := cX7_init) (maxL := 2) (ret := none) (by decide) rfl ?_
  intro p e s m args below meth c s₁ B hml hv
  obtain ⟨rfl, hsz, hP, hK⟩ := hv
  have hx := B.exec
  have hb := B.bytes
  have hr := B.returns
  have hts := atoms_spec (ws := wsX7_init) B.pre
  have hown : s.vm.findClass RX7 = some m.cls := findClass_of_methodNamed B.named
  have hlocks := B.notSynchronized
  have hin : meth.name = "<init>" := (name_of_methodNamed B.named B.method).1
  have hD : va_D (fun a => a = q) [(q, (.inr (10, [.null, .int 0]) : va_E))] := ⟨fun i j x y h1 h2 _ => by
      have a1 := (List.getElem?_eq_some_iff.mp h1).1
      have a2 := (List.getElem?_eq_some_iff.mp h2).1
      simp at a1 a2; omega, fun k x h => by
      have a1 := (List.getElem?_eq_some_iff.mp h).1
      simp at a1; subst a1; cases h; rfl⟩
  have hS : va_S (fun a => a = q) s.heap s.heap [] := va_S.rf
  have hl := lv_entry ([.ref q, .ref b]) (n := 2) (Nat.le_of_ble_eq_true rfl)
  refine W.eq (lg_entry_eq _ ([.ref q, .ref b]) _) ?_
  generalize (lg_sl ([.ref q, .ref b]) ++ List.replicate (2 - (lg_sl ([.ref q, .ref b])).length) Slot.unset).toArray = ls at hl ⊢
  have hl : lv_has ls 2 [(0, .ref q), (1, .ref b)] := hl
  refine lv_aload_n hx hb dX7_init_0 rfl (lv_at hl 0 rfl) ?_
  refine W.objInit hx hb hown (hts _ (List.mem_of_getElem? (i := 1) rfl)) (hts _ (List.mem_of_getElem? (i := 2) rfl)) (hts _ (List.mem_of_getElem? (i := 3) rfl)) rfl (by rw [hml]; exact hl.1) rfl dX7_init_1 (Nat.le_of_ble_eq_true rfl) (Nat.le_of_ble_eq_true rfl) ?_
  refine W.eq (g2 := F0 m 4 ls []) rfl ?_
  refine lv_aload_n hx hb dX7_init_4 rfl (lv_at hl 0 rfl) ?_
  refine lv_aload_n hx hb dX7_init_5 rfl (lv_at hl 1 rfl) ?_
  refine va_putF (D := D) (ci := 10) (v := .ref b) (ty := tyX7 0) (C := RX7) (T := TX7) (N := 2) hx hb hts wi_X7_init_X7 tyX7 tyX7_ok nmX7 hown hK hP hD hS 0 rfl rfl 0 (by decide) (hts _ (List.mem_of_getElem? (i := 4) rfl)) (fun _ h => h) rfl hin rfl (by decide +kernel) rfl rfl (Nat.le_of_ble_eq_true rfl) dX7_init_6 (fun H locs hP hD hS => ?_)
  exact W.vret hx hb hr (fun T9 hT9 _ => ⟨rfl, by rw [hT9]; exact hP, hS.F hT9⟩) hS.2.2 dX7_init_9

theorem wi_X4_init_X4 : ∀ w ∈ wsX40, w ∈ wsX4_init := by decide +kernel
set_option maxHeartbeats 4000000 in
set_option maxRecDepth 100000 in
theorem c_X4_init (l : Launch) (D : va_G) (tys : List (ClassId × FieldType)) (q sz b : Nat) : Met l yX4_init wsX4_init ({ frames := 1, cells := 0, slots := 0, locals := 20 } : Room) (sp_Pm D tys sz [.ref q, .ref b] [(q, .inr (7, [.null]))]) (sp_Q D none [(q, .inr (7, [.ref b]))] (fun a => a = q)) 0 0 (fun a => a = q) := by
  refine Met.ofW (cc := cX4_init) (maxL := 2) (ret := none) (by decide) rfl ?_
  intro p e s m args below meth c s₁ B hml hv
  obtain ⟨rfl, hsz, hP, hK⟩ := hv
  have hx := B.exec
  have hb := B.bytes
  have hr := B.returns
  have hts := atoms_spec (ws := wsX4_init) B.pre
  have hown : s.vm.findClass RX4 = some m.cls := findClass_of_methodNamed B.named
  have hlocks := B.notSynchronized
  have hin : meth.name = "<init>" := (name_of_methodNamed B.named B.method).1
  have hD : va_D (fun a => a = q) [(q, (.inr (7, [.null]) : va_E))] := ⟨fun i j x y h1 h2 _ => by
      have a1 := (List.getElem?_eq_some_iff.mp h1).1
      have a2 := (List.getElem?_eq_some_iff.mp h2).1
      simp at a1 a2; omega, fun k x h => by
      have a1 := (List.getElem?_eq_some_iff.mp h).1
      simp at a1; subst a1; cases h; rfl⟩
  have hS : va_S (fun a => a = q) s.heap s.heap [] := va_S.rf
  have hl := lv_entry ([.ref q, .ref b]) (n := 2) (Nat.le_of_ble_eq_true rfl)
  refine W.eq (lg_entry_eq _ ([.ref q, .ref b]) _) ?_
  generalize (lg_sl ([.ref q, .ref b]) ++ List.replicate (2 - (lg_sl ([.ref q, .ref b])).length) Slot.unset).toArray = ls at hl ⊢
  have hl : lv_has ls 2 [(0, .ref q), (1, .ref b)] := hl
  refine lv_aload_n hx hb dX4_init_0 rfl (lv_at hl 0 rfl) ?_
  refine W.objInit hx hb hown (hts _ (List.mem_of_getElem? (i := 1) rfl)) (hts _ (List.mem_of_getElem? (i := 2) rfl)) (hts _ (List.mem_of_getElem? (i := 3) rfl)) rfl (by rw [hml]; exact hl.1) rfl dX4_init_1 (Nat.le_of_ble_eq_true rfl) (Nat.le_of_ble_eq_true rfl) ?_
  refine W.eq (g2 := F0 m 4 ls []) rfl ?_
  refine lv_aload_n hx hb dX4_init_4 rfl (lv_at hl 0 rfl) ?_
  refine lv_aload_n hx hb dX4_init_5 rfl (lv_at hl 1 rfl) ?_
  refine va_putF (D := D) (ci := 7) (v := .ref b) (ty := tyX4 0) (C := RX4) (T := TX4) (N := 1) hx hb hts wi_X4_init_X4 tyX4 tyX4_ok nmX4 hown hK hP hD hS 0 rfl rfl 0 (by decide) (hts _ (List.mem_of_getElem? (i := 4) rfl)) (fun _ h => h) rfl hin rfl (by decide +kernel) rfl rfl (Nat.le_of_ble_eq_true rfl) dX4_init_6 (fun H locs hP hD hS => ?_)
  exact W.vret hx hb hr (fun T9 hT9 _ => ⟨rfl, by rw [hT9]; exact hP, hS.F hT9⟩) hS.2.2 dX4_init_9


section IR3
variable {p : Program} {l : Launch} {e : Env} {R : Room} {s : State} {m : MethodId} {args : Array Value} {below : List Frame} {meth : Method} {c : Code} {H : Heap} {locs : List Loc} {cells slots : Nat} {Q : State → Prop}
variable {pc : Nat} {ls : Array Slot} {rest st0 : List Value} {D : va_G} {A : Nat → Prop} {H0 : Heap} {ad : Nat → Nat} {n : Nat} {E : Nat → va_E} {a : Array Value}
/-- a constructor that makes nothing, called over one of the cells -/
theorem j_call1 {q κ : Nat} {v : va_E} (hr : va_Run p l e R s m args below meth c H locs cells slots 0 0 (F0 m pc ls st0) rest (sp_Q D none [(q, v)] (fun x => x = q) a) (fun x => x = q)) (hS : va_S A H0 H locs) (hP : iP D A ad n E H) (hκ : κ < n) (hq : ad κ = q)
    (kk : ∀ (H1 : Heap) (locs1 : List Loc) (E1 : Nat → va_E), iP D A ad n E1 H1 → agX κ E E1 → E1 κ = v → va_S A H0 H1 locs1 → W p l e R s m args below meth c H1 locs1 cells slots Q (F0 m (pc + 3) ls rest)) : W p l e R s m args below meth c H locs cells slots Q (F0 m pc ls st0) := by
  refine sp_callm hr hS (fun x _ h2 => by rw [h2, ← hq]; exact hP.2.1 κ hκ) (fun x h2 => by rw [h2, ← hq]; exact hP.2.1 κ hκ) fun H1 locs1 hP1 hle hfr hS1 => ?_
  subst hq
  exact kk H1 locs1 _ (hP.one hκ hfr (hP1 0 _ rfl)) (fun k hk => eU_n _ _ hk) (eU_s _ _ _) hS1
end IR3
/-- the row of an array filled up to i, one more stored -/
theorem j_row {ad ad2 b : Nat → Nat} {i z : Nat} (h : ∀ j, j < i → ad2 (b j) = ad (b j)) (hz : ad2 (b i) = z) : va_up (fun j => if j < i then some (ad (b j)) else none) i (some z) = fun j => if j < i + 1 then some (ad2 (b j)) else none := by
  funext j
  unfold va_up
  by_cases hj : j = i
  · subst hj; simp [hz]
  · by_cases h2 : j < i
    · simp [hj, h2, show j < i + 1 by omega, h j h2]
    · simp [hj, h2, show ¬ j < i + 1 by omega]
theorem rA_eq {cA : ClassId} {n : Nat} {f g : Nat → Option Nat} (h : f = g) : rA cA n f = rA cA n g := by rw [h]

theorem wi_X2_init_X2 : ∀ w ∈ wsX20, w ∈ wsX2_init := by decide +kernel
theorem wi_X2_init_X0 : ∀ w ∈ wsX00, w ∈ wsX2_init := by decide +kernel
/-- a new history: 314 cells -/
def Hh (cy : Nat → ClassId) (ad : Nat → Nat) (e : Nat → va_E) : Prop := e 0 = .inr (5, [.ref (ad 1), .int 0]) ∧ e 1 = rA (cy 2) 8 (fun j => if j < 8 then some (ad (2 + 39 * j)) else none) ∧ ∀ j, j < 8 → Bh cy (fun k => ad (2 + 39 * j + k)) (fun k => e (2 + 39 * j + k))
theorem Hh.congr {cy : Nat → ClassId} {ad ad1 : Nat → Nat} {E E1 : Nat → va_E} (h : Hh cy ad E) (ha : agA 314 ad ad1) (he : agE 314 E E1) : Hh cy ad1 E1 := by
  obtain ⟨h0, h1, h2⟩ := h
  refine ⟨?_, ?_, fun j hj => (h2 j hj).congr (fun k hk => ha _ (by omega)) (fun k hk => he _ (by omega))⟩
  · rw [he 0 (by decide), h0, ha 1 (by decide)]
  · rw [he 1 (by decide), h1]
    refine rA_eq ?_; funext j
    by_cases hj : j < 8
    · rw [if_pos hj, if_pos hj, ha _ (by omega)]
    · rw [if_neg hj, if_neg hj]
set_option maxHeartbeats 4000000 in
set_option maxRecDepth 100000 in
theorem c_X2_init (l : Launch) (D : va_G) (cy : Nat → ClassId) (q sz : Nat) : Met l yX2_init wsX2_init ({ frames := 3, cells := 313, slots := 2896, locals := 61 } : Room) (iPc D cy q sz 5 [.null, .int 0]) (iQ D q 314 (Hh cy)) 313 2896 (iA q sz) := by
  refine Met.ofW (cc := cX2_init) (maxL := 2) (ret := none) (by decide) rfl ?_
  intro p e s m args below meth c s₁ B hml hv
  obtain ⟨rfl, hsz, hat, hK, hIX⟩ := hv
  have hx := B.exec
  have hb := B.bytes
  have hr := B.returns
  have hts := atoms_spec (ws := wsX2_init) B.pre
  have hown : s.vm.findClass RX2 = some m.cls := findClass_of_methodNamed B.named
  have hlocks := B.notSynchronized
  have hin : meth.name = "<init>" := (name_of_methodNamed B.named B.method).1
  subst hsz
  have hS : va_S (iA q s.heap.size) s.heap s.heap [] := va_S.rf
  have hAs : ∀ x, s.heap.size ≤ x → iA q s.heap.size x := fun x h => Or.inr h
  have hP := iP_first (A := iA q s.heap.size) hat (Or.inl rfl)
  have hl := lv_entry ([.ref q]) (n := 2) (Nat.le_of_ble_eq_true rfl)
  refine W.eq (lg_entry_eq _ ([.ref q]) _) ?_
  generalize (lg_sl ([.ref q]) ++ List.replicate (2 - (lg_sl ([.ref q])).length) Slot.unset).toArray = ls at hl ⊢
  have hl : lv_has ls 2 [(0, .ref q)] := hl
  refine lv_aload_n hx hb dX2_init_0 rfl (lv_at hl 0 rfl) ?_
  refine W.objInit hx hb hown (hts _ (List.mem_of_getElem? (i := 1) rfl)) (hts _ (List.mem_of_getElem? (i := 2) rfl)) (hts _ (List.mem_of_getElem? (i := 3) rfl)) rfl (by rw [hml]; exact hl.1) rfl dX2_init_1 (Nat.le_of_ble_eq_true rfl) (Nat.le_of_ble_eq_true rfl) ?_
  refine W.eq (g2 := F0 m 4 ls []) rfl ?_
  refine lv_aload_n hx hb dX2_init_4 rfl (lv_at hl 0 rfl) ?_
  refine lv_bipush (v := 8) hx hb dX2_init_5 (by decide) ?_
  refine j_newq hx hb hown (hts _ (List.mem_of_getElem? (i := 4) rfl)) hIX.2.1 hK hP hS hAs 2 rfl (x := 8) (N' := 8) (by decide) rfl (Nat.le_of_ble_eq_true rfl) (Nat.le_of_ble_eq_true rfl) (Nat.le_of_ble_eq_true rfl) dX2_init_7 (fun z1 H ad1 E1 hP hA1 hE1 ha1 he1 hz1 hS => ?_)
  have ha0 : ad1 0 = q := hA1 0 (by decide)
  have he0 : E1 0 = .inr (5, [.null, .int 0]) := hE1 0 (by decide)
  refine j_putF (C := RX2) (T := TX2) (N := 2) (ty := tyX2 0) hx hb hts wi_X2_init_X2 tyX2 tyX2_ok nmX2 hown hK hP hS (κ := 0) (by decide) ha0 he0 rfl 0 (by decide) (hts _ (List.mem_of_getElem? (i := 5) rfl)) (fun _ h => h) rfl hin rfl (by decide +kernel) rfl rfl (Nat.le_of_ble_eq_true rfl) dX2_init_10 (fun H locs E2 hP hX2 he0 hS => ?_)
  have he1 : E2 1 = rA (cy 2) 8 (fun _ => none) := (hX2 1 (by decide)).trans he1
  refine lv_iconst (v := 0) hx hb dX2_init_13 (by decide) ?_
  refine lv_istore_n (lv' := [(1, .int 0), (0, .ref q)]) hx hb dX2_init_14 rfl hl (by decide) rfl (fun ls hl => ?_)
  have loop_15 : ∀ (fu i : Nat) (ad : Nat → Nat) (E9 : Nat → va_E) (H : Heap) (locs : List Loc), i ≤ 8 → 8 - i < fu → iP D (iA q s.heap.size) ad (2 + 39 * i) E9 H → va_S (iA q s.heap.size) s.heap H locs → ad 0 = q → ad 1 = z1 → (∀ k, 1 ≤ k → k < 2 + 39 * i → s.heap.size ≤ ad k) → E9 0 = .inr (5, [.ref z1, .int 0]) → E9 1 = rA (cy 2) 8 (fun j => if j < i then some (ad (2 + 39 * j)) else none) → (∀ j, j < i → Bh cy (fun k => ad (2 + 39 * j + k)) (fun k => E9 (2 + 39 * j + k))) → ∀ ls : Array Slot, lv_has ls 2 [(1, .int (nI i)), (0, .ref q)] → W p l e (headSpec wsX2_init ({ frames := 3, cells := 313, slots := 2896, locals := 61 } : Room)).room s m (([.ref q] : List Value).toArray) below meth c H locs (1 + 39 * i) (8 + 361 * i) (MQ below (iQ D q 314 (Hh cy)) (([.ref q] : List Value).toArray) s 313 2896 (iA q s.heap.size)) (F0 m 15 ls []) := by
    intro fu
    induction fu with
    | zero => intro i ad E9 H locs hle hlt hP hS h0 h1 hfr he0 he1 hB ls hl; exact absurd hlt (Nat.not_lt_zero _)
    | succ fu ih =>
      intro i ad E9 H locs hle hlt hP hS h0 h1 hfr he0 he1 hB ls hl
      refine lv_iload_n hx hb dX2_init_15 rfl (lv_at hl 0 rfl) ?_
      refine lv_aload_n hx hb dX2_init_16 rfl (lv_at hl 1 rfl) ?_
      refine i_get (C := RX2) (T := TX2) (N := 2) hx hb hts wi_X2_init_X2 hown hK hP (κ := 0) (by omega) h0 he0 rfl 0 (by decide) (hts _ (List.mem_of_getElem? (i := 5) rfl)) (fun _ h => h) rfl dX2_init_17 ?_
      refine i_alen hx hb hK hP (κ := 1) (by omega) h1 2 he1 rfl (v := 8) rfl dX2_init_20 ?_
      refine lv_icmp_ge (tgt := 43) hx hb dX2_init_21 (by decide) (fun c_1 => ?_) (fun c_1 => ?_)
      · have hx_i : i = 8 := by have := (nI_leI (a := 8) (b := i) (by omega) (by omega)).mp c_1; omega
        subst hx_i
        exact W.vret hx hb hr (fun T9 hT9 _ => ⟨rfl, hS.F hT9, ad, E9, by rw [hT9]; exact hP, h0, hfr, by rw [he0, h1], he1, hB⟩) hS.2.2 dX2_init_43
      · have hb_i : i < 8 := Nat.lt_of_not_le (fun z => c_1 (nI_le z (by omega)))
        refine lv_aload_n hx hb dX2_init_24 rfl (lv_at hl 1 rfl) ?_
        refine i_get (C := RX2) (T := TX2) (N := 2) hx hb hts wi_X2_init_X2 hown hK hP (κ := 0) (by omega) h0 he0 rfl 0 (by decide) (hts _ (List.mem_of_getElem? (i := 5) rfl)) (fun _ h => h) rfl dX2_init_25 ?_
        refine lv_iload_n hx hb dX2_init_28 rfl (lv_at hl 0 rfl) ?_
        refine j_new (fs := [.null, .null, .int 0, .int 0, .int 0, .int 0, .int 0]) (ci := 3) (C := RX0) (T := TX0) (N := 7) hx hb hts wi_X2_init_X0 tyX0 tyX0_ok hown (hts _ (List.mem_of_getElem? (i := 4) rfl)) (hts _ (List.mem_of_getElem? (i := 6) rfl)) (hts _ (List.mem_of_getElem? (i := 7) rfl)) hK hP hS hAs rfl (fun j hj => by rcases (show j = 0 ∨ j = 1 ∨ j = 2 ∨ j = 3 ∨ j = 4 ∨ j = 5 ∨ j = 6 by omega) with rfl | rfl | rfl | rfl | rfl | rfl | rfl <;> rfl) (by first | exact Nat.le_of_ble_eq_true rfl | (show _ ≤ 313; omega)) (by first | exact Nat.le_of_ble_eq_true rfl | (show _ ≤ 2896; omega)) dX2_init_29 (fun z H ad1 E1 hP hA1 hE1 haz hez hz hS => ?_)
        refine lv_dup hx hb dX2_init_32 rfl ?_
        refine j_call (m1 := 38) (n := 2 + 39 * i) (va_runI (As := []) (rest := [.ref z, .int (nI i), .ref z1]) ⟨hx, hb, hml, hown, hts⟩ (c_X0_init l D cy z _) (cwI 0 hts gX2_init_X0_init rfl rfl rfl (hts _ (List.mem_of_getElem? (i := 7) rfl)) (hts _ (List.mem_of_getElem? (i := 8) rfl)) (hts _ (List.mem_of_getElem? (i := 9) rfl)) rfl (by decide +kernel) ⟨Nat.le_of_ble_eq_true rfl, Nat.le_of_ble_eq_true rfl⟩) ⟨iB_blind, fun U hU hW => ⟨rfl, by rw [hU], by have h9 := hP.2.2 (2 + 39 * i) (by omega); rw [haz, hez] at h9; rw [hU]; exact h9, va_K.moved hW.alike hK, hIX.warm hW⟩⟩ rfl rfl hl.1 rfl (lv_room (Nat.le_of_ble_eq_true rfl)) dX2_init_33 (by first | exact ⟨Nat.le_of_ble_eq_true rfl, Nat.le_of_ble_eq_true rfl⟩ | exact ⟨by show _ ≤ 313; omega, by show _ ≤ 2896; omega⟩)) hS hP haz hAs (fun H locs ad2 E2 hP hA2 hE2 hG hf2 hS => ?_)
        refine W.eq (g2 := F0 m 36 ls [.ref z, .int (nI i), .ref z1]) rfl ?_
        have b0 : ad2 0 = q := (hA2 0 (by omega)).trans ((hA1 0 (by omega)).trans h0)
        have b1 : ad2 1 = z1 := (hA2 1 (by omega)).trans ((hA1 1 (by omega)).trans h1)
        have bz : ad2 (2 + 39 * i) = z := (hA2 _ (by omega)).trans haz
        have ag : ∀ k, k < 2 + 39 * i → ad2 k = ad k := fun k hk => (hA2 k (by omega)).trans (hA1 k hk)
        have eg : ∀ k, k < 2 + 39 * i → E2 k = E9 k := fun k hk => (hE2 k hk).trans (hE1 k hk)
        refine j_ast (r := (RX0, TX0, 7)) hx hb hK hP hS (κ := 1) (κ2 := 2 + 39 * i) (by omega) (by omega) b1 bz 2 3 ((eg 1 (by omega)).trans he1) rfl hG.1 rfl i (by omega) (by decide) dX2_init_36 (fun H locs E3 hP hX3 he13 hS => ?_)
        refine lv_iinc (v := nI (i + 1)) (lv' := [(1, .int (nI (i + 1))), (0, .ref q)]) hx hb dX2_init_37 hl (k := 0) rfl (nI_1 _) (by decide) rfl (fun ls hl => ?_)
        refine lv_goto (tgt := 15) hx hb dX2_init_40 (by decide) ?_
        refine W.widen (k := 1 + 39 * (i + 1)) (n := 8 + 361 * (i + 1)) (by omega) (by omega) ?_
        refine ih (i + 1) ad2 E3 _ _ (by omega) (by omega) (by rw [show 2 + 39 * (i + 1) = 2 + 39 * i + (38 + 1) by omega]; exact hP) hS b0 b1 (fun k h1 h2 => ?_) ((hX3 0 (by decide)).trans ((eg 0 (by omega)).trans he0)) (he13.trans (rA_eq (j_row (b := fun j => 2 + 39 * j) (fun j hj => ag _ (by omega)) bz))) (fun j hj => ?_) ls hl
        · by_cases hk : k < 2 + 39 * i
          · rw [ag k hk]; exact hfr k h1 hk
          · by_cases hk2 : k = 2 + 39 * i
            · rw [hk2, bz]; exact hz
            · have h9 := hf2 (k - (2 + 39 * i)) (by omega) (by omega)
              rw [show 2 + 39 * i + (k - (2 + 39 * i)) = k by omega] at h9; exact h9
        · by_cases hk : j = i
          · subst hk; exact hG.congr (fun k hk => rfl) (fun k hk => hX3 _ (by omega))
          · exact (hB j (by omega)).congr (fun k hk => ag _ (by omega)) (fun k hk => (hX3 _ (by omega)).trans (eg _ (by omega)))
  refine loop_15 9 0 ad1 E2 _ _ (by omega) (by omega) hP hS ha0 ha1 (fun k h1 h2 => by rw [show k = 1 by omega, ha1]; exact hz1) he0 (he1.trans (rA_eq (by funext j; simp))) (fun j hj => absurd hj (Nat.not_lt_zero _)) ls hl

theorem wi_X6_init_X6 : ∀ w ∈ wsX60, w ∈ wsX6_init := by decide +kernel
theorem wi_X6_init_X7 : ∀ w ∈ wsX70, w ∈ wsX6_init := by decide +kernel
theorem wi_X6_init_X1 : ∀ w ∈ wsX10, w ∈ wsX6_init := by decide +kernel
/-- a new script: 24 cells -/
def Sh (cy : Nat → ClassId) (ad : Nat → Nat) (e : Nat → va_E) : Prop := e 0 = .inr (9, [.ref (ad 1), .ref (ad 3), .int 0, .int 0, .int 0]) ∧ e 1 = .inr (10, [.ref (ad 2), .int 0]) ∧ e 2 = .inl (cy 0, 60, .inl (fun _ => 0)) ∧ e 3 = rA (cy 3) 20 (fun j => if j < 20 then some (ad (4 + j)) else none) ∧ ∀ j, j < 20 → e (4 + j) = .inr (4, [.int 0, .int 0, .int 0, .int 0, .int 0, .int 0, .int 0])
theorem Sh.congr {cy : Nat → ClassId} {ad ad1 : Nat → Nat} {E E1 : Nat → va_E} (h : Sh cy ad E) (ha : agA 24 ad ad1) (he : agE 24 E E1) : Sh cy ad1 E1 := by
  obtain ⟨h0, h1, h2, h3, h4⟩ := h
  refine ⟨?_, ?_, (he 2 (by decide)).trans h2, ?_, fun j hj => (he _ (by omega)).trans (h4 j hj)⟩
  · rw [he 0 (by decide), h0, ha 1 (by decide), ha 3 (by decide)]
  · rw [he 1 (by decide), h1, ha 2 (by decide)]
  · rw [he 3 (by decide), h3]
    refine rA_eq ?_; funext j
    by_cases hj : j < 20
    · rw [if_pos hj, if_pos hj, ha _ (by omega)]
    · rw [if_neg hj, if_neg hj]
set_option maxHeartbeats 4000000 in
set_option maxRecDepth 100000 in
theorem c_X6_init (l : Launch) (D : va_G) (cy : Nat → ClassId) (q sz : Nat) : Met l yX6_init wsX6_init ({ frames := 2, cells := 23, slots := 222, locals := 41 } : Room) (iPc D cy q sz 9 [.null, .null, .int 0, .int 0, .int 0]) (iQ D q 24 (Sh cy)) 23 222 (iA q sz) := by
  refine Met.ofW (cc := cX6_init) (maxL := 2) (ret := none) (by decide) rfl ?_
  intro p e s m args below meth c s₁ B hml hv
  obtain ⟨rfl, hsz, hat, hK, hIX⟩ := hv
  have hx := B.exec
  have hb := B.bytes
  have hr := B.returns
  have hts := atoms_spec (ws := wsX6_init) B.pre
  have hown : s.vm.findClass RX6 = some m.cls := findClass_of_methodNamed B.named
  have hlocks := B.notSynchronized
  have hin : meth.name = "<init>" := (name_of_methodNamed B.named B.method).1
  subst hsz
  have hS : va_S (iA q s.heap.size) s.heap s.heap [] := va_S.rf
  have hAs : ∀ x, s.heap.size ≤ x → iA q s.heap.size x := fun x h => Or.inr h
  have hP := iP_first (A := iA q s.heap.size) hat (Or.inl rfl)
  have hl := lv_entry ([.ref q]) (n := 2) (Nat.le_of_ble_eq_true rfl)
  refine W.eq (lg_entry_eq _ ([.ref q]) _) ?_
  generalize (lg_sl ([.ref q]) ++ List.replicate (2 - (lg_sl ([.ref q])).length) Slot.unset).toArray = ls at hl ⊢
  have hl : lv_has ls 2 [(0, .ref q)] := hl
  refine lv_aload_n hx hb dX6_init_0 rfl (lv_at hl 0 rfl) ?_
  refine W.objInit hx hb hown (hts _ (List.mem_of_getElem? (i := 1) rfl)) (hts _ (List.mem_of_getElem? (i := 2) rfl)) (hts _ (List.mem_of_getElem? (i := 3) rfl)) rfl (by rw [hml]; exact hl.1) rfl dX6_init_1 (Nat.le_of_ble_eq_true rfl) (Nat.le_of_ble_eq_true rfl) ?_
  refine W.eq (g2 := F0 m 4 ls []) rfl ?_
  refine lv_aload_n hx hb dX6_init_4 rfl (lv_at hl 0 rfl) ?_
  refine j_new (fs := [.null, .int 0]) (ci := 10) (C := RX7) (T := TX7) (N := 2) hx hb hts wi_X6_init_X7 tyX7 tyX7_ok hown (hts _ (List.mem_of_getElem? (i := 4) rfl)) (hts _ (List.mem_of_getElem? (i := 5) rfl)) (hts _ (List.mem_of_getElem? (i := 6) rfl)) hK hP hS hAs rfl (fun j hj => by rcases (show j = 0 ∨ j = 1 by omega) with rfl | rfl <;> rfl) (by first | exact Nat.le_of_ble_eq_true rfl | (show _ ≤ 313; omega)) (by first | exact Nat.le_of_ble_eq_true rfl | (show _ ≤ 2896; omega)) dX6_init_5 (fun z1 H ad1 E1 hP hA1 hE1 ha1 he1 hz1 hS => ?_)
  refine lv_dup hx hb dX6_init_8 rfl ?_
  refine lv_bipush (v := 60) hx hb dX6_init_9 (by decide) ?_
  refine j_newa (atype := .char) hx hb (hts _ (List.mem_of_getElem? (i := 7) rfl)) hK hP hS hAs 0 rfl (fun h => h) (x := 60) (N' := 60) (a0 := (60, .inl (fun _ => 0))) (fun _ => rfl) (by decide) rfl (Nat.le_of_ble_eq_true rfl) (Nat.le_of_ble_eq_true rfl) (Nat.le_of_ble_eq_true rfl) dX6_init_11 (fun z2 H ad2 E2 hP hA2 hE2 ha2 he2 hz2 hS => ?_)
  have b1 : ad2 1 = z1 := (hA2 1 (by decide)).trans ha1
  have d1 : E2 1 = .inr (10, [.null, .int 0]) := (hE2 1 (by decide)).trans he1
  have b0 : ad2 0 = q := (hA2 0 (by decide)).trans (hA1 0 (by decide))
  have d0 : E2 0 = .inr (9, [.null, .null, .int 0, .int 0, .int 0]) := (hE2 0 (by decide)).trans (hE1 0 (by decide))
  refine j_call1 (κ := 1) (va_runI (As := [.ref z2]) (rest := [.ref z1, .ref q]) ⟨hx, hb, hml, hown, hts⟩ (c_X7_init l D (tyG cy) z1 _ z2) (cwI 1 hts gX6_init_X7_init rfl rfl rfl (hts _ (List.mem_of_getElem? (i := 6) rfl)) (hts _ (List.mem_of_getElem? (i := 13) rfl)) (hts _ (List.mem_of_getElem? (i := 14) rfl)) rfl (by decide +kernel) ⟨Nat.le_of_ble_eq_true rfl, Nat.le_of_ble_eq_true rfl⟩) ⟨sp_blindm, fun U hU hW => ⟨rfl, by rw [hU], by have h9 := hP.2.2 1 (by decide); rw [b1, d1] at h9; rw [hU]; exact sp_one h9, va_K.moved hW.alike hK⟩⟩ rfl rfl hl.1 rfl (lv_room (Nat.le_of_ble_eq_true rfl)) dX6_init_13 ⟨Nat.le_of_ble_eq_true rfl, Nat.le_of_ble_eq_true rfl⟩) hS hP (by decide) b1 (fun H locs E3 hP hX3 he3 hS => ?_)
  refine W.eq (g2 := F0 m 16 ls [.ref z1, .ref q]) rfl ?_
  refine j_putF (C := RX6) (T := TX6) (N := 5) (ty := tyX6 0) hx hb hts wi_X6_init_X6 tyX6 tyX6_ok nmX6 hown hK hP hS (κ := 0) (by decide) b0 ((hX3 0 (by decide)).trans d0) rfl 0 (by decide) (hts _ (List.mem_of_getElem? (i := 8) rfl)) (fun _ h => h) rfl hin rfl (by decide +kernel) rfl rfl (Nat.le_of_ble_eq_true rfl) dX6_init_16 (fun H locs E4 hP hX4 he4 hS => ?_)
  refine lv_aload_n hx hb dX6_init_19 rfl (lv_at hl 0 rfl) ?_
  refine lv_bipush (v := 20) hx hb dX6_init_20 (by decide) ?_
  refine j_newq hx hb hown (hts _ (List.mem_of_getElem? (i := 9) rfl)) hIX.2.2.1 hK hP hS hAs 3 rfl (x := 20) (N' := 20) (by decide) rfl (Nat.le_of_ble_eq_true rfl) (Nat.le_of_ble_eq_true rfl) (Nat.le_of_ble_eq_true rfl) dX6_init_22 (fun z3 H ad5 E5 hP hA5 hE5 ha5 he5 hz3 hS => ?_)
  have g0 : ad5 0 = q := (hA5 0 (by decide)).trans b0
  refine j_putF (C := RX6) (T := TX6) (N := 5) (ty := tyX6 1) hx hb hts wi_X6_init_X6 tyX6 tyX6_ok nmX6 hown hK hP hS (κ := 0) (by decide) g0 ((hE5 0 (by decide)).trans he4) rfl 1 (by decide) (hts _ (List.mem_of_getElem? (i := 10) rfl)) (fun _ h => h) rfl hin rfl (by decide +kernel) rfl rfl (Nat.le_of_ble_eq_true rfl) dX6_init_25 (fun H locs E6 hP hX6 he6 hS => ?_)
  have g1 : ad5 1 = z1 := (hA5 1 (by decide)).trans b1
  have g2 : ad5 2 = z2 := (hA5 2 (by decide)).trans ha2
  have k1 : E6 1 = .inr (10, [.ref z2, .int 0]) := (hX6 1 (by decide)).trans ((hE5 1 (by decide)).trans ((hX4 1 (by decide)).trans he3))
  have k2 : E6 2 = .inl (cy 0, 60, .inl (fun _ => 0)) := (hX6 2 (by decide)).trans ((hE5 2 (by decide)).trans ((hX4 2 (by decide)).trans ((hX3 2 (by decide)).trans he2)))
  have k3 : E6 3 = rA (cy 3) 20 (fun _ => none) := (hX6 3 (by decide)).trans he5
  refine lv_iconst (v := 0) hx hb dX6_init_28 (by decide) ?_
  refine lv_istore_n (lv' := [(1, .int 0), (0, .ref q)]) hx hb dX6_init_29 rfl hl (by decide) rfl (fun ls hl => ?_)
  have loop_30 : ∀ (fu i : Nat) (ad : Nat → Nat) (E9 : Nat → va_E) (H : Heap) (locs : List Loc), i ≤ 20 → 20 - i < fu → iP D (iA q s.heap.size) ad (4 + i) E9 H → va_S (iA q s.heap.size) s.heap H locs → ad 0 = q → ad 1 = z1 → ad 2 = z2 → ad 3 = z3 → (∀ k, 1 ≤ k → k < 4 + i → s.heap.size ≤ ad k) → E9 0 = .inr (9, [.ref z1, .ref z3, .int 0, .int 0, .int 0]) → E9 1 = .inr (10, [.ref z2, .int 0]) → E9 2 = .inl (cy 0, 60, .inl (fun _ => 0)) → E9 3 = rA (cy 3) 20 (fun j => if j < i then some (ad (4 + j)) else none) → (∀ j, j < i → E9 (4 + j) = .inr (4, [.int 0, .int 0, .int 0, .int 0, .int 0, .int 0, .int 0])) → ∀ ls : Array Slot, lv_has ls 2 [(1, .int (nI i)), (0, .ref q)] → W p l e (headSpec wsX6_init ({ frames := 2, cells := 23, slots := 222, locals := 41 } : Room)).room s m (([.ref q] : List Value).toArray) below meth c H locs (3 + i) (82 + 7 * i) (MQ below (iQ D q 24 (Sh cy)) (([.ref q] : List Value).toArray) s 23 222 (iA q s.heap.size)) (F0 m 30 ls []) := by
    intro fu
    induction fu with
    | zero => intro i ad E9 H locs hle hlt hP hS h0 h1 h2 h3 hfr he0 he1 he2 he3 hk ls hl; exact absurd hlt (Nat.not_lt_zero _)
    | succ fu ih =>
      intro i ad E9 H locs hle hlt hP hS h0 h1 h2 h3 hfr he0 he1 he2 he3 hk ls hl
      refine lv_iload_n hx hb dX6_init_30 rfl (lv_at hl 0 rfl) ?_
      refine lv_aload_n hx hb dX6_init_31 rfl (lv_at hl 1 rfl) ?_
      refine i_get (C := RX6) (T := TX6) (N := 5) hx hb hts wi_X6_init_X6 hown hK hP (κ := 0) (by omega) h0 he0 rfl 1 (by decide) (hts _ (List.mem_of_getElem? (i := 10) rfl)) (fun _ h => h) rfl dX6_init_32 ?_
      refine i_alen hx hb hK hP (κ := 3) (by omega) h3 3 he3 rfl (v := 20) rfl dX6_init_35 ?_
      refine lv_icmp_ge (tgt := 58) hx hb dX6_init_36 (by decide) (fun c_1 => ?_) (fun c_1 => ?_)
      · have hx_i : i = 20 := by have := (nI_leI (a := 20) (b := i) (by omega) (by omega)).mp c_1; omega
        subst hx_i
        exact W.vret hx hb hr (fun T9 hT9 _ => ⟨rfl, hS.F hT9, ad, E9, by rw [hT9]; exact hP, h0, hfr, by rw [he0, h1, h3], by rw [he1, h2], he2, he3, hk⟩) hS.2.2 dX6_init_58
      · have hb_i : i < 20 := Nat.lt_of_not_le (fun z => c_1 (nI_le z (by omega)))
        refine lv_aload_n hx hb dX6_init_39 rfl (lv_at hl 1 rfl) ?_
        refine i_get (C := RX6) (T := TX6) (N := 5) hx hb hts wi_X6_init_X6 hown hK hP (κ := 0) (by omega) h0 he0 rfl 1 (by decide) (hts _ (List.mem_of_getElem? (i := 10) rfl)) (fun _ h => h) rfl dX6_init_40 ?_
        refine lv_iload_n hx hb dX6_init_43 rfl (lv_at hl 0 rfl) ?_
        refine j_new (fs := [.int 0, .int 0, .int 0, .int 0, .int 0, .int 0, .int 0]) (ci := 4) (C := RX1) (T := TX1) (N := 7) hx hb hts wi_X6_init_X1 tyX1 tyX1_ok hown (hts _ (List.mem_of_getElem? (i := 9) rfl)) (hts _ (List.mem_of_getElem? (i := 11) rfl)) (hts _ (List.mem_of_getElem? (i := 12) rfl)) hK hP hS hAs rfl (fun j hj => by rcases (show j = 0 ∨ j = 1 ∨ j = 2 ∨ j = 3 ∨ j = 4 ∨ j = 5 ∨ j = 6 by omega) with rfl | rfl | rfl | rfl | rfl | rfl | rfl <;> rfl) (by first | exact Nat.le_of_ble_eq_true rfl | (show _ ≤ 23; omega)) (by first | exact Nat.le_of_ble_eq_true rfl | (show _ ≤ 222; omega)) dX6_init_44 (fun z H ad1 E1 hP hA1 hE1 haz hez hz hS' => ?_)
        refine lv_dup hx hb dX6_init_47 rfl ?_
        refine sp_callN (va_runIN (As := []) (rest := [.ref z, .int (nI i), .ref z3]) ⟨hx, hb, hml, hown, hts⟩ (c_X1_init l z) ⟨va_cnB 0 hts gX6_init_X1_init_n26 rfl rfl rfl (hIX.1 8 _ rfl) (hts _ (List.mem_of_getElem? (i := 12) rfl)) (by decide +kernel) ⟨Nat.le_of_ble_eq_true rfl, Nat.le_of_ble_eq_true rfl⟩, rfl, (hts _ (List.mem_of_getElem? (i := 18) rfl))⟩ ⟨fun _ _ _ _ z9 => ⟨z9.1, trivial⟩, fun U hU hW => ⟨rfl, trivial⟩⟩ rfl rfl hl.1 rfl (lv_room (Nat.le_of_ble_eq_true rfl)) dX6_init_48 ⟨by show _ ≤ 23; omega, by show _ ≤ 222; omega⟩) ?_
        refine W.eq (g2 := F0 m 51 ls [.ref z, .int (nI i), .ref z3]) rfl ?_
        have c3 : ad1 3 = z3 := (hA1 3 (by omega)).trans h3
        refine j_ast (r := (RX1, TX1, 7)) hx hb hK hP hS' (κ := 3) (κ2 := 4 + i) (by omega) (by omega) c3 haz 3 4 ((hE1 3 (by omega)).trans he3) rfl hez rfl i (by omega) (by decide) dX6_init_51 (fun H locs E2 hP hX2 he23 hS => ?_)
        refine lv_iinc (v := nI (i + 1)) (lv' := [(1, .int (nI (i + 1))), (0, .ref q)]) hx hb dX6_init_52 hl (k := 0) rfl (nI_1 _) (by decide) rfl (fun ls hl => ?_)
        refine lv_goto (tgt := 30) hx hb dX6_init_55 (by decide) ?_
        refine W.widen (k := 3 + (i + 1)) (n := 82 + 7 * (i + 1)) (by omega) (by omega) ?_
        refine ih (i + 1) ad1 E2 _ _ (by omega) (by omega) hP hS ((hA1 0 (by omega)).trans h0) ((hA1 1 (by omega)).trans h1) ((hA1 2 (by omega)).trans h2) c3 (fun k q1 q2 => ?_) ((hX2 0 (by decide)).trans ((hE1 0 (by omega)).trans he0)) ((hX2 1 (by decide)).trans ((hE1 1 (by omega)).trans he1)) ((hX2 2 (by decide)).trans ((hE1 2 (by omega)).trans he2)) (he23.trans (rA_eq (j_row (b := fun j => 4 + j) (fun j hj => hA1 _ (by omega)) haz))) (fun j hj => ?_) ls hl
        · by_cases hk9 : k < 4 + i
          · rw [hA1 k hk9]; exact hfr k q1 hk9
          · rw [show k = 4 + i by omega, haz]; exact hz
        · rw [hX2 _ (by omega)]
          by_cases hk9 : j = i
          · subst hk9; exact hez
          · rw [hE1 _ (by omega)]; exact hk j (by omega)
  refine loop_30 21 0 ad5 E6 _ _ (by omega) (by omega) hP hS g0 g1 g2 ha5 (fun k h1 h2 => ?_) he6 k1 k2 (k3.trans (rA_eq (by funext j; simp))) (fun j hj => absurd hj (Nat.not_lt_zero _)) ls hl
  rcases (show k = 1 ∨ k = 2 ∨ k = 3 by omega) with rfl | rfl | rfl
  · rw [g1]; exact hz1
  · rw [g2]; exact hz2
  · rw [ha5]; exact hz3

theorem wi_X9_init_X9 : ∀ w ∈ wsX90, w ∈ wsX9_init := by decide +kernel
theorem wi_X9_init_X0 : ∀ w ∈ wsX00, w ∈ wsX9_init := by decide +kernel
theorem wi_X9_init_X4 : ∀ w ∈ wsX40, w ∈ wsX9_init := by decide +kernel
theorem wi_X9_init_X2 : ∀ w ∈ wsX20, w ∈ wsX9_init := by decide +kernel
theorem wi_X9_init_X6 : ∀ w ∈ wsX60, w ∈ wsX9_init := by decide +kernel
theorem wi_X9_init_X7 : ∀ w ∈ wsX70, w ∈ wsX9_init := by decide +kernel
def o0 : Nat → Nat → Int32 := fun k j => if k = 429 ∧ j = 9 then -1 else 0
def iW9 (D : va_G) (cy : Nat → ClassId) (q : Nat) : Array Value → State → Outcome → State → Prop := fun _ st o t => o = .returned none ∧ va_F (iA q st.heap.size) st t ∧ ∃ ad : Nat → Nat, sp_inj ad 459 ∧ ad 429 = q ∧ (∀ k, k < 459 → iA q st.heap.size (ad k)) ∧ va_P D vwCl (cW ad cy (fun j => j + 1) none o0) t.heap
/-- where the cell of a number was made -/
def i_off (o : Nat) : Nat := if o = 0 then 0 else if o = 1 then 1 else if o = 2 then 8 else if o < 9 then o - 1 else o
def i_base (b : Nat) : Nat := if b = 0 then 1 else 4 + 39 * b
def vEq (x y : va_E) : Prop := ∀ (D : va_G) (a : Nat) (H : Heap), va_at D vwCl (a, x) H → va_at D vwCl (a, y) H
theorem vEq.rf {x y : va_E} (h : x = y) : vEq x y := by
  subst h; exact fun _ _ _ h => h
/-- rows that agree where the array is -/
theorem vEq.tr {x y z : va_E} (h : vEq x y) (h2 : vEq y z) : vEq x z := fun D a H h3 => h2 D a H (h D a H h3)
theorem i_rA {cA : ClassId} {n : Nat} {f g : Nat → Option Nat} (h : ∀ j, j < n → f j = g j) : vEq (rA cA n f) (rA cA n g) := fun D a H h1 => by
  have h2 : H[a]? = some (vp_cell cA (n, .inr (.inr (.inr (.inr f))))) := h1
  show H[a]? = some (vp_cell cA (n, .inr (.inr (.inr (.inr g)))))
  rw [h2, vp_cell_q, vp_cell_q]
  congr 1
  unfold arrV
  congr 2
  funext j
  show va_rf (f j.val) = va_rf (g j.val)
  rw [h j.val j.isLt]
def i_pi (k : Nat) : Nat := if k < 429 then i_base (k / 39) + i_off (k % 39) else if k = 429 then 0 else if k = 430 then 40 else if k = 431 then 41 else if k = 432 then 42 else if k = 433 then 433 else if k = 434 then 434 else if k = 435 then 435 else if k = 436 then 457 else if k = 437 then 458 else if k = 438 then 436 else k - 2
def i_inv (n : Nat) : Nat := if n = 0 then 429 else if n < 40 then (if n = 1 then 0 else if n = 2 then 1 else if n = 9 then 2 else if n < 9 then n else n - 1) else if n = 40 then 430 else if n = 41 then 431 else if n = 42 then 432 else if n < 433 then (39 * ((n - 4) / 39) + (if (n - 4) % 39 = 0 then 0 else if (n - 4) % 39 = 1 then 1 else if (n - 4) % 39 = 8 then 2 else if (n - 4) % 39 < 8 then (n - 4) % 39 + 1 else (n - 4) % 39)) else if n = 433 then 433 else if n = 434 then 434 else if n = 435 then 435 else if n = 436 then 438 else if n = 457 then 436 else if n = 458 then 437 else n + 2
theorem i_pi_ok : ∀ k, k < 459 → i_pi k < 459 ∧ i_inv (i_pi k) = k := by decide +kernel
theorem i_pi_at {b o : Nat} (hb : b < 11) (ho : o < 39) : i_pi (39 * b + o) = i_base b + i_off o := by
  unfold i_pi
  rw [if_pos (by omega), show (39 * b + o) / 39 = b by omega, show (39 * b + o) % 39 = o by omega]
theorem i_cell {cy : Nat → ClassId} {ad : Nat → Nat} {E : Nat → va_E} {pm : Nat → Nat} {b o : Nat} (hb : b < 11) (ho : o < 39) (h : Bh cy (fun k => ad (i_base b + k)) (fun k => E (i_base b + k))) : vEq (E (i_pi (39 * b + o))) (cE (fun k => ad (i_pi k)) cy pm none (39 * b + o) (o0 (39 * b + o))) := by
  obtain ⟨h0, h1, h2, h3, h4⟩ := h
  have hz : ∀ j, o0 (39 * b + o) j = 0 := fun j => if_neg (by omega)
  rw [i_pi_at hb ho]
  by_cases e0 : o = 0
  · subst e0
    rw [cE_beach (by omega) (by omega)]
    refine vEq.rf (h0.trans ?_)
    show _ = ((.inr (3, [.ref (ad (i_pi (39 * b + 0 + 1))), .ref (ad (i_pi (39 * b + 0 + 2))), .int (o0 (39 * b + 0) 2), .int (o0 (39 * b + 0) 3), .int (o0 (39 * b + 0) 4), .int (o0 (39 * b + 0) 5), .int (o0 (39 * b + 0) 6)]) : va_E))
    rw [hz, hz, hz, hz, hz, i_pi_at (o := 0 + 1) hb (by decide), i_pi_at (o := 0 + 2) hb (by decide)]
    rfl
  · by_cases e1 : o = 1
    · subst e1
      rw [cE_tracks (by omega) (by omega)]
      refine (vEq.rf h1).tr (i_rA fun j hj => ?_)
      show (if j < 6 then some (ad (i_base b + (2 + j))) else none) = some (ad (i_pi (39 * b + 1 + 2 + j)))
      rw [if_pos hj, show 39 * b + 1 + 2 + j = 39 * b + (3 + j) by omega, i_pi_at hb (by omega)]
      congr 3
      unfold i_off
      rw [if_neg (by omega), if_neg (by omega), if_neg (by omega), if_pos (by omega)]
      omega
    · by_cases e2 : o = 2
      · subst e2
        rw [cE_prints (by omega) (by omega)]
        refine (vEq.rf h2).tr (i_rA fun j hj => ?_)
        show (if j < 30 then some (ad (i_base b + (9 + j))) else none) = some (ad (i_pi (39 * b + 2 + 7 + j)))
        rw [if_pos hj, show 39 * b + 2 + 7 + j = 39 * b + (9 + j) by omega, i_pi_at hb (by omega)]
        congr 3
        unfold i_off
        rw [if_neg (by omega), if_neg (by omega), if_neg (by omega), if_neg (by omega)]
      · by_cases e3 : o < 9
        · rw [cE_track (by omega) (by omega)]
          have h9 := h3 (o - 3) (by omega)
          rw [show i_base b + i_off o = i_base b + (2 + (o - 3)) by unfold i_off; rw [if_neg e0, if_neg e1, if_neg e2, if_pos e3]; omega]
          refine vEq.rf (h9.trans ?_)
          show _ = ((.inr (11, [.int (bz (o0 (39 * b + o) 0)), .int (o0 (39 * b + o) 1), .int (o0 (39 * b + o) 2)]) : va_E))
          rw [hz, hz, hz]
          rfl
        · rw [cE_print (by omega) (by omega)]
          have h9 := h4 (o - 9) (by omega)
          rw [show i_base b + i_off o = i_base b + (9 + (o - 9)) by unfold i_off; rw [if_neg e0, if_neg e1, if_neg e2, if_neg e3]; omega]
          refine vEq.rf (h9.trans ?_)
          show _ = ((.inr (6, [.int (bz (o0 (39 * b + o) 0)), .int (o0 (39 * b + o) 1), .int (o0 (39 * b + o) 2), .int (o0 (39 * b + o) 3), .int (o0 (39 * b + o) 4), .int (o0 (39 * b + o) 5), .int (bz (o0 (39 * b + o) 6)), .int (o0 (39 * b + o) 7), .int (o0 (39 * b + o) 8), .int (bz (o0 (39 * b + o) 9))]) : va_E))
          rw [hz, hz, hz, hz, hz, hz, hz, hz, hz, hz]
          rfl

/-- the whole world out of the cells in the order of their making -/
theorem i_whole {D : va_G} {cy : Nat → ClassId} {A : Nat → Prop} {ad : Nat → Nat} {E : Nat → va_E} {H : Heap} {q b p9 hz b9 b10 sc ou oc : Nat} (hP : iP D A ad 459 E H) (a0 : ad 0 = q) (a1 : ad 1 = b) (a40 : ad 40 = p9) (a41 : ad 41 = hz) (a355 : ad 355 = b9) (a394 : ad 394 = b10) (a433 : ad 433 = sc) (a457 : ad 457 = ou) (a458 : ad 458 = oc)
    (e0 : E 0 = .inr (12, [.ref b, .ref p9, .ref hz, .ref b9, .ref b10, .int 0, .ref sc, .ref ou, .null, .int (-1)])) (e40 : E 40 = .inr (7, [.ref b])) (e457 : E 457 = .inr (10, [.ref oc, .int 0])) (e458 : E 458 = .inl (cy 0, 90, .inl (fun _ => 0)))
    (B0 : Bh cy (fun k => ad (1 + k)) (fun k => E (1 + k))) (B9 : Bh cy (fun k => ad (355 + k)) (fun k => E (355 + k))) (B10 : Bh cy (fun k => ad (394 + k)) (fun k => E (394 + k))) (Hi : Hh cy (fun k => ad (41 + k)) (fun k => E (41 + k))) (Sc : Sh cy (fun k => ad (433 + k)) (fun k => E (433 + k))) :
    sp_inj (fun k => ad (i_pi k)) 459 ∧ (fun k => ad (i_pi k)) 429 = q ∧ (∀ k, k < 459 → A (ad (i_pi k))) ∧ va_P D vwCl (cW (fun k => ad (i_pi k)) cy (fun j => j + 1) none o0) H := by
  refine ⟨fun i j hi hj hij => ?_, a0, fun k hk => hP.2.1 _ (i_pi_ok k hk).1, sp_P_of fun k hk => ?_⟩
  · have h1 := hP.1 _ _ (i_pi_ok i hi).1 (i_pi_ok j hj).1 hij
    rw [← (i_pi_ok i hi).2, ← (i_pi_ok j hj).2, h1]
  · have h9 := hP.2.2 (i_pi k) (i_pi_ok k hk).1
    have hc : vEq (E (i_pi k)) (cE (fun k => ad (i_pi k)) cy (fun j => j + 1) none k (o0 k)) := by
      by_cases h1 : k < 429
      · obtain ⟨b, o, rfl, hb, ho⟩ : ∃ b o, k = 39 * b + o ∧ b < 11 ∧ o < 39 := ⟨k / 39, k % 39, by omega, by omega, by omega⟩
        refine i_cell hb ho ?_
        by_cases q0 : b = 0
        · subst q0; exact B0
        · by_cases q9 : b = 9
          · subst q9; exact B9
          · by_cases q10 : b = 10
            · subst q10; exact B10
            · have h8 := Hi.2.2 (b - 1) (by omega)
              have hE : i_base b = 41 + (2 + 39 * (b - 1)) := by unfold i_base; rw [if_neg q0]; omega
              rw [hE]
              refine h8.congr (fun k _ => ?_) (fun k _ => ?_)
              · show ad (41 + (2 + 39 * (b - 1)) + k) = ad (41 + (2 + 39 * (b - 1) + k)); rw [Nat.add_assoc 41]
              · show E (41 + (2 + 39 * (b - 1)) + k) = E (41 + (2 + 39 * (b - 1) + k)); rw [Nat.add_assoc 41]
      · by_cases h2 : 439 ≤ k
        · rw [cE_cmd h2]
          have h8 := Sc.2.2.2.2 (k - 439) (by omega)
          have hz9 : ∀ j, o0 k j = 0 := fun j => if_neg (by omega)
          have hE : i_pi k = 433 + (4 + (k - 439)) := by unfold i_pi; simp only [show ¬ k < 429 by omega, show ¬ k = 429 by omega, show ¬ k = 430 by omega, show ¬ k = 431 by omega, show ¬ k = 432 by omega, show ¬ k = 433 by omega, show ¬ k = 434 by omega, show ¬ k = 435 by omega, show ¬ k = 436 by omega, show ¬ k = 437 by omega, show ¬ k = 438 by omega, if_false]; omega
          rw [hE]
          refine vEq.rf (Eq.trans h8 ?_)
          show _ = ((.inr (4, [.int (cz (o0 k 0)), .int (o0 k 1), .int (o0 k 2), .int (o0 k 3), .int (o0 k 4), .int (bz (o0 k 5)), .int (o0 k 6)]) : va_E))
          rw [hz9, hz9, hz9, hz9, hz9, hz9, hz9]
          rfl
        · rcases (show k = 429 ∨ k = 430 ∨ k = 431 ∨ k = 432 ∨ k = 433 ∨ k = 434 ∨ k = 435 ∨ k = 436 ∨ k = 437 ∨ k = 438 by omega) with rfl | rfl | rfl | rfl | rfl | rfl | rfl | rfl | rfl | rfl
          · rw [cE_sp]
            refine vEq.rf (Eq.trans e0 ?_)
            rw [← a1, ← a40, ← a41, ← a355, ← a394, ← a433, ← a457]
            rfl
          · rw [cE_proof]
            refine vEq.rf (Eq.trans e40 ?_)
            rw [← a1]; rfl
          · rw [cE_hist]
            exact vEq.rf Hi.1
          · rw [cE_past]
            refine (vEq.rf Hi.2.1).tr (i_rA fun j hj => ?_)
            show (if j < 8 then some (ad (41 + (2 + 39 * j))) else none) = some (ad (i_pi (39 * (j + 1))))
            rw [if_pos hj, show 39 * (j + 1) = 39 * (j + 1) + 0 from rfl, i_pi_at (by omega) (by decide)]
            congr 2
            unfold i_base i_off
            rw [if_neg (by omega), if_pos rfl]
            omega
          · rw [cE_script]; exact vEq.rf Sc.1
          · rw [cE_in]; exact vEq.rf Sc.2.1
          · rw [cE_inc]; exact vEq.rf Sc.2.2.1
          · rw [cE_out]
            refine vEq.rf (Eq.trans e457 ?_)
            rw [← a458]; rfl
          · rw [cE_outc]; exact vEq.rf e458
          · rw [cE_cmds]
            refine (vEq.rf Sc.2.2.2.1).tr (i_rA fun j hj => ?_)
            show (if j < 20 then some (ad (433 + (4 + j))) else none) = some (ad (i_pi (439 + j)))
            rw [if_pos hj]
            congr 2
            unfold i_pi
            simp only [show ¬ 439 + j < 429 by omega, show ¬ 439 + j = 429 by omega, show ¬ 439 + j = 430 by omega, show ¬ 439 + j = 431 by omega, show ¬ 439 + j = 432 by omega, show ¬ 439 + j = 433 by omega, show ¬ 439 + j = 434 by omega, show ¬ 439 + j = 435 by omega, show ¬ 439 + j = 436 by omega, show ¬ 439 + j = 437 by omega, show ¬ 439 + j = 438 by omega, if_false]
            omega
    exact hc _ _ _ h9
set_option maxHeartbeats 4000000 in
set_option maxRecDepth 100000 in
theorem c_X9_init (l : Launch) (D : va_G) (cy : Nat → ClassId) (q sz : Nat) : Met l yX9_init wsX9_init ({ frames := 4, cells := 458, slots := 4301, locals := 82 } : Room) (iPc D cy q sz 12 [.null, .null, .null, .null, .null, .int 0, .null, .null, .null, .int 0]) (iW9 D cy q) 458 4301 (iA q sz) := by
  refine Met.ofW (cc := cX9_init) (maxL := 1) (ret := none) (by decide) rfl ?_
  intro p e s m args below meth c s₁ B hml hv
  obtain ⟨rfl, hsz, hat, hK, hIX⟩ := hv
  have hx := B.exec
  have hb := B.bytes
  have hr := B.returns
  have hts := atoms_spec (ws := wsX9_init) B.pre
  have hown : s.vm.findClass RX9 = some m.cls := findClass_of_methodNamed B.named
  have hlocks := B.notSynchronized
  have hin : meth.name = "<init>" := (name_of_methodNamed B.named B.method).1
  subst hsz
  have hS : va_S (iA q s.heap.size) s.heap s.heap [] := va_S.rf
  have hAs : ∀ x, s.heap.size ≤ x → iA q s.heap.size x := fun x h => Or.inr h
  have hP := iP_first (A := iA q s.heap.size) hat (Or.inl rfl)
  have hl := lv_entry ([.ref q]) (n := 1) (Nat.le_of_ble_eq_true rfl)
  refine W.eq (lg_entry_eq _ ([.ref q]) _) ?_
  generalize (lg_sl ([.ref q]) ++ List.replicate (1 - (lg_sl ([.ref q])).length) Slot.unset).toArray = ls at hl ⊢
  have hl : lv_has ls 1 [(0, .ref q)] := hl
  refine lv_aload_n hx hb dX9_init_0 rfl (lv_at hl 0 rfl) ?_
  refine W.objInit hx hb hown (hts _ (List.mem_of_getElem? (i := 1) rfl)) (hts _ (List.mem_of_getElem? (i := 2) rfl)) (hts _ (List.mem_of_getElem? (i := 3) rfl)) rfl (by rw [hml]; exact hl.1) rfl dX9_init_1 (Nat.le_of_ble_eq_true rfl) (Nat.le_of_ble_eq_true rfl) ?_
  refine W.eq (g2 := F0 m 4 ls []) rfl ?_
  have f0 : (fun _ : Nat => q) 0 = q := rfl
  have f00 : (fun _ : Nat => (.inr (12, [.null, .null, .null, .null, .null, .int 0, .null, .null, .null, .int 0]) : va_E)) 0 = .inr (12, [.null, .null, .null, .null, .null, .int 0, .null, .null, .null, .int 0]) := rfl
  refine lv_aload_n hx hb dX9_init_4 rfl (lv_at hl 0 rfl) ?_
  refine j_new (fs := [.null, .null, .int 0, .int 0, .int 0, .int 0, .int 0]) (ci := 3) (C := RX0) (T := TX0) (N := 7) hx hb hts wi_X9_init_X0 tyX0 tyX0_ok hown (hts _ (List.mem_of_getElem? (i := 4) rfl)) (hts _ (List.mem_of_getElem? (i := 5) rfl)) (hts _ (List.mem_of_getElem? (i := 6) rfl)) hK hP hS hAs rfl (fun j hj => by rcases (show j = 0 ∨ j = 1 ∨ j = 2 ∨ j = 3 ∨ j = 4 ∨ j = 5 ∨ j = 6 by omega) with rfl | rfl | rfl | rfl | rfl | rfl | rfl <;> rfl) (by first | exact Nat.le_of_ble_eq_true rfl | (show _ ≤ 313; omega)) (by first | exact Nat.le_of_ble_eq_true rfl | (show _ ≤ 2896; omega)) dX9_init_5 (fun z1 H adn1 En1 hP hA1 hE1 ha1 he1 hz1 hS => ?_)
  have f1 : adn1 0 = q := (hA1 0 (by decide)).trans f0
  have f2 : En1 0 = .inr (12, [.null, .null, .null, .null, .null, .int 0, .null, .null, .null, .int 0]) := (hE1 0 (by decide)).trans f00
  refine lv_dup hx hb dX9_init_8 rfl ?_
  refine j_call (m1 := 38) (n := 1) (va_runI (As := []) (rest := [.ref z1, .ref q]) ⟨hx, hb, hml, hown, hts⟩ (c_X0_init l D cy z1 _) (cwI 0 hts gX9_init_X0_init rfl rfl rfl (hts _ (List.mem_of_getElem? (i := 6) rfl)) (hts _ (List.mem_of_getElem? (i := 30) rfl)) (hts _ (List.mem_of_getElem? (i := 31) rfl)) rfl (by decide +kernel) ⟨Nat.le_of_ble_eq_true rfl, Nat.le_of_ble_eq_true rfl⟩) ⟨iB_blind, fun U hU hW => ⟨rfl, by rw [hU], by have h9 := hP.2.2 (1) (by omega); rw [ha1, he1] at h9; rw [hU]; exact h9, va_K.moved hW.alike hK, hIX.warm hW⟩⟩ rfl rfl hl.1 rfl (lv_room (Nat.le_of_ble_eq_true rfl)) dX9_init_9 (by first | exact ⟨Nat.le_of_ble_eq_true rfl, Nat.le_of_ble_eq_true rfl⟩ | exact ⟨by show _ ≤ 313; omega, by show _ ≤ 2896; omega⟩)) hS hP ha1 hAs (fun H locs adc2 Ec2 hP hA2 hE2 hG2 hf2 hS => ?_)
  have f3 : adc2 0 = q := (hA2 0 (by decide)).trans f1
  have f4 : Ec2 0 = .inr (12, [.null, .null, .null, .null, .null, .int 0, .null, .null, .null, .int 0]) := (hE2 0 (by decide)).trans f2
  have f5 : adc2 1 = z1 := (hA2 1 (by decide)).trans ha1
  refine W.eq (g2 := F0 m 12 ls [.ref z1, .ref q]) rfl ?_
  refine j_putF (C := RX9) (T := TX9) (N := 10) (ty := tyX9 0) hx hb hts wi_X9_init_X9 tyX9 tyX9_ok nmX9 hown hK hP hS (κ := 0) (by decide) f3 f4 rfl 0 (by decide) (hts _ (List.mem_of_getElem? (i := 7) rfl)) (fun _ h => h) rfl hin rfl (by decide +kernel) rfl rfl (Nat.le_of_ble_eq_true rfl) dX9_init_12 (fun H locs Ep3 hP hX3 hp3 hS => ?_)
  have f8 : Bh cy (fun k => adc2 (1 + k)) (fun k => Ep3 (1 + k)) := hG2.congr (fun k hk => rfl) (fun k hk => hX3 _ (by omega))
  refine lv_aload_n hx hb dX9_init_15 rfl (lv_at hl 0 rfl) ?_
  refine j_new (fs := [.null]) (ci := 7) (C := RX4) (T := TX4) (N := 1) hx hb hts wi_X9_init_X4 tyX4 tyX4_ok hown (hts _ (List.mem_of_getElem? (i := 8) rfl)) (hts _ (List.mem_of_getElem? (i := 9) rfl)) (hts _ (List.mem_of_getElem? (i := 10) rfl)) hK hP hS hAs rfl (fun j hj => by rcases (show j = 0 by omega) with rfl <;> rfl) (by first | exact Nat.le_of_ble_eq_true rfl | (show _ ≤ 313; omega)) (by first | exact Nat.le_of_ble_eq_true rfl | (show _ ≤ 2896; omega)) dX9_init_16 (fun z4 H adn4 En4 hP hA4 hE4 ha4 he4 hz4 hS => ?_)
  have f9 : adn4 0 = q := (hA4 0 (by decide)).trans f3
  have f10 : adn4 1 = z1 := (hA4 1 (by decide)).trans f5
  have f11 : Bh cy (fun k => adn4 (1 + k)) (fun k => En4 (1 + k)) := f8.congr (fun k hk => hA4 _ (by omega)) (fun k hk => hE4 _ (by omega))
  have f12 : En4 0 = .inr (12, [.ref z1, .null, .null, .null, .null, .int 0, .null, .null, .null, .int 0]) := (hE4 0 (by decide)).trans hp3
  refine lv_dup hx hb dX9_init_19 rfl ?_
  refine lv_aload_n hx hb dX9_init_20 rfl (lv_at hl 0 rfl) ?_
  refine i_get (C := RX9) (T := TX9) (N := 10) hx hb hts wi_X9_init_X9 hown hK hP (κ := 0) (by decide) f9 f12 rfl 0 (by decide) (hts _ (List.mem_of_getElem? (i := 7) rfl)) (fun _ h => h) rfl dX9_init_21 ?_
  refine j_call1 (κ := 40) (va_runI (As := [.ref z1]) (rest := [.ref z4, .ref q]) ⟨hx, hb, hml, hown, hts⟩ (c_X4_init l D (tyG cy) z4 _ z1) (cwI 1 hts gX9_init_X4_init rfl rfl rfl (hts _ (List.mem_of_getElem? (i := 10) rfl)) (hts _ (List.mem_of_getElem? (i := 48) rfl)) (hts _ (List.mem_of_getElem? (i := 49) rfl)) rfl (by decide +kernel) ⟨Nat.le_of_ble_eq_true rfl, Nat.le_of_ble_eq_true rfl⟩) ⟨sp_blindm, fun U hU hW => ⟨rfl, by rw [hU], by have h9 := hP.2.2 40 (by decide); rw [ha4, he4] at h9; rw [hU]; exact sp_one h9, va_K.moved hW.alike hK⟩⟩ rfl rfl hl.1 rfl (lv_room (Nat.le_of_ble_eq_true rfl)) dX9_init_24 ⟨Nat.le_of_ble_eq_true rfl, Nat.le_of_ble_eq_true rfl⟩) hS hP (by decide) ha4 (fun H locs Eq5 hP hX5 hq5 hS => ?_)
  have f15 : Bh cy (fun k => adn4 (1 + k)) (fun k => Eq5 (1 + k)) := f11.congr (fun k hk => rfl) (fun k hk => hX5 _ (by omega))
  have f16 : Eq5 0 = .inr (12, [.ref z1, .null, .null, .null, .null, .int 0, .null, .null, .null, .int 0]) := (hX5 0 (by decide)).trans f12
  refine W.eq (g2 := F0 m 27 ls [.ref z4, .ref q]) rfl ?_
  refine j_putF (C := RX9) (T := TX9) (N := 10) (ty := tyX9 1) hx hb hts wi_X9_init_X9 tyX9 tyX9_ok nmX9 hown hK hP hS (κ := 0) (by decide) f9 f16 rfl 1 (by decide) (hts _ (List.mem_of_getElem? (i := 11) rfl)) (fun _ h => h) rfl hin rfl (by decide +kernel) rfl rfl (Nat.le_of_ble_eq_true rfl) dX9_init_27 (fun H locs Ep6 hP hX6 hp6 hS => ?_)
  have f20 : Bh cy (fun k => adn4 (1 + k)) (fun k => Ep6 (1 + k)) := f15.congr (fun k hk => rfl) (fun k hk => hX6 _ (by omega))
  have f22 : Ep6 40 = .inr (7, [.ref z1]) := (hX6 40 (by decide)).trans hq5
  refine lv_aload_n hx hb dX9_init_30 rfl (lv_at hl 0 rfl) ?_
  refine j_new (fs := [.null, .int 0]) (ci := 5) (C := RX2) (T := TX2) (N := 2) hx hb hts wi_X9_init_X2 tyX2 tyX2_ok hown (hts _ (List.mem_of_getElem? (i := 12) rfl)) (hts _ (List.mem_of_getElem? (i := 13) rfl)) (hts _ (List.mem_of_getElem? (i := 14) rfl)) hK hP hS hAs rfl (fun j hj => by rcases (show j = 0 ∨ j = 1 by omega) with rfl | rfl <;> rfl) (by first | exact Nat.le_of_ble_eq_true rfl | (show _ ≤ 313; omega)) (by first | exact Nat.le_of_ble_eq_true rfl | (show _ ≤ 2896; omega)) dX9_init_31 (fun z7 H adn7 En7 hP hA7 hE7 ha7 he7 hz7 hS => ?_)
  have f23 : adn7 0 = q := (hA7 0 (by decide)).trans f9
  have f24 : adn7 1 = z1 := (hA7 1 (by decide)).trans f10
  have f25 : Bh cy (fun k => adn7 (1 + k)) (fun k => En7 (1 + k)) := f20.congr (fun k hk => hA7 _ (by omega)) (fun k hk => hE7 _ (by omega))
  have f26 : adn7 40 = z4 := (hA7 40 (by decide)).trans ha4
  have f27 : En7 40 = .inr (7, [.ref z1]) := (hE7 40 (by decide)).trans f22
  have f28 : En7 0 = .inr (12, [.ref z1, .ref z4, .null, .null, .null, .int 0, .null, .null, .null, .int 0]) := (hE7 0 (by decide)).trans hp6
  refine lv_dup hx hb dX9_init_34 rfl ?_
  refine j_call (m1 := 313) (n := 41) (va_runI (As := []) (rest := [.ref z7, .ref q]) ⟨hx, hb, hml, hown, hts⟩ (c_X2_init l D cy z7 _) (cwI 0 hts gX9_init_X2_init rfl rfl rfl (hts _ (List.mem_of_getElem? (i := 14) rfl)) (hts _ (List.mem_of_getElem? (i := 53) rfl)) (hts _ (List.mem_of_getElem? (i := 54) rfl)) rfl (by decide +kernel) ⟨Nat.le_of_ble_eq_true rfl, Nat.le_of_ble_eq_true rfl⟩) ⟨iB_blind, fun U hU hW => ⟨rfl, by rw [hU], by have h9 := hP.2.2 (41) (by omega); rw [ha7, he7] at h9; rw [hU]; exact h9, va_K.moved hW.alike hK, hIX.warm hW⟩⟩ rfl rfl hl.1 rfl (lv_room (Nat.le_of_ble_eq_true rfl)) dX9_init_35 (by first | exact ⟨Nat.le_of_ble_eq_true rfl, Nat.le_of_ble_eq_true rfl⟩ | exact ⟨by show _ ≤ 313; omega, by show _ ≤ 2896; omega⟩)) hS hP ha7 hAs (fun H locs adc8 Ec8 hP hA8 hE8 hG8 hf8 hS => ?_)
  have f29 : adc8 0 = q := (hA8 0 (by decide)).trans f23
  have f30 : adc8 1 = z1 := (hA8 1 (by decide)).trans f24
  have f31 : Bh cy (fun k => adc8 (1 + k)) (fun k => Ec8 (1 + k)) := f25.congr (fun k hk => hA8 _ (by omega)) (fun k hk => hE8 _ (by omega))
  have f32 : adc8 40 = z4 := (hA8 40 (by decide)).trans f26
  have f33 : Ec8 40 = .inr (7, [.ref z1]) := (hE8 40 (by decide)).trans f27
  have f34 : Ec8 0 = .inr (12, [.ref z1, .ref z4, .null, .null, .null, .int 0, .null, .null, .null, .int 0]) := (hE8 0 (by decide)).trans f28
  have f35 : adc8 41 = z7 := (hA8 41 (by decide)).trans ha7
  refine W.eq (g2 := F0 m 38 ls [.ref z7, .ref q]) rfl ?_
  refine j_putF (C := RX9) (T := TX9) (N := 10) (ty := tyX9 2) hx hb hts wi_X9_init_X9 tyX9 tyX9_ok nmX9 hown hK hP hS (κ := 0) (by decide) f29 f34 rfl 2 (by decide) (hts _ (List.mem_of_getElem? (i := 15) rfl)) (fun _ h => h) rfl hin rfl (by decide +kernel) rfl rfl (Nat.le_of_ble_eq_true rfl) dX9_init_38 (fun H locs Ep9 hP hX9 hp9 hS => ?_)
  have f38 : Bh cy (fun k => adc8 (1 + k)) (fun k => Ep9 (1 + k)) := f31.congr (fun k hk => rfl) (fun k hk => hX9 _ (by omega))
  have f40 : Ep9 40 = .inr (7, [.ref z1]) := (hX9 40 (by decide)).trans f33
  have f42 : Hh cy (fun k => adc8 (41 + k)) (fun k => Ep9 (41 + k)) := hG8.congr (fun k hk => rfl) (fun k hk => hX9 _ (by omega))
  refine lv_aload_n hx hb dX9_init_41 rfl (lv_at hl 0 rfl) ?_
  refine j_new (fs := [.null, .null, .int 0, .int 0, .int 0, .int 0, .int 0]) (ci := 3) (C := RX0) (T := TX0) (N := 7) hx hb hts wi_X9_init_X0 tyX0 tyX0_ok hown (hts _ (List.mem_of_getElem? (i := 4) rfl)) (hts _ (List.mem_of_getElem? (i := 5) rfl)) (hts _ (List.mem_of_getElem? (i := 6) rfl)) hK hP hS hAs rfl (fun j hj => by rcases (show j = 0 ∨ j = 1 ∨ j = 2 ∨ j = 3 ∨ j = 4 ∨ j = 5 ∨ j = 6 by omega) with rfl | rfl | rfl | rfl | rfl | rfl | rfl <;> rfl) (by first | exact Nat.le_of_ble_eq_true rfl | (show _ ≤ 313; omega)) (by first | exact Nat.le_of_ble_eq_true rfl | (show _ ≤ 2896; omega)) dX9_init_42 (fun z10 H adn10 En10 hP hA10 hE10 ha10 he10 hz10 hS => ?_)
  have f43 : adn10 0 = q := (hA10 0 (by decide)).trans f29
  have f44 : adn10 1 = z1 := (hA10 1 (by decide)).trans f30
  have f45 : Bh cy (fun k => adn10 (1 + k)) (fun k => En10 (1 + k)) := f38.congr (fun k hk => hA10 _ (by omega)) (fun k hk => hE10 _ (by omega))
  have f46 : adn10 40 = z4 := (hA10 40 (by decide)).trans f32
  have f47 : En10 40 = .inr (7, [.ref z1]) := (hE10 40 (by decide)).trans f40
  have f48 : adn10 41 = z7 := (hA10 41 (by decide)).trans f35
  have f49 : Hh cy (fun k => adn10 (41 + k)) (fun k => En10 (41 + k)) := f42.congr (fun k hk => hA10 _ (by omega)) (fun k hk => hE10 _ (by omega))
  have f50 : En10 0 = .inr (12, [.ref z1, .ref z4, .ref z7, .null, .null, .int 0, .null, .null, .null, .int 0]) := (hE10 0 (by decide)).trans hp9
  refine lv_dup hx hb dX9_init_45 rfl ?_
  refine j_call (m1 := 38) (n := 355) (va_runI (As := []) (rest := [.ref z10, .ref q]) ⟨hx, hb, hml, hown, hts⟩ (c_X0_init l D cy z10 _) (cwI 0 hts gX9_init_X0_init rfl rfl rfl (hts _ (List.mem_of_getElem? (i := 6) rfl)) (hts _ (List.mem_of_getElem? (i := 30) rfl)) (hts _ (List.mem_of_getElem? (i := 31) rfl)) rfl (by decide +kernel) ⟨Nat.le_of_ble_eq_true rfl, Nat.le_of_ble_eq_true rfl⟩) ⟨iB_blind, fun U hU hW => ⟨rfl, by rw [hU], by have h9 := hP.2.2 (355) (by omega); rw [ha10, he10] at h9; rw [hU]; exact h9, va_K.moved hW.alike hK, hIX.warm hW⟩⟩ rfl rfl hl.1 rfl (lv_room (Nat.le_of_ble_eq_true rfl)) dX9_init_46 (by first | exact ⟨Nat.le_of_ble_eq_true rfl, Nat.le_of_ble_eq_true rfl⟩ | exact ⟨by show _ ≤ 313; omega, by show _ ≤ 2896; omega⟩)) hS hP ha10 hAs (fun H locs adc11 Ec11 hP hA11 hE11 hG11 hf11 hS => ?_)
  have f51 : adc11 0 = q := (hA11 0 (by decide)).trans f43
  have f52 : adc11 1 = z1 := (hA11 1 (by decide)).trans f44
  have f53 : Bh cy (fun k => adc11 (1 + k)) (fun k => Ec11 (1 + k)) := f45.congr (fun k hk => hA11 _ (by omega)) (fun k hk => hE11 _ (by omega))
  have f54 : adc11 40 = z4 := (hA11 40 (by decide)).trans f46
  have f55 : Ec11 40 = .inr (7, [.ref z1]) := (hE11 40 (by decide)).trans f47
  have f56 : adc11 41 = z7 := (hA11 41 (by decide)).trans f48
  have f57 : Hh cy (fun k => adc11 (41 + k)) (fun k => Ec11 (41 + k)) := f49.congr (fun k hk => hA11 _ (by omega)) (fun k hk => hE11 _ (by omega))
  have f58 : Ec11 0 = .inr (12, [.ref z1, .ref z4, .ref z7, .null, .null, .int 0, .null, .null, .null, .int 0]) := (hE11 0 (by decide)).trans f50
  have f59 : adc11 355 = z10 := (hA11 355 (by decide)).trans ha10
  refine W.eq (g2 := F0 m 49 ls [.ref z10, .ref q]) rfl ?_
  refine j_putF (C := RX9) (T := TX9) (N := 10) (ty := tyX9 3) hx hb hts wi_X9_init_X9 tyX9 tyX9_ok nmX9 hown hK hP hS (κ := 0) (by decide) f51 f58 rfl 3 (by decide) (hts _ (List.mem_of_getElem? (i := 16) rfl)) (fun _ h => h) rfl hin rfl (by decide +kernel) rfl rfl (Nat.le_of_ble_eq_true rfl) dX9_init_49 (fun H locs Ep12 hP hX12 hp12 hS => ?_)
  have f62 : Bh cy (fun k => adc11 (1 + k)) (fun k => Ep12 (1 + k)) := f53.congr (fun k hk => rfl) (fun k hk => hX12 _ (by omega))
  have f64 : Ep12 40 = .inr (7, [.ref z1]) := (hX12 40 (by decide)).trans f55
  have f66 : Hh cy (fun k => adc11 (41 + k)) (fun k => Ep12 (41 + k)) := f57.congr (fun k hk => rfl) (fun k hk => hX12 _ (by omega))
  have f68 : Bh cy (fun k => adc11 (355 + k)) (fun k => Ep12 (355 + k)) := hG11.congr (fun k hk => rfl) (fun k hk => hX12 _ (by omega))
  refine lv_aload_n hx hb dX9_init_52 rfl (lv_at hl 0 rfl) ?_
  refine j_new (fs := [.null, .null, .int 0, .int 0, .int 0, .int 0, .int 0]) (ci := 3) (C := RX0) (T := TX0) (N := 7) hx hb hts wi_X9_init_X0 tyX0 tyX0_ok hown (hts _ (List.mem_of_getElem? (i := 4) rfl)) (hts _ (List.mem_of_getElem? (i := 5) rfl)) (hts _ (List.mem_of_getElem? (i := 6) rfl)) hK hP hS hAs rfl (fun j hj => by rcases (show j = 0 ∨ j = 1 ∨ j = 2 ∨ j = 3 ∨ j = 4 ∨ j = 5 ∨ j = 6 by omega) with rfl | rfl | rfl | rfl | rfl | rfl | rfl <;> rfl) (by first | exact Nat.le_of_ble_eq_true rfl | (show _ ≤ 313; omega)) (by first | exact Nat.le_of_ble_eq_true rfl | (show _ ≤ 2896; omega)) dX9_init_53 (fun z13 H adn13 En13 hP hA13 hE13 ha13 he13 hz13 hS => ?_)
  have f69 : adn13 0 = q := (hA13 0 (by decide)).trans f51
  have f70 : adn13 1 = z1 := (hA13 1 (by decide)).trans f52
  have f71 : Bh cy (fun k => adn13 (1 + k)) (fun k => En13 (1 + k)) := f62.congr (fun k hk => hA13 _ (by omega)) (fun k hk => hE13 _ (by omega))
  have f72 : adn13 40 = z4 := (hA13 40 (by decide)).trans f54
  have f73 : En13 40 = .inr (7, [.ref z1]) := (hE13 40 (by decide)).trans f64
  have f74 : adn13 41 = z7 := (hA13 41 (by decide)).trans f56
  have f75 : Hh cy (fun k => adn13 (41 + k)) (fun k => En13 (41 + k)) := f66.congr (fun k hk => hA13 _ (by omega)) (fun k hk => hE13 _ (by omega))
  have f76 : adn13 355 = z10 := (hA13 355 (by decide)).trans f59
  have f77 : Bh cy (fun k => adn13 (355 + k)) (fun k => En13 (355 + k)) := f68.congr (fun k hk => hA13 _ (by omega)) (fun k hk => hE13 _ (by omega))
  have f78 : En13 0 = .inr (12, [.ref z1, .ref z4, .ref z7, .ref z10, .null, .int 0, .null, .null, .null, .int 0]) := (hE13 0 (by decide)).trans hp12
  refine lv_dup hx hb dX9_init_56 rfl ?_
  refine j_call (m1 := 38) (n := 394) (va_runI (As := []) (rest := [.ref z13, .ref q]) ⟨hx, hb, hml, hown, hts⟩ (c_X0_init l D cy z13 _) (cwI 0 hts gX9_init_X0_init rfl rfl rfl (hts _ (List.mem_of_getElem? (i := 6) rfl)) (hts _ (List.mem_of_getElem? (i := 30) rfl)) (hts _ (List.mem_of_getElem? (i := 31) rfl)) rfl (by decide +kernel) ⟨Nat.le_of_ble_eq_true rfl, Nat.le_of_ble_eq_true rfl⟩) ⟨iB_blind, fun U hU hW => ⟨rfl, by rw [hU], by have h9 := hP.2.2 (394) (by omega); rw [ha13, he13] at h9; rw [hU]; exact h9, va_K.moved hW.alike hK, hIX.warm hW⟩⟩ rfl rfl hl.1 rfl (lv_room (Nat.le_of_ble_eq_true rfl)) dX9_init_57 (by first | exact ⟨Nat.le_of_ble_eq_true rfl, Nat.le_of_ble_eq_true rfl⟩ | exact ⟨by show _ ≤ 313; omega, by show _ ≤ 2896; omega⟩)) hS hP ha13 hAs (fun H locs adc14 Ec14 hP hA14 hE14 hG14 hf14 hS => ?_)
  have f79 : adc14 0 = q := (hA14 0 (by decide)).trans f69
  have f80 : adc14 1 = z1 := (hA14 1 (by decide)).trans f70
  have f81 : Bh cy (fun k => adc14 (1 + k)) (fun k => Ec14 (1 + k)) := f71.congr (fun k hk => hA14 _ (by omega)) (fun k hk => hE14 _ (by omega))
  have f82 : adc14 40 = z4 := (hA14 40 (by decide)).trans f72
  have f83 : Ec14 40 = .inr (7, [.ref z1]) := (hE14 40 (by decide)).trans f73
  have f84 : adc14 41 = z7 := (hA14 41 (by decide)).trans f74
  have f85 : Hh cy (fun k => adc14 (41 + k)) (fun k => Ec14 (41 + k)) := f75.congr (fun k hk => hA14 _ (by omega)) (fun k hk => hE14 _ (by omega))
  have f86 : adc14 355 = z10 := (hA14 355 (by decide)).trans f76
  have f87 : Bh cy (fun k => adc14 (355 + k)) (fun k => Ec14 (355 + k)) := f77.congr (fun k hk => hA14 _ (by omega)) (fun k hk => hE14 _ (by omega))
  have f88 : Ec14 0 = .inr (12, [.ref z1, .ref z4, .ref z7, .ref z10, .null, .int 0, .null, .null, .null, .int 0]) := (hE14 0 (by decide)).trans f78
  have f89 : adc14 394 = z13 := (hA14 394 (by decide)).trans ha13
  refine W.eq (g2 := F0 m 60 ls [.ref z13, .ref q]) rfl ?_
  refine j_putF (C := RX9) (T := TX9) (N := 10) (ty := tyX9 4) hx hb hts wi_X9_init_X9 tyX9 tyX9_ok nmX9 hown hK hP hS (κ := 0) (by decide) f79 f88 rfl 4 (by decide) (hts _ (List.mem_of_getElem? (i := 17) rfl)) (fun _ h => h) rfl hin rfl (by decide +kernel) rfl rfl (Nat.le_of_ble_eq_true rfl) dX9_init_60 (fun H locs Ep15 hP hX15 hp15 hS => ?_)
  have f92 : Bh cy (fun k => adc14 (1 + k)) (fun k => Ep15 (1 + k)) := f81.congr (fun k hk => rfl) (fun k hk => hX15 _ (by omega))
  have f94 : Ep15 40 = .inr (7, [.ref z1]) := (hX15 40 (by decide)).trans f83
  have f96 : Hh cy (fun k => adc14 (41 + k)) (fun k => Ep15 (41 + k)) := f85.congr (fun k hk => rfl) (fun k hk => hX15 _ (by omega))
  have f98 : Bh cy (fun k => adc14 (355 + k)) (fun k => Ep15 (355 + k)) := f87.congr (fun k hk => rfl) (fun k hk => hX15 _ (by omega))
  have f100 : Bh cy (fun k => adc14 (394 + k)) (fun k => Ep15 (394 + k)) := hG14.congr (fun k hk => rfl) (fun k hk => hX15 _ (by omega))
  refine lv_aload_n hx hb dX9_init_63 rfl (lv_at hl 0 rfl) ?_
  refine lv_iconst (v := 0) hx hb dX9_init_64 (by decide) ?_
  refine j_put (C := RX9) (T := TX9) (N := 10) (ty := tyX9 5) hx hb hts wi_X9_init_X9 tyX9 tyX9_ok nmX9 hown hK hP hS (κ := 0) (by decide) f79 hp15 rfl 5 (by decide) (hts _ (List.mem_of_getElem? (i := 18) rfl)) (fun _ h => h) rfl (by decide +kernel) rfl rfl (Nat.le_of_ble_eq_true rfl) dX9_init_65 (fun H locs Ep16 hP hX16 hp16 hS => ?_)
  have f103 : Bh cy (fun k => adc14 (1 + k)) (fun k => Ep16 (1 + k)) := f92.congr (fun k hk => rfl) (fun k hk => hX16 _ (by omega))
  have f105 : Ep16 40 = .inr (7, [.ref z1]) := (hX16 40 (by decide)).trans f94
  have f107 : Hh cy (fun k => adc14 (41 + k)) (fun k => Ep16 (41 + k)) := f96.congr (fun k hk => rfl) (fun k hk => hX16 _ (by omega))
  have f109 : Bh cy (fun k => adc14 (355 + k)) (fun k => Ep16 (355 + k)) := f98.congr (fun k hk => rfl) (fun k hk => hX16 _ (by omega))
  have f111 : Bh cy (fun k => adc14 (394 + k)) (fun k => Ep16 (394 + k)) := f100.congr (fun k hk => rfl) (fun k hk => hX16 _ (by omega))
  refine lv_aload_n hx hb dX9_init_68 rfl (lv_at hl 0 rfl) ?_
  refine j_new (fs := [.null, .null, .int 0, .int 0, .int 0]) (ci := 9) (C := RX6) (T := TX6) (N := 5) hx hb hts wi_X9_init_X6 tyX6 tyX6_ok hown (hts _ (List.mem_of_getElem? (i := 19) rfl)) (hts _ (List.mem_of_getElem? (i := 20) rfl)) (hts _ (List.mem_of_getElem? (i := 21) rfl)) hK hP hS hAs rfl (fun j hj => by rcases (show j = 0 ∨ j = 1 ∨ j = 2 ∨ j = 3 ∨ j = 4 by omega) with rfl | rfl | rfl | rfl | rfl <;> rfl) (by first | exact Nat.le_of_ble_eq_true rfl | (show _ ≤ 313; omega)) (by first | exact Nat.le_of_ble_eq_true rfl | (show _ ≤ 2896; omega)) dX9_init_69 (fun z17 H adn17 En17 hP hA17 hE17 ha17 he17 hz17 hS => ?_)
  have f112 : adn17 0 = q := (hA17 0 (by decide)).trans f79
  have f113 : adn17 1 = z1 := (hA17 1 (by decide)).trans f80
  have f114 : Bh cy (fun k => adn17 (1 + k)) (fun k => En17 (1 + k)) := f103.congr (fun k hk => hA17 _ (by omega)) (fun k hk => hE17 _ (by omega))
  have f115 : adn17 40 = z4 := (hA17 40 (by decide)).trans f82
  have f116 : En17 40 = .inr (7, [.ref z1]) := (hE17 40 (by decide)).trans f105
  have f117 : adn17 41 = z7 := (hA17 41 (by decide)).trans f84
  have f118 : Hh cy (fun k => adn17 (41 + k)) (fun k => En17 (41 + k)) := f107.congr (fun k hk => hA17 _ (by omega)) (fun k hk => hE17 _ (by omega))
  have f119 : adn17 355 = z10 := (hA17 355 (by decide)).trans f86
  have f120 : Bh cy (fun k => adn17 (355 + k)) (fun k => En17 (355 + k)) := f109.congr (fun k hk => hA17 _ (by omega)) (fun k hk => hE17 _ (by omega))
  have f121 : adn17 394 = z13 := (hA17 394 (by decide)).trans f89
  have f122 : Bh cy (fun k => adn17 (394 + k)) (fun k => En17 (394 + k)) := f111.congr (fun k hk => hA17 _ (by omega)) (fun k hk => hE17 _ (by omega))
  have f123 : En17 0 = .inr (12, [.ref z1, .ref z4, .ref z7, .ref z10, .ref z13, .int 0, .null, .null, .null, .int 0]) := (hE17 0 (by decide)).trans hp16
  refine lv_dup hx hb dX9_init_72 rfl ?_
  refine j_call (m1 := 23) (n := 433) (va_runI (As := []) (rest := [.ref z17, .ref q]) ⟨hx, hb, hml, hown, hts⟩ (c_X6_init l D cy z17 _) (cwI 0 hts gX9_init_X6_init rfl rfl rfl (hts _ (List.mem_of_getElem? (i := 21) rfl)) (hts _ (List.mem_of_getElem? (i := 60) rfl)) (hts _ (List.mem_of_getElem? (i := 61) rfl)) rfl (by decide +kernel) ⟨Nat.le_of_ble_eq_true rfl, Nat.le_of_ble_eq_true rfl⟩) ⟨iB_blind, fun U hU hW => ⟨rfl, by rw [hU], by have h9 := hP.2.2 (433) (by omega); rw [ha17, he17] at h9; rw [hU]; exact h9, va_K.moved hW.alike hK, hIX.warm hW⟩⟩ rfl rfl hl.1 rfl (lv_room (Nat.le_of_ble_eq_true rfl)) dX9_init_73 (by first | exact ⟨Nat.le_of_ble_eq_true rfl, Nat.le_of_ble_eq_true rfl⟩ | exact ⟨by show _ ≤ 313; omega, by show _ ≤ 2896; omega⟩)) hS hP ha17 hAs (fun H locs adc18 Ec18 hP hA18 hE18 hG18 hf18 hS => ?_)
  have f124 : adc18 0 = q := (hA18 0 (by decide)).trans f112
  have f125 : adc18 1 = z1 := (hA18 1 (by decide)).trans f113
  have f126 : Bh cy (fun k => adc18 (1 + k)) (fun k => Ec18 (1 + k)) := f114.congr (fun k hk => hA18 _ (by omega)) (fun k hk => hE18 _ (by omega))
  have f127 : adc18 40 = z4 := (hA18 40 (by decide)).trans f115
  have f128 : Ec18 40 = .inr (7, [.ref z1]) := (hE18 40 (by decide)).trans f116
  have f129 : adc18 41 = z7 := (hA18 41 (by decide)).trans f117
  have f130 : Hh cy (fun k => adc18 (41 + k)) (fun k => Ec18 (41 + k)) := f118.congr (fun k hk => hA18 _ (by omega)) (fun k hk => hE18 _ (by omega))
  have f131 : adc18 355 = z10 := (hA18 355 (by decide)).trans f119
  have f132 : Bh cy (fun k => adc18 (355 + k)) (fun k => Ec18 (355 + k)) := f120.congr (fun k hk => hA18 _ (by omega)) (fun k hk => hE18 _ (by omega))
  have f133 : adc18 394 = z13 := (hA18 394 (by decide)).trans f121
  have f134 : Bh cy (fun k => adc18 (394 + k)) (fun k => Ec18 (394 + k)) := f122.congr (fun k hk => hA18 _ (by omega)) (fun k hk => hE18 _ (by omega))
  have f135 : Ec18 0 = .inr (12, [.ref z1, .ref z4, .ref z7, .ref z10, .ref z13, .int 0, .null, .null, .null, .int 0]) := (hE18 0 (by decide)).trans f123
  have f136 : adc18 433 = z17 := (hA18 433 (by decide)).trans ha17
  refine W.eq (g2 := F0 m 76 ls [.ref z17, .ref q]) rfl ?_
  refine j_putF (C := RX9) (T := TX9) (N := 10) (ty := tyX9 6) hx hb hts wi_X9_init_X9 tyX9 tyX9_ok nmX9 hown hK hP hS (κ := 0) (by decide) f124 f135 rfl 6 (by decide) (hts _ (List.mem_of_getElem? (i := 22) rfl)) (fun _ h => h) rfl hin rfl (by decide +kernel) rfl rfl (Nat.le_of_ble_eq_true rfl) dX9_init_76 (fun H locs Ep19 hP hX19 hp19 hS => ?_)
  have f139 : Bh cy (fun k => adc18 (1 + k)) (fun k => Ep19 (1 + k)) := f126.congr (fun k hk => rfl) (fun k hk => hX19 _ (by omega))
  have f141 : Ep19 40 = .inr (7, [.ref z1]) := (hX19 40 (by decide)).trans f128
  have f143 : Hh cy (fun k => adc18 (41 + k)) (fun k => Ep19 (41 + k)) := f130.congr (fun k hk => rfl) (fun k hk => hX19 _ (by omega))
  have f145 : Bh cy (fun k => adc18 (355 + k)) (fun k => Ep19 (355 + k)) := f132.congr (fun k hk => rfl) (fun k hk => hX19 _ (by omega))
  have f147 : Bh cy (fun k => adc18 (394 + k)) (fun k => Ep19 (394 + k)) := f134.congr (fun k hk => rfl) (fun k hk => hX19 _ (by omega))
  have f149 : Sh cy (fun k => adc18 (433 + k)) (fun k => Ep19 (433 + k)) := hG18.congr (fun k hk => rfl) (fun k hk => hX19 _ (by omega))
  refine lv_aload_n hx hb dX9_init_79 rfl (lv_at hl 0 rfl) ?_
  refine j_new (fs := [.null, .int 0]) (ci := 10) (C := RX7) (T := TX7) (N := 2) hx hb hts wi_X9_init_X7 tyX7 tyX7_ok hown (hts _ (List.mem_of_getElem? (i := 23) rfl)) (hts _ (List.mem_of_getElem? (i := 24) rfl)) (hts _ (List.mem_of_getElem? (i := 25) rfl)) hK hP hS hAs rfl (fun j hj => by rcases (show j = 0 ∨ j = 1 by omega) with rfl | rfl <;> rfl) (by first | exact Nat.le_of_ble_eq_true rfl | (show _ ≤ 313; omega)) (by first | exact Nat.le_of_ble_eq_true rfl | (show _ ≤ 2896; omega)) dX9_init_80 (fun z20 H adn20 En20 hP hA20 hE20 ha20 he20 hz20 hS => ?_)
  have f150 : adn20 0 = q := (hA20 0 (by decide)).trans f124
  have f151 : adn20 1 = z1 := (hA20 1 (by decide)).trans f125
  have f152 : Bh cy (fun k => adn20 (1 + k)) (fun k => En20 (1 + k)) := f139.congr (fun k hk => hA20 _ (by omega)) (fun k hk => hE20 _ (by omega))
  have f153 : adn20 40 = z4 := (hA20 40 (by decide)).trans f127
  have f154 : En20 40 = .inr (7, [.ref z1]) := (hE20 40 (by decide)).trans f141
  have f155 : adn20 41 = z7 := (hA20 41 (by decide)).trans f129
  have f156 : Hh cy (fun k => adn20 (41 + k)) (fun k => En20 (41 + k)) := f143.congr (fun k hk => hA20 _ (by omega)) (fun k hk => hE20 _ (by omega))
  have f157 : adn20 355 = z10 := (hA20 355 (by decide)).trans f131
  have f158 : Bh cy (fun k => adn20 (355 + k)) (fun k => En20 (355 + k)) := f145.congr (fun k hk => hA20 _ (by omega)) (fun k hk => hE20 _ (by omega))
  have f159 : adn20 394 = z13 := (hA20 394 (by decide)).trans f133
  have f160 : Bh cy (fun k => adn20 (394 + k)) (fun k => En20 (394 + k)) := f147.congr (fun k hk => hA20 _ (by omega)) (fun k hk => hE20 _ (by omega))
  have f161 : adn20 433 = z17 := (hA20 433 (by decide)).trans f136
  have f162 : Sh cy (fun k => adn20 (433 + k)) (fun k => En20 (433 + k)) := f149.congr (fun k hk => hA20 _ (by omega)) (fun k hk => hE20 _ (by omega))
  have f163 : En20 0 = .inr (12, [.ref z1, .ref z4, .ref z7, .ref z10, .ref z13, .int 0, .ref z17, .null, .null, .int 0]) := (hE20 0 (by decide)).trans hp19
  refine lv_dup hx hb dX9_init_83 rfl ?_
  refine lv_bipush (v := 90) hx hb dX9_init_84 (by decide) ?_
  refine j_newa (atype := .char) hx hb (hts _ (List.mem_of_getElem? (i := 26) rfl)) hK hP hS hAs 0 rfl (fun h => h) (x := 90) (N' := 90) (a0 := (90, .inl (fun _ => 0))) (fun _ => rfl) (by decide) rfl (Nat.le_of_ble_eq_true rfl) (Nat.le_of_ble_eq_true rfl) (Nat.le_of_ble_eq_true rfl) dX9_init_86 (fun z21 H adn21 En21 hP hA21 hE21 ha21 he21 hz21 hS => ?_)
  have f164 : adn21 0 = q := (hA21 0 (by decide)).trans f150
  have f165 : adn21 1 = z1 := (hA21 1 (by decide)).trans f151
  have f166 : Bh cy (fun k => adn21 (1 + k)) (fun k => En21 (1 + k)) := f152.congr (fun k hk => hA21 _ (by omega)) (fun k hk => hE21 _ (by omega))
  have f167 : adn21 40 = z4 := (hA21 40 (by decide)).trans f153
  have f168 : En21 40 = .inr (7, [.ref z1]) := (hE21 40 (by decide)).trans f154
  have f169 : adn21 41 = z7 := (hA21 41 (by decide)).trans f155
  have f170 : Hh cy (fun k => adn21 (41 + k)) (fun k => En21 (41 + k)) := f156.congr (fun k hk => hA21 _ (by omega)) (fun k hk => hE21 _ (by omega))
  have f171 : adn21 355 = z10 := (hA21 355 (by decide)).trans f157
  have f172 : Bh cy (fun k => adn21 (355 + k)) (fun k => En21 (355 + k)) := f158.congr (fun k hk => hA21 _ (by omega)) (fun k hk => hE21 _ (by omega))
  have f173 : adn21 394 = z13 := (hA21 394 (by decide)).trans f159
  have f174 : Bh cy (fun k => adn21 (394 + k)) (fun k => En21 (394 + k)) := f160.congr (fun k hk => hA21 _ (by omega)) (fun k hk => hE21 _ (by omega))
  have f175 : adn21 433 = z17 := (hA21 433 (by decide)).trans f161
  have f176 : Sh cy (fun k => adn21 (433 + k)) (fun k => En21 (433 + k)) := f162.congr (fun k hk => hA21 _ (by omega)) (fun k hk => hE21 _ (by omega))
  have f177 : En21 0 = .inr (12, [.ref z1, .ref z4, .ref z7, .ref z10, .ref z13, .int 0, .ref z17, .null, .null, .int 0]) := (hE21 0 (by decide)).trans f163
  have f178 : adn21 457 = z20 := (hA21 457 (by decide)).trans ha20
  have f179 : En21 457 = .inr (10, [.null, .int 0]) := (hE21 457 (by decide)).trans he20
  refine j_call1 (κ := 457) (va_runI (As := [.ref z21]) (rest := [.ref z20, .ref q]) ⟨hx, hb, hml, hown, hts⟩ (c_X7_init l D (tyG cy) z20 _ z21) (cwI 1 hts gX9_init_X7_init rfl rfl rfl (hts _ (List.mem_of_getElem? (i := 25) rfl)) (hts _ (List.mem_of_getElem? (i := 78) rfl)) (hts _ (List.mem_of_getElem? (i := 71) rfl)) rfl (by decide +kernel) ⟨Nat.le_of_ble_eq_true rfl, Nat.le_of_ble_eq_true rfl⟩) ⟨sp_blindm, fun U hU hW => ⟨rfl, by rw [hU], by have h9 := hP.2.2 457 (by decide); rw [f178, f179] at h9; rw [hU]; exact sp_one h9, va_K.moved hW.alike hK⟩⟩ rfl rfl hl.1 rfl (lv_room (Nat.le_of_ble_eq_true rfl)) dX9_init_88 ⟨Nat.le_of_ble_eq_true rfl, Nat.le_of_ble_eq_true rfl⟩) hS hP (by decide) f178 (fun H locs Eq22 hP hX22 hq22 hS => ?_)
  have f182 : Bh cy (fun k => adn21 (1 + k)) (fun k => Eq22 (1 + k)) := f166.congr (fun k hk => rfl) (fun k hk => hX22 _ (by omega))
  have f184 : Eq22 40 = .inr (7, [.ref z1]) := (hX22 40 (by decide)).trans f168
  have f186 : Hh cy (fun k => adn21 (41 + k)) (fun k => Eq22 (41 + k)) := f170.congr (fun k hk => rfl) (fun k hk => hX22 _ (by omega))
  have f188 : Bh cy (fun k => adn21 (355 + k)) (fun k => Eq22 (355 + k)) := f172.congr (fun k hk => rfl) (fun k hk => hX22 _ (by omega))
  have f190 : Bh cy (fun k => adn21 (394 + k)) (fun k => Eq22 (394 + k)) := f174.congr (fun k hk => rfl) (fun k hk => hX22 _ (by omega))
  have f192 : Sh cy (fun k => adn21 (433 + k)) (fun k => Eq22 (433 + k)) := f176.congr (fun k hk => rfl) (fun k hk => hX22 _ (by omega))
  have f193 : Eq22 0 = .inr (12, [.ref z1, .ref z4, .ref z7, .ref z10, .ref z13, .int 0, .ref z17, .null, .null, .int 0]) := (hX22 0 (by decide)).trans f177
  have f196 : Eq22 458 = .inl (cy 0, 90, .inl (fun _ => 0)) := (hX22 458 (by decide)).trans he21
  refine W.eq (g2 := F0 m 91 ls [.ref z20, .ref q]) rfl ?_
  refine j_putF (C := RX9) (T := TX9) (N := 10) (ty := tyX9 7) hx hb hts wi_X9_init_X9 tyX9 tyX9_ok nmX9 hown hK hP hS (κ := 0) (by decide) f164 f193 rfl 7 (by decide) (hts _ (List.mem_of_getElem? (i := 27) rfl)) (fun _ h => h) rfl hin rfl (by decide +kernel) rfl rfl (Nat.le_of_ble_eq_true rfl) dX9_init_91 (fun H locs Ep23 hP hX23 hp23 hS => ?_)
  have f199 : Bh cy (fun k => adn21 (1 + k)) (fun k => Ep23 (1 + k)) := f182.congr (fun k hk => rfl) (fun k hk => hX23 _ (by omega))
  have f201 : Ep23 40 = .inr (7, [.ref z1]) := (hX23 40 (by decide)).trans f184
  have f203 : Hh cy (fun k => adn21 (41 + k)) (fun k => Ep23 (41 + k)) := f186.congr (fun k hk => rfl) (fun k hk => hX23 _ (by omega))
  have f205 : Bh cy (fun k => adn21 (355 + k)) (fun k => Ep23 (355 + k)) := f188.congr (fun k hk => rfl) (fun k hk => hX23 _ (by omega))
  have f207 : Bh cy (fun k => adn21 (394 + k)) (fun k => Ep23 (394 + k)) := f190.congr (fun k hk => rfl) (fun k hk => hX23 _ (by omega))
  have f209 : Sh cy (fun k => adn21 (433 + k)) (fun k => Ep23 (433 + k)) := f192.congr (fun k hk => rfl) (fun k hk => hX23 _ (by omega))
  have f212 : Ep23 458 = .inl (cy 0, 90, .inl (fun _ => 0)) := (hX23 458 (by decide)).trans f196
  have f213 : Ep23 457 = .inr (10, [.ref z21, .int 0]) := (hX23 457 (by decide)).trans hq22
  refine lv_aload_n hx hb dX9_init_94 rfl (lv_at hl 0 rfl) ?_
  refine lv_null hx hb dX9_init_95 ?_
  refine j_put (C := RX9) (T := TX9) (N := 10) (ty := tyX9 8) hx hb hts wi_X9_init_X9 tyX9 tyX9_ok nmX9 hown hK hP hS (κ := 0) (by decide) f164 hp23 rfl 8 (by decide) (hts _ (List.mem_of_getElem? (i := 28) rfl)) (fun _ h => h) rfl (by decide +kernel) rfl rfl (Nat.le_of_ble_eq_true rfl) dX9_init_96 (fun H locs Ep24 hP hX24 hp24 hS => ?_)
  have f216 : Bh cy (fun k => adn21 (1 + k)) (fun k => Ep24 (1 + k)) := f199.congr (fun k hk => rfl) (fun k hk => hX24 _ (by omega))
  have f218 : Ep24 40 = .inr (7, [.ref z1]) := (hX24 40 (by decide)).trans f201
  have f220 : Hh cy (fun k => adn21 (41 + k)) (fun k => Ep24 (41 + k)) := f203.congr (fun k hk => rfl) (fun k hk => hX24 _ (by omega))
  have f222 : Bh cy (fun k => adn21 (355 + k)) (fun k => Ep24 (355 + k)) := f205.congr (fun k hk => rfl) (fun k hk => hX24 _ (by omega))
  have f224 : Bh cy (fun k => adn21 (394 + k)) (fun k => Ep24 (394 + k)) := f207.congr (fun k hk => rfl) (fun k hk => hX24 _ (by omega))
  have f226 : Sh cy (fun k => adn21 (433 + k)) (fun k => Ep24 (433 + k)) := f209.congr (fun k hk => rfl) (fun k hk => hX24 _ (by omega))
  have f229 : Ep24 458 = .inl (cy 0, 90, .inl (fun _ => 0)) := (hX24 458 (by decide)).trans f212
  have f230 : Ep24 457 = .inr (10, [.ref z21, .int 0]) := (hX24 457 (by decide)).trans f213
  refine lv_aload_n hx hb dX9_init_99 rfl (lv_at hl 0 rfl) ?_
  refine lv_iconst (v := (-1)) hx hb dX9_init_100 (by decide) ?_
  refine j_put (C := RX9) (T := TX9) (N := 10) (ty := tyX9 9) hx hb hts wi_X9_init_X9 tyX9 tyX9_ok nmX9 hown hK hP hS (κ := 0) (by decide) f164 hp24 rfl 9 (by decide) (hts _ (List.mem_of_getElem? (i := 29) rfl)) (fun _ h => h) rfl (by decide +kernel) rfl rfl (Nat.le_of_ble_eq_true rfl) dX9_init_101 (fun H locs Ep25 hP hX25 hp25 hS => ?_)
  have f233 : Bh cy (fun k => adn21 (1 + k)) (fun k => Ep25 (1 + k)) := f216.congr (fun k hk => rfl) (fun k hk => hX25 _ (by omega))
  have f235 : Ep25 40 = .inr (7, [.ref z1]) := (hX25 40 (by decide)).trans f218
  have f237 : Hh cy (fun k => adn21 (41 + k)) (fun k => Ep25 (41 + k)) := f220.congr (fun k hk => rfl) (fun k hk => hX25 _ (by omega))
  have f239 : Bh cy (fun k => adn21 (355 + k)) (fun k => Ep25 (355 + k)) := f222.congr (fun k hk => rfl) (fun k hk => hX25 _ (by omega))
  have f241 : Bh cy (fun k => adn21 (394 + k)) (fun k => Ep25 (394 + k)) := f224.congr (fun k hk => rfl) (fun k hk => hX25 _ (by omega))
  have f243 : Sh cy (fun k => adn21 (433 + k)) (fun k => Ep25 (433 + k)) := f226.congr (fun k hk => rfl) (fun k hk => hX25 _ (by omega))
  have f246 : Ep25 458 = .inl (cy 0, 90, .inl (fun _ => 0)) := (hX25 458 (by decide)).trans f229
  have f247 : Ep25 457 = .inr (10, [.ref z21, .int 0]) := (hX25 457 (by decide)).trans f230
  refine W.widen (k := 458) (n := 4301) (by decide) (by decide) ?_
  obtain ⟨w1, w2, w3, w4⟩ := i_whole hP f164 f165 f167 f169 f171 f173 f175 f178 ha21 hp25 f235 f247 f246 f233 f239 f241 f237 f243
  exact W.vret hx hb hr (fun T9 hT9 _ => ⟨rfl, hS.F hT9, _, w1, w2, w3, by rw [hT9]; exact w4⟩) hS.2.2 dX9_init_104

def n0 : Nat → Nat → Int32 := fun k j => if k = 0 ∧ j = 15 then -1 else 0
