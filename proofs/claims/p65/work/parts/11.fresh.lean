/-! fresh cells: an object that the method makes; the class's rejections -/
theorem sp_P_ext {E : Nat → (Nat → Int32) → va_E} {ad : Nat → Nat} {K : Nat} {σ : Nat → Nat → Int32} {D : va_G} {cl : List vw_C} {H H1 : Heap} (hP : va_P D cl (sp_W E ad K σ) H) (hk : ∀ q : Nat, q < H.size → H1[q]? = H[q]?) : va_P D cl (sp_W E ad K σ) H1 := sp_P_kept hP fun _ h => hk _ (sp_P_at hP h).lt
/-- an answer that is null, or a fresh rejection -/
def sp_R (D : va_G) (v : Option (Int32 × Int32)) : Array Value → State → Outcome → State → Prop := fun _ st o t => va_F (fun q => st.heap.size ≤ q) st t ∧ ((v = none ∧ o = .returned (some .null)) ∨ ∃ (x : Int32 × Int32) (q : Nat), v = some x ∧ o = .returned (some (.ref q)) ∧ st.heap.size ≤ q ∧ va_at D vwCl (q, .inr (8, [.int x.1, .int x.2, .null])) t.heap)
theorem sp_P_new {E : Nat → (Nat → Int32) → va_E} {ad : Nat → Nat} {K q : Nat} {σ : Nat → Nat → Int32} {D : va_G} {cl : List vw_C} {H0 H1 H2 : Heap} (hP9 : va_P D cl (sp_W E ad K σ) H0) (hq : q = H0.size) (hP : va_P D cl (sp_W E ad K σ) H1) (hfr : ∀ z : Nat, z < H1.size → ¬ z = q → H2[z]? = H1[z]?) : va_P D cl (sp_W E ad K σ) H2 := sp_P_kept hP fun k hk => hfr _ (sp_P_at hP hk).lt (fun z => by
  have h9 : ad k < H0.size := (sp_P_at hP9 hk).lt
  omega)
theorem sp_one {D : va_G} {cl : List vw_C} {q : Nat × va_E} {H : Heap} (h : va_at D cl q H) : va_P D cl [q] H := fun k x hk => by
  have a1 := (List.getElem?_eq_some_iff.mp hk).1
  simp at a1; subst a1; cases hk; exact h
section SPF
variable {p : Program} {l : Launch} {e : Env} {R : Room} {s : State} {m : MethodId} {args : Array Value} {below : List Frame} {meth : Method} {c : Code} {H : Heap} {locs : List Loc} {cells slots : Nat} {Q : State → Prop}
variable {cc : ByteArray} {pc : Nat} {ls : Array Slot} {rest st0 : List Value} {D : va_G} {A A0 : Nat → Prop} {a : Array Value} {tys : List (ClassId × FieldType)} {H0 : Heap}
theorem sp_new (hexec : p.tables.exec = Jvm.exec) (hb : c.code = cc) {own C : String} {T : u_T} {N ci index : Nat} {Ts : List Cond} (hts : ∀ w ∈ Ts, w.before args s = true) (hin : ∀ w ∈ u_ws C T N, w ∈ Ts) (ty : Nat → FieldType) (hty : ∀ k, k < N → parseFieldDescriptor (T k).2.2.1 = some (ty k)) (hown : s.vm.findClass own = some m.cls) (hcl : (Cond.classLink own index C).before args s = true) (hinst : (Cond.instantiable C N).before args s = true) (hini : (Cond.initialized C).before args s = true)
    (hK : va_K D vwCl tys s) (hS : va_S A H0 H locs) (hc : vwCl[ci]? = some (C, T, N)) {fs : List Value} (hfs : ∀ j, j < N → defaultValue (ty j) = vp_V fs j) (hcells : cells + 1 ≤ R.cells) (hslots : slots + N ≤ R.slots) (hdg : decode cc pc = .ok (.new index, 3))
    (kk : ∀ (q : Nat) (H1 : Heap), q = H.size → H1.size = H.size + 1 → (∀ x : Nat, x < H.size → H1[x]? = H[x]?) → va_at D vwCl (q, .inr (ci, fs)) H1 → va_S A H0 H1 locs →
      W p l e R s m args below meth c H1 locs (cells + 1) (slots + N) Q (F0 m (pc + 3) ls (.ref q :: rest))) : W p l e R s m args below meth c H locs cells slots Q (F0 m pc ls rest) := by
  have hKn := hK.1 ci _ hc
  refine W.newcK hexec hb hown hcl hinst hini rfl hdg hcells hslots hKn.2.1 rfl fun H1 kC hkC e1 z1 o1 => ?_
  exact kk H.size H1 rfl (by omega) o1 ⟨_, hc, (u_born ty hts hin hKn hkC e1 hty).to hfs⟩ ⟨Nat.le_trans hS.1 (by omega), fun x h1 h2 => (o1 x (Nat.lt_of_lt_of_le h1 hS.1)).trans (hS.2.1 x h1 h2), hS.2.2⟩
theorem sp_callR {v : Option (Int32 × Int32)} {mc ms : Nat} {free : Addr → Prop} (hr : va_Run p l e R s m args below meth c H locs cells slots mc ms (F0 m pc ls st0) rest (sp_R D v a) free) (hS : va_S A0 H0 H locs) (hf : ∀ q, free q → A0 q)
    (kn : v = none → ∀ (H1 : Heap) (locs1 : List Loc), H.size ≤ H1.size → (∀ q : Nat, q < H.size → H1[q]? = H[q]?) → va_S A0 H0 H1 locs1 → W p l e R s m args below meth c H1 locs1 (cells + mc) (slots + ms) Q (F0 m (pc + 3) ls (.null :: rest)))
    (ks : ∀ (x1 x2 : Int32) (q : Nat), v = some (x1, x2) → H.size ≤ q → ∀ (H1 : Heap) (locs1 : List Loc), H.size ≤ H1.size → (∀ q : Nat, q < H.size → H1[q]? = H[q]?) → va_S A0 H0 H1 locs1 → va_at D vwCl (q, .inr (8, [.int x1, .int x2, .null])) H1 → W p l e R s m args below meth c H1 locs1 (cells + mc) (slots + ms) Q (F0 m (pc + 3) ls (.ref q :: rest))) : W p l e R s m args below meth c H locs cells slots Q (F0 m pc ls st0) := by
  intro T hT X
  obtain ⟨v', st₀, t, T', L, h0, X', hL, e1, e2, ⟨⟨hz, hk⟩, hq⟩, st⟩ := hr T hT X
  rw [h0] at hz hk
  have hk2 : ∀ q : Nat, q < H.size → T'.heap[q]? = H[q]? := fun q h => by rw [e1]; exact hk q h (Nat.not_le.mpr h)
  have hz2 : H.size ≤ T'.heap.size := by rw [e1]; exact hz
  have hS2 : va_S A0 H0 T'.heap (locs ++ L) := ⟨Nat.le_trans hS.1 hz2, fun q h1 h2 => by rw [hk2 q (Nat.lt_of_lt_of_le h1 hS.1)]; exact hS.2.1 q h1 h2, fun q hq => by
      rcases List.mem_append.mp hq with h | h
      · exact hS.2.2 q h
      · exact hf _ (hL q h)⟩
  rcases hq with ⟨hv, ho⟩ | ⟨x, q, hv, ho, hge, hat⟩
  · cases ho
    obtain ⟨t2, a1, b1⟩ := kn hv T'.heap (locs ++ L) hz2 hk2 hS2 T' rfl X'
    exact ⟨t2, st t2 a1, b1⟩
  · cases ho
    obtain ⟨t2, a1, b1⟩ := ks x.1 x.2 q hv (by rw [← h0]; exact hge) T'.heap (locs ++ L) hz2 hk2 hS2 (by rw [e1]; exact hat) T' rfl X'
    exact ⟨t2, st t2 a1, b1⟩
end SPF
theorem wi_X5_init_X5 : ∀ w ∈ wsX50, w ∈ wsX5_init := by decide +kernel
set_option maxHeartbeats 4000000 in
set_option maxRecDepth 100000 in
/-- Rejection(r, d, c): a fresh one's fields -/
theorem c_X5_init (l : Launch) (D : va_G) (tys : List (ClassId × FieldType)) (q sz : Nat) (r d : Int32) (cz : Option Nat) : Met l yX5_init wsX5_init ({ frames := 1, cells := 0, slots := 0, locals := 20 } : Room) (sp_Pm D tys sz [.ref q, .int r, .int d, va_rf cz] [(q, .inr (8, [.int 0, .int 0, .null]))]) (sp_Q D none [(q, .inr (8, [.int r, .int d, va_rf cz]))] (fun a => a = q)) 0 0 (fun a => a = q) := by
  refine Met.ofW (cc := cX5_init) (maxL := 4) (ret := none) (by decide) rfl ?_
  intro p e s m args below meth c s₁ B hml hv
  obtain ⟨rfl, hsz, hP, hK⟩ := hv
  have hx := B.exec
  have hb := B.bytes
  have hr := B.returns
  have hts := atoms_spec (ws := wsX5_init) B.pre
  have hown : s.vm.findClass RX5 = some m.cls := findClass_of_methodNamed B.named
  have hlocks := B.notSynchronized
  have hin : meth.name = "<init>" := (name_of_methodNamed B.named B.method).1
  have hD : va_D (fun a => a = q) [(q, (.inr (8, [.int 0, .int 0, .null]) : va_E))] := ⟨fun i j x y h1 h2 _ => by
      have a1 := (List.getElem?_eq_some_iff.mp h1).1
      have a2 := (List.getElem?_eq_some_iff.mp h2).1
      simp at a1 a2; omega, fun k x h => by
      have a1 := (List.getElem?_eq_some_iff.mp h).1
      simp at a1; subst a1; cases h; rfl⟩
  have hS : va_S (fun a => a = q) s.heap s.heap [] := va_S.rf
  rcases cz with _ | z
  · have hl := lv_entry ([.ref q, .int r, .int d, .null]) (n := 4) (Nat.le_of_ble_eq_true rfl)
    refine W.eq (lg_entry_eq _ ([.ref q, .int r, .int d, .null]) _) ?_
    generalize (lg_sl ([.ref q, .int r, .int d, .null]) ++ List.replicate (4 - (lg_sl ([.ref q, .int r, .int d, .null])).length) Slot.unset).toArray = ls at hl ⊢
    have hl : lv_has ls 4 [(0, .ref q), (1, .int r), (2, .int d), (3, .null)] := hl
    refine lv_aload_n hx hb dX5_init_0 rfl (lv_at hl 0 rfl) ?_
    refine W.objInit hx hb hown (hts (.methodLink RX5 1 objectInit) (by decide +kernel)) (hts (.instanceMethod objectInit) (by decide +kernel)) (hts (.code objectInit ⟨#[0xb1]⟩ 1 none) (by decide +kernel)) rfl (by rw [hml]; exact hl.1) rfl dX5_init_1 (Nat.le_of_ble_eq_true rfl) (Nat.le_of_ble_eq_true rfl) ?_
    refine W.eq (g2 := F0 m 4 ls []) rfl ?_
    refine lv_aload_n hx hb dX5_init_4 rfl (lv_at hl 0 rfl) ?_
    refine lv_iload_n hx hb dX5_init_5 rfl (lv_at hl 1 rfl) ?_
    refine va_putF (D := D) (ci := 8) (v := .int r) (ty := .int) (C := RX5) (T := TX5) (N := 3) hx hb hts wi_X5_init_X5 tyX5 tyX5_ok nmX5 hown hK hP hD hS 0 rfl rfl 0 (by decide) (hts (.fieldLink RX5 7 "SandProofreader$Rejection" "reason" "I") (by decide +kernel)) (fun _ h => h) rfl hin rfl (by decide +kernel) rfl rfl (Nat.le_of_ble_eq_true rfl) dX5_init_6 (fun H locs hP hD hS => ?_)
    refine lv_aload_n hx hb dX5_init_9 rfl (lv_at hl 0 rfl) ?_
    refine lv_iload_n hx hb dX5_init_10 rfl (lv_at hl 2 rfl) ?_
    refine va_putF (D := D) (ci := 8) (v := .int d) (ty := .int) (C := RX5) (T := TX5) (N := 3) hx hb hts wi_X5_init_X5 tyX5 tyX5_ok nmX5 hown hK hP hD hS 0 rfl rfl 1 (by decide) (hts (.fieldLink RX5 13 "SandProofreader$Rejection" "detail" "I") (by decide +kernel)) (fun _ h => h) rfl hin rfl (by decide +kernel) rfl rfl (Nat.le_of_ble_eq_true rfl) dX5_init_11 (fun H locs hP hD hS => ?_)
    refine lv_aload_n hx hb dX5_init_14 rfl (lv_at hl 0 rfl) ?_
    refine lv_aload_nN hx hb dX5_init_15 rfl (lv_at hl 3 rfl) ?_
    refine va_putF (D := D) (ci := 8) (v := .null) (ty := .object "SandProofreader$Rejection") (C := RX5) (T := TX5) (N := 3) hx hb hts wi_X5_init_X5 tyX5 tyX5_ok nmX5 hown hK hP hD hS 0 rfl rfl 2 (by decide) (hts (.fieldLink RX5 16 "SandProofreader$Rejection" "cause" "LSandProofreader$Rejection;") (by decide +kernel)) (fun _ h => h) rfl hin rfl (by decide +kernel) rfl rfl (Nat.le_of_ble_eq_true rfl) dX5_init_16 (fun H locs hP hD hS => ?_)
    exact W.vret hx hb hr (fun T9 hT9 _ => ⟨rfl, by rw [hT9]; exact hP, hS.F hT9⟩) hS.2.2 dX5_init_19
  · have hl := lv_entry ([.ref q, .int r, .int d, .ref z]) (n := 4) (Nat.le_of_ble_eq_true rfl)
    refine W.eq (lg_entry_eq _ ([.ref q, .int r, .int d, .ref z]) _) ?_
    generalize (lg_sl ([.ref q, .int r, .int d, .ref z]) ++ List.replicate (4 - (lg_sl ([.ref q, .int r, .int d, .ref z])).length) Slot.unset).toArray = ls at hl ⊢
    have hl : lv_has ls 4 [(0, .ref q), (1, .int r), (2, .int d), (3, .ref z)] := hl
    refine lv_aload_n hx hb dX5_init_0 rfl (lv_at hl 0 rfl) ?_
    refine W.objInit hx hb hown (hts (.methodLink RX5 1 objectInit) (by decide +kernel)) (hts (.instanceMethod objectInit) (by decide +kernel)) (hts (.code objectInit ⟨#[0xb1]⟩ 1 none) (by decide +kernel)) rfl (by rw [hml]; exact hl.1) rfl dX5_init_1 (Nat.le_of_ble_eq_true rfl) (Nat.le_of_ble_eq_true rfl) ?_
    refine W.eq (g2 := F0 m 4 ls []) rfl ?_
    refine lv_aload_n hx hb dX5_init_4 rfl (lv_at hl 0 rfl) ?_
    refine lv_iload_n hx hb dX5_init_5 rfl (lv_at hl 1 rfl) ?_
    refine va_putF (D := D) (ci := 8) (v := .int r) (ty := .int) (C := RX5) (T := TX5) (N := 3) hx hb hts wi_X5_init_X5 tyX5 tyX5_ok nmX5 hown hK hP hD hS 0 rfl rfl 0 (by decide) (hts (.fieldLink RX5 7 "SandProofreader$Rejection" "reason" "I") (by decide +kernel)) (fun _ h => h) rfl hin rfl (by decide +kernel) rfl rfl (Nat.le_of_ble_eq_true rfl) dX5_init_6 (fun H locs hP hD hS => ?_)
    refine lv_aload_n hx hb dX5_init_9 rfl (lv_at hl 0 rfl) ?_
    refine lv_iload_n hx hb dX5_init_10 rfl (lv_at hl 2 rfl) ?_
    refine va_putF (D := D) (ci := 8) (v := .int d) (ty := .int) (C := RX5) (T := TX5) (N := 3) hx hb hts wi_X5_init_X5 tyX5 tyX5_ok nmX5 hown hK hP hD hS 0 rfl rfl 1 (by decide) (hts (.fieldLink RX5 13 "SandProofreader$Rejection" "detail" "I") (by decide +kernel)) (fun _ h => h) rfl hin rfl (by decide +kernel) rfl rfl (Nat.le_of_ble_eq_true rfl) dX5_init_11 (fun H locs hP hD hS => ?_)
    refine lv_aload_n hx hb dX5_init_14 rfl (lv_at hl 0 rfl) ?_
    refine lv_aload_n hx hb dX5_init_15 rfl (lv_at hl 3 rfl) ?_
    refine va_putF (D := D) (ci := 8) (v := .ref z) (ty := .object "SandProofreader$Rejection") (C := RX5) (T := TX5) (N := 3) hx hb hts wi_X5_init_X5 tyX5 tyX5_ok nmX5 hown hK hP hD hS 0 rfl rfl 2 (by decide) (hts (.fieldLink RX5 16 "SandProofreader$Rejection" "cause" "LSandProofreader$Rejection;") (by decide +kernel)) (fun _ h => h) rfl hin rfl (by decide +kernel) rfl rfl (Nat.le_of_ble_eq_true rfl) dX5_init_16 (fun H locs hP hD hS => ?_)
    exact W.vret hx hb hr (fun T9 hT9 _ => ⟨rfl, by rw [hT9]; exact hP, hS.F hT9⟩) hS.2.2 dX5_init_19
