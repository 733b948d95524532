/-! THE LAYER: a world whose cells have numbers. sp_W E ad K σ: cell k (k < K) lies at the address ad k and holds E k (σ k). -/
def bz (x : Int32) : Int32 := if x = 0 then 0 else 1
def cz (x : Int32) : Int32 := (x.toUInt32 % 65536).toInt32
def b2i (b : Bool) : Int32 := if b then 1 else 0
theorem bz_eq0 {x : Int32} : bz x = 0 ↔ x = 0 := by
  unfold bz
  by_cases h : x = 0
  · simp [h]
  · simp [h]
theorem bz_01 (x : Int32) : bz x = 0 ∨ bz x = 1 := by
  unfold bz
  by_cases h : x = 0
  · simp [h]
  · simp [h]
theorem bz_bz (x : Int32) : bz (bz x) = bz x := by
  rcases bz_01 x with h | h <;> rw [h] <;> decide
theorem cz_cz (x : Int32) : cz (cz x) = cz x := by
  have h := pk_nc x
  have h2 : vp_nar .char (x.toUInt32 % 65536).toInt32 = (x.toUInt32 % 65536).toInt32 := pk_vc x
  unfold cz
  rw [vp_nar_char] at h2
  have h3 : ((x.toUInt32 % 65536).toInt32.toUInt32 % 65536).toInt32 = (x.toUInt32 % 65536).toInt32.toUInt32.toUInt16.toUInt32.toInt32 := by
    have := vp_nar_char (x.toUInt32 % 65536).toInt32
    simp
  rw [h3, h2]
theorem charp_of {v : Int32} (h : cz v = v) : narrow .char (.int v) = .int v ∧ fits .char (.int v) = true := by
  rw [← h]; exact ⟨pk_nc v, pk_fc v⟩
def iabs (x : Int32) : Int32 := if 0 ≤ x then x else 0 - x
def imax (x y : Int32) : Int32 := if x < y then y else x
def imin (x y : Int32) : Int32 := if y < x then y else x
theorem b2i_eq0 {b : Bool} : b2i b = 0 ↔ b = false := by cases b <;> decide
theorem b2i_01 (b : Bool) : b2i b = 0 ∨ b2i b = 1 := by cases b <;> decide
theorem bz_b2i (b : Bool) : bz (b2i b) = b2i b := by cases b <;> decide
theorem nz_of {v : Int32} (h : bz v = v) : narrow .boolean (.int v) = .int v ∧ fits .boolean (.int v) = true := by
  rcases bz_01 v with q | q
  · rw [h] at q; subst q; exact ⟨by decide, by decide⟩
  · rw [h] at q; subst q; exact ⟨by decide, by decide⟩
def sp_up (σ : Nat → Nat → Int32) (k : Nat) (r : Nat → Int32) : Nat → Nat → Int32 := fun j => if j = k then r else σ j
def sp_st (σ : Nat → Nat → Int32) (k j : Nat) (v : Int32) : Nat → Nat → Int32 := sp_up σ k (upd (σ k) j v)
theorem sp_st_at (σ : Nat → Nat → Int32) (k j : Nat) (v : Int32) (k2 j2 : Nat) : sp_st σ k j v k2 j2 = if k2 = k ∧ j2 = j then v else σ k2 j2 := by
  unfold sp_st sp_up upd
  by_cases h : k2 = k
  · subst h
    by_cases h2 : j2 = j <;> simp [h2]
  · simp [h]
def sp_W (E : Nat → (Nat → Int32) → va_E) (ad : Nat → Nat) (K : Nat) (σ : Nat → Nat → Int32) : va_W := (List.range K).map (fun k => (ad k, E k (σ k)))
def sp_A (ad : Nat → Nat) (K sz : Nat) : Nat → Prop := fun q => (∃ k : Nat, k < K ∧ q = ad k) ∨ sz ≤ q
theorem sp_Alt {ad : Nat → Nat} {K n n0 q : Nat} (h1 : q < n) (h2 : sp_A ad K n q) : sp_A ad K n0 q := h2.elim Or.inl (fun h => absurd h1 (Nat.not_lt.mpr h))
theorem sp_Ale {ad : Nat → Nat} {K n n0 : Nat} (h : n0 ≤ n) : ∀ q, sp_A ad K n q → sp_A ad K n0 q := fun _ h2 => h2.elim Or.inl (fun h3 => Or.inr (Nat.le_trans h h3))
def sp_inj (ad : Nat → Nat) (K : Nat) : Prop := ∀ i j : Nat, i < K → j < K → ad i = ad j → i = j
section SPW
variable {E E' : Nat → (Nat → Int32) → va_E} {ad : Nat → Nat} {K : Nat} {σ : Nat → Nat → Int32}
theorem sp_W_len : (sp_W E ad K σ).length = K := by simp [sp_W]
theorem sp_W_at {k : Nat} (h : k < K) : (sp_W E ad K σ)[k]? = some (ad k, E k (σ k)) := by
  unfold sp_W
  rw [List.getElem?_map, List.getElem?_range h]
  rfl
theorem sp_W_is {k : Nat} {q : Nat × va_E} (h : (sp_W E ad K σ)[k]? = some q) : k < K ∧ q = (ad k, E k (σ k)) := by
  have h1 := (List.getElem?_eq_some_iff.mp h).1
  rw [sp_W_len] at h1
  rw [sp_W_at h1] at h
  exact ⟨h1, (Option.some.inj h).symm⟩
theorem sp_W_set {k : Nat} (h : k < K) {e : va_E} {r : Nat → Int32} (he : E k r = e) : (sp_W E ad K σ).set k (ad k, e) = sp_W E ad K (sp_up σ k r) := by
  apply List.ext_getElem?
  intro j
  by_cases hj : j = k
  · subst hj
    rw [List.getElem?_set_self (by rw [sp_W_len]; exact h), sp_W_at h]
    simp [sp_up, he]
  · rw [List.getElem?_set_ne (Ne.symm hj)]
    by_cases hl : j < K
    · rw [sp_W_at hl, sp_W_at hl]
      simp [sp_up, hj]
    · rw [List.getElem?_eq_none (by rw [sp_W_len]; omega), List.getElem?_eq_none (by rw [sp_W_len]; omega)]
theorem sp_W_setE {k : Nat} (h : k < K) {e : va_E} (he : E' k (σ k) = e) (ho : ∀ j, j < K → j ≠ k → E' j (σ j) = E j (σ j)) : (sp_W E ad K σ).set k (ad k, e) = sp_W E' ad K σ := by
  apply List.ext_getElem?
  intro j
  by_cases hj : j = k
  · subst hj
    rw [List.getElem?_set_self (by rw [sp_W_len]; exact h), sp_W_at h, he]
  · rw [List.getElem?_set_ne (Ne.symm hj)]
    by_cases hl : j < K
    · rw [sp_W_at hl, sp_W_at hl, ho j hl hj]
    · rw [List.getElem?_eq_none (by rw [sp_W_len]; omega), List.getElem?_eq_none (by rw [sp_W_len]; omega)]
theorem sp_D (hi : sp_inj ad K) {A : Nat → Prop} (hA : ∀ k, k < K → A (ad k)) : va_D A (sp_W E ad K σ) := by
  refine ⟨fun i j p q hp hq hpq => ?_, fun k q hq => ?_⟩
  · obtain ⟨h1, rfl⟩ := sp_W_is hp
    obtain ⟨h2, rfl⟩ := sp_W_is hq
    exact hi i j h1 h2 hpq
  · obtain ⟨h1, rfl⟩ := sp_W_is hq
    exact hA k h1
theorem sp_DA (hi : sp_inj ad K) (sz : Nat) : va_D (sp_A ad K sz) (sp_W E ad K σ) := sp_D hi fun k hk => Or.inl ⟨k, hk, rfl⟩
theorem sp_P_at {D : va_G} {cl : List vw_C} {H : Heap} (hP : va_P D cl (sp_W E ad K σ) H) {k : Nat} (h : k < K) : va_at D cl (ad k, E k (σ k)) H := hP k _ (sp_W_at h)
theorem sp_P_of {D : va_G} {cl : List vw_C} {H : Heap} (h : ∀ k, k < K → va_at D cl (ad k, E k (σ k)) H) : va_P D cl (sp_W E ad K σ) H := by
  intro k q hq
  obtain ⟨h1, rfl⟩ := sp_W_is hq
  exact h k h1
theorem sp_P_kept {D : va_G} {cl : List vw_C} {H H1 : Heap} (hP : va_P D cl (sp_W E ad K σ) H) (hk : ∀ k, k < K → H1[ad k]? = H[ad k]?) : va_P D cl (sp_W E ad K σ) H1 := sp_P_of fun k h => (sp_P_at hP h).kept (hk k h)
end SPW
/-- contracts: the start; and ends that leave the heap as it was -/
def sp_Pc (D : va_G) (tys : List (ClassId × FieldType)) (av : List Value) (ws : va_W) : Array Value → State → Prop := va_Pc av (fun U => va_P D vwCl ws U.heap ∧ va_K D vwCl tys U)
def sp_Pm (D : va_G) (tys : List (ClassId × FieldType)) (sz : Nat) (av : List Value) (ws : va_W) : Array Value → State → Prop := va_Pc av (fun U => U.heap.size = sz ∧ va_P D vwCl ws U.heap ∧ va_K D vwCl tys U)
def sp_S (v : Option Value) : Array Value → State → Outcome → State → Prop := fun _ st o t => o = .returned v ∧ t.heap = st.heap
/-- an end that leaves another world -/
def sp_Q (D : va_G) (v : Option Value) (ws : va_W) (A : Nat → Prop) : Array Value → State → Outcome → State → Prop := fun _ st o t => o = .returned v ∧ va_P D vwCl ws t.heap ∧ va_F A st t
theorem sp_blind {D : va_G} {tys : List (ClassId × FieldType)} {av : List Value} {ws : va_W} : FrameBlind (sp_Pc D tys av ws) := fun a U g mk q => ⟨q.1, q.2.1, va_K.moved (u := U) (U := U.calling g mk a) (Vm.Alike.refl U.vm) q.2.2⟩
theorem sp_blindm {D : va_G} {tys : List (ClassId × FieldType)} {sz : Nat} {av : List Value} {ws : va_W} : FrameBlind (sp_Pm D tys sz av ws) := fun a U g mk q => ⟨q.1, q.2.1, q.2.2.1, va_K.moved (u := U) (U := U.calling g mk a) (Vm.Alike.refl U.vm) q.2.2.2⟩
section SPR
variable {p : Program} {l : Launch} {e : Env} {R : Room} {s : State} {m : MethodId} {args : Array Value} {below : List Frame} {meth : Method} {c : Code} {H : Heap} {locs : List Loc} {cells slots : Nat} {Q : State → Prop}
variable {cc : ByteArray} {pc : Nat} {ls : Array Slot} {rest st0 : List Value} {D : va_G} {A A0 : Nat → Prop} {a : Array Value} {tys : List (ClassId × FieldType)} {ws : va_W} {H0 : Heap}
variable {E : Nat → (Nat → Int32) → va_E} {ad : Nat → Nat} {K : Nat} {σ : Nat → Nat → Int32}
theorem sp_preV {C : String} {T : u_T} {N ci : Nat} {As : List Value} {κ : Nat} {fs : List Value} (hK : va_K D vwCl tys s) (hP : va_P D vwCl (sp_W E ad K σ) H) (hκ : κ < K) (he : E κ (σ κ) = .inr (ci, fs)) (hc : vwCl[ci]? = some (C, T, N)) : PreV s H C (ad κ) (sp_Pc D tys (.ref (ad κ) :: As) (sp_W E ad K σ)) As :=
  ⟨sp_blind, va_recv hK hP hc (q0 := κ) (fs := fs) (a := ad κ) (by rw [sp_W_at hκ, he]), fun U hU hW => ⟨rfl, by rw [hU]; exact hP, va_K.moved hW.alike hK⟩⟩
theorem sp_preVm {C : String} {T : u_T} {N ci : Nat} {As : List Value} {κ : Nat} {fs : List Value} (hK : va_K D vwCl tys s) (hP : va_P D vwCl (sp_W E ad K σ) H) (hκ : κ < K) (he : E κ (σ κ) = .inr (ci, fs)) (hc : vwCl[ci]? = some (C, T, N)) : PreV s H C (ad κ) (sp_Pm D tys H.size (.ref (ad κ) :: As) (sp_W E ad K σ)) As :=
  ⟨sp_blindm, va_recv hK hP hc (q0 := κ) (fs := fs) (a := ad κ) (by rw [sp_W_at hκ, he]), fun U hU hW => ⟨rfl, by rw [hU], by rw [hU]; exact hP, va_K.moved hW.alike hK⟩⟩
theorem sp_preS {As : List Value} (hK : va_K D vwCl tys s) (hP : va_P D vwCl ws H) : PreS s H (sp_Pc D tys As ws) As := ⟨sp_blind, fun U hU hW => ⟨rfl, by rw [hU]; exact hP, va_K.moved hW.alike hK⟩⟩
theorem sp_preSm {As : List Value} (hK : va_K D vwCl tys s) (hP : va_P D vwCl ws H) : PreS s H (sp_Pm D tys H.size As ws) As := ⟨sp_blindm, fun U hU hW => ⟨rfl, by rw [hU], by rw [hU]; exact hP, va_K.moved hW.alike hK⟩⟩
/-- a call that leaves the heap as it was -/
theorem sp_call {v : Option Value} (hr : CallRun p l e R s m args below meth c H locs cells slots 0 0 (F0 m pc ls st0) rest (sp_S v a) (fun _ => False))
    (kk : W p l e R s m args below meth c H locs cells slots Q (F0 m (pc + 3) ls (v.toList ++ rest))) : W p l e R s m args below meth c H locs cells slots Q (F0 m pc ls st0) := by
  intro T hT X
  obtain ⟨v', st₀, t, T', L, h0, X', hL, e1, ⟨hv, hh⟩, st⟩ := hr T hT X
  cases hv
  obtain ⟨t2, a1, b1⟩ := kk T' (by rw [e1, hh, h0]) (Stand.forget X' (fun q h => (hL q h).elim))
  exact ⟨t2, st t2 a1, b1⟩
/-- a call that leaves another world -/
theorem sp_callm {v : Option Value} {ws1 : va_W} {A1 : Nat → Prop} {mc ms : Nat} {free : Addr → Prop} (hr : va_Run p l e R s m args below meth c H locs cells slots mc ms (F0 m pc ls st0) rest (sp_Q D v ws1 A1 a) free) (hS : va_S A0 H0 H locs) (hA : ∀ q, q < H.size → A1 q → A0 q) (hf : ∀ q, free q → A0 q)
    (kk : ∀ (H1 : Heap) (locs1 : List Loc), va_P D vwCl ws1 H1 → H.size ≤ H1.size → (∀ q : Nat, q < H.size → ¬ A1 q → H1[q]? = H[q]?) → va_S A0 H0 H1 locs1 → W p l e R s m args below meth c H1 locs1 (cells + mc) (slots + ms) Q (F0 m (pc + 3) ls (v.toList ++ rest))) : W p l e R s m args below meth c H locs cells slots Q (F0 m pc ls st0) := by
  intro T hT X
  obtain ⟨v', st₀, t, T', L, h0, X', hL, e1, e2, ⟨hv, hp, hz, hk⟩, st⟩ := hr T hT X
  cases hv
  rw [h0] at hz hk
  obtain ⟨t2, a1, b1⟩ := kk T'.heap (locs ++ L) (by rw [e1]; exact hp) (by rw [e1]; exact hz) (fun q h1 h2 => by rw [e1]; exact hk q h1 h2)
    ⟨Nat.le_trans hS.1 (by rw [e1]; exact hz), fun q h1 h2 => by rw [e1, hk q (Nat.lt_of_lt_of_le h1 hS.1) (fun z => h2 (hA q (Nat.lt_of_lt_of_le h1 hS.1) z))]; exact hS.2.1 q h1 h2, fun q hq => by
      rcases List.mem_append.mp hq with h | h
      · exact hS.2.2 q h
      · exact hf _ (hL q h)⟩ T' rfl X'
  exact ⟨t2, st t2 a1, b1⟩
theorem sp_get (hexec : p.tables.exec = Jvm.exec) (hb : c.code = cc) {own ref C : String} {T : u_T} {N ci index : Nat} {Ts : List Cond} (hts : ∀ w ∈ Ts, w.before args s = true) (hin : ∀ w ∈ u_ws C T N, w ∈ Ts) (hown : s.vm.findClass own = some m.cls) (hK : va_K D vwCl tys s) (hP : va_P D vwCl (sp_W E ad K σ) H) {κ : Nat} (hκ : κ < K) {fs : List Value} (he : E κ (σ κ) = .inr (ci, fs)) (hc : vwCl[ci]? = some (C, T, N)) (k : Nat) (hk : k < N) (hlink : (Cond.fieldLink own index ref (T k).2.1 (T k).2.2.1).before args s = true) (hsame : ∀ x, s.fieldFound? (T k).1 (T k).2.1 (T k).2.2.1 = some x → s.fieldFound? ref (T k).2.1 (T k).2.2.1 = some x) {v : Value} (hv : fs[k]? = some v) (hdg : decode cc pc = .ok (.getfield index, 3))
    (kk : W p l e R s m args below meth c H locs cells slots Q (F0 m (pc + 3) ls (v :: rest))) : W p l e R s m args below meth c H locs cells slots Q (F0 m pc ls (.ref (ad κ) :: rest)) :=
  va_get hexec hb hts hin hown hK hP κ (by rw [sp_W_at hκ, he]) hc k hk hlink hsame hv hdg kk
theorem sp_put (hexec : p.tables.exec = Jvm.exec) (hb : c.code = cc) {own ref C : String} {T : u_T} {N ci index : Nat} {Ts : List Cond} (hts : ∀ w ∈ Ts, w.before args s = true) (hin : ∀ w ∈ u_ws C T N, w ∈ Ts) (ty0 : Nat → FieldType) (hty : ∀ k, k < N → parseFieldDescriptor (T k).2.2.1 = some (ty0 k)) (hnm : ∀ a, a < N → ∀ b, b < N → a ≠ b → (T a).2.1 ≠ (T b).2.1) (hown : s.vm.findClass own = some m.cls) (hK : va_K D vwCl tys s) (hP : va_P D vwCl (sp_W E ad K σ) H) (hi : sp_inj ad K) (hAk : ∀ k, k < K → A (ad k)) (hS0 : va_S A H0 H locs) {κ : Nat} (hκ : κ < K) {fs : List Value} (he : E κ (σ κ) = .inr (ci, fs)) (hc : vwCl[ci]? = some (C, T, N)) (k : Nat) (hk : k < N) (hlink : (Cond.fieldLink own index ref (T k).2.1 (T k).2.2.1).before args s = true) (hsame : ∀ x, s.fieldFound? (T k).1 (T k).2.1 (T k).2.2.1 = some x → s.fieldFound? ref (T k).2.1 (T k).2.2.1 = some x) (hfin : (T k).2.2.2 = false) {ty : FieldType} {v : Value} (hd : parseFieldDescriptor (T k).2.2.1 = some ty) (hn : narrow ty v = v ∧ fits ty v = true) (hl : k < fs.length) {r1 : Nat → Int32} (he1 : E κ r1 = .inr (ci, fs.set k v))
    (hdg : decode cc pc = .ok (.putfield index, 3)) (kk : ∀ (H1 : Heap) (locs1 : List Loc), va_P D vwCl (sp_W E ad K (sp_up σ κ r1)) H1 → va_S A H0 H1 locs1 → W p l e R s m args below meth c H1 locs1 cells slots Q (F0 m (pc + 3) ls rest)) : W p l e R s m args below meth c H locs cells slots Q (F0 m pc ls (v :: .ref (ad κ) :: rest)) := by
  refine va_put hexec hb hts hin ty0 hty hnm hown hK hP (sp_D hi hAk) hS0 κ (fs := fs) (by rw [sp_W_at hκ, he]) hc k hk hlink hsame hfin hd hn.1 hn.2 hl hdg fun H1 locs1 hP1 _ hS1 => ?_
  rw [sp_W_set hκ he1] at hP1
  exact kk H1 locs1 hP1 hS1
theorem sp_iald (hexec : p.tables.exec = Jvm.exec) (hb : c.code = cc) (hK : va_K D vwCl tys s) (hP : va_P D vwCl (sp_W E ad K σ) H) {κ : Nat} (hκ : κ < K) (t0 : Nat) {cA : ClassId} {n : Nat} {f : Nat → Int32} (he : E κ (σ κ) = .inl (cA, n, .inl f)) (ht : tys[t0]? = some (cA, .int)) {i : Int32} (j : Nat) (hi : i = nI j) (hj : j < n) (hn : n < 2 ^ 31) (hdg : decode cc pc = .ok (.iaload, 1))
    (kk : W p l e R s m args below meth c H locs cells slots Q (F0 m (pc + 1) ls (.int (f j) :: rest))) : W p l e R s m args below meth c H locs cells slots Q (F0 m pc ls (.int i :: .ref (ad κ) :: rest)) := by
  subst hi
  refine va_iald hexec hb hK hP κ t0 (by rw [sp_W_at hκ, he]) ht (vp_in_nI hj hn) hdg ?_
  rw [nI_clamp (Nat.lt_trans hj hn)]
  exact kk
theorem sp_cald (hexec : p.tables.exec = Jvm.exec) (hb : c.code = cc) (hK : va_K D vwCl tys s) (hP : va_P D vwCl (sp_W E ad K σ) H) {κ : Nat} (hκ : κ < K) (t0 : Nat) {cA : ClassId} {n : Nat} {f : Nat → Int32} (he : E κ (σ κ) = .inl (cA, n, .inl f)) (ht : tys[t0]? = some (cA, .char)) {i : Int32} (j : Nat) (hi : i = nI j) (hj : j < n) (hn : n < 2 ^ 31) (hdg : decode cc pc = .ok (.caload, 1))
    (kk : W p l e R s m args below meth c H locs cells slots Q (F0 m (pc + 1) ls (.int (f j) :: rest))) : W p l e R s m args below meth c H locs cells slots Q (F0 m pc ls (.int i :: .ref (ad κ) :: rest)) := by
  subst hi
  refine va_cald hexec hb hK hP κ t0 (by rw [sp_W_at hκ, he]) ht (vp_in_nI hj hn) hdg ?_
  rw [nI_clamp (Nat.lt_trans hj hn)]
  exact kk
theorem sp_aald (hexec : p.tables.exec = Jvm.exec) (hb : c.code = cc) (hK : va_K D vwCl tys s) (hP : va_P D vwCl (sp_W E ad K σ) H) {κ : Nat} (hκ : κ < K) (t0 : Nat) {cA : ClassId} {C : String} {n : Nat} {f : Nat → Option Nat} (he : E κ (σ κ) = .inl (cA, n, .inr (.inr (.inr (.inr f))))) (ht : tys[t0]? = some (cA, .object C)) {i : Int32} (j : Nat) (hi : i = nI j) (hj : j < n) (hn : n < 2 ^ 31) {q : Nat} (hq : f j = some q) (hdg : decode cc pc = .ok (.aaload, 1))
    (kk : W p l e R s m args below meth c H locs cells slots Q (F0 m (pc + 1) ls (.ref q :: rest))) : W p l e R s m args below meth c H locs cells slots Q (F0 m pc ls (.int i :: .ref (ad κ) :: rest)) := by
  subst hi
  refine va_aldq hexec hb hK hP κ t0 (by rw [sp_W_at hκ, he]) ht (vp_in_nI hj hn) hdg ?_
  rw [nI_clamp (Nat.lt_trans hj hn), hq]
  exact kk
theorem sp_alen (hexec : p.tables.exec = Jvm.exec) (hb : c.code = cc) (hK : va_K D vwCl tys s) (hP : va_P D vwCl (sp_W E ad K σ) H) {κ : Nat} (hκ : κ < K) (t0 : Nat) {cA : ClassId} {x : vp_A} (he : E κ (σ κ) = .inl (cA, x)) {ty : FieldType} (ht : tys[t0]? = some (cA, ty)) {v : Int32} (hv : Int32.ofNat x.1 = v) (hdg : decode cc pc = .ok (.arraylength, 1))
    (kk : W p l e R s m args below meth c H locs cells slots Q (F0 m (pc + 1) ls (.int v :: rest))) : W p l e R s m args below meth c H locs cells slots Q (F0 m pc ls (.ref (ad κ) :: rest)) :=
  va_alen hexec hb hK hP κ t0 (by rw [sp_W_at hκ, he]) ht hv hdg kk
theorem sp_iast (hexec : p.tables.exec = Jvm.exec) (hb : c.code = cc) (hK : va_K D vwCl tys s) (hP : va_P D vwCl (sp_W E ad K σ) H) (hinj : sp_inj ad K) (hAk : ∀ k, k < K → A (ad k)) (hS : va_S A H0 H locs) {κ : Nat} (hκ : κ < K) (t0 : Nat) {cA : ClassId} {n : Nat} {f : Nat → Int32} (he : E κ (σ κ) = .inl (cA, n, .inl f)) (ht : tys[t0]? = some (cA, .int)) {i : Int32} {x : Int32} (j : Nat) (hi : i = nI j) (hj : j < n) (hn : n < 2 ^ 31) {r1 : Nat → Int32} (he1 : E κ r1 = .inl (cA, n, .inl (upd f j x))) (hdg : decode cc pc = .ok (.iastore, 1))
    (kk : ∀ (H1 : Heap) (locs1 : List Loc), va_P D vwCl (sp_W E ad K (sp_up σ κ r1)) H1 → va_S A H0 H1 locs1 → W p l e R s m args below meth c H1 locs1 cells slots Q (F0 m (pc + 1) ls rest)) : W p l e R s m args below meth c H locs cells slots Q (F0 m pc ls (.int x :: .int i :: .ref (ad κ) :: rest)) := by
  subst hi
  refine va_iast hexec hb hK hP (sp_D hinj hAk) hS κ t0 (by rw [sp_W_at hκ, he]) ht (vp_in_nI hj hn) hdg fun H1 locs1 hP1 _ hS1 => ?_
  rw [nI_clamp (Nat.lt_trans hj hn), sp_W_set hκ he1] at hP1
  exact kk H1 locs1 hP1 hS1
theorem sp_cast (hexec : p.tables.exec = Jvm.exec) (hb : c.code = cc) (hK : va_K D vwCl tys s) (hP : va_P D vwCl (sp_W E ad K σ) H) (hinj : sp_inj ad K) (hAk : ∀ k, k < K → A (ad k)) (hS : va_S A H0 H locs) {κ : Nat} (hκ : κ < K) (t0 : Nat) {cA : ClassId} {n : Nat} {f : Nat → Int32} (he : E κ (σ κ) = .inl (cA, n, .inl f)) (ht : tys[t0]? = some (cA, .char)) {i : Int32} {x : Int32} (j : Nat) (hi : i = nI j) (hj : j < n) (hn : n < 2 ^ 31) {r1 : Nat → Int32} (he1 : E κ r1 = .inl (cA, n, .inl (upd f j (vp_nar .char x)))) (hdg : decode cc pc = .ok (.castore, 1))
    (kk : ∀ (H1 : Heap) (locs1 : List Loc), va_P D vwCl (sp_W E ad K (sp_up σ κ r1)) H1 → va_S A H0 H1 locs1 → W p l e R s m args below meth c H1 locs1 cells slots Q (F0 m (pc + 1) ls rest)) : W p l e R s m args below meth c H locs cells slots Q (F0 m pc ls (.int x :: .int i :: .ref (ad κ) :: rest)) := by
  subst hi
  refine va_cast hexec hb hK hP (sp_D hinj hAk) hS κ t0 (by rw [sp_W_at hκ, he]) ht (vp_in_nI hj hn) hdg fun H1 locs1 hP1 _ hS1 => ?_
  rw [nI_clamp (Nat.lt_trans hj hn), sp_W_set hκ he1] at hP1
  exact kk H1 locs1 hP1 hS1
end SPR
