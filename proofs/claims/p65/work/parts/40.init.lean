/-! CONSTRUCTORS: cells are made one by one. iP: n cells, cell k at ad k holds e k -/
def iP (D : va_G) (A : Nat → Prop) (ad : Nat → Nat) (n : Nat) (e : Nat → va_E) (H : Heap) : Prop := sp_inj ad n ∧ (∀ k, k < n → A (ad k)) ∧ ∀ k, k < n → va_at D vwCl (ad k, e k) H
def eU {α : Type} (e : Nat → α) (κ : Nat) (v : α) : Nat → α := fun k => if k = κ then v else e k
theorem eU_s {α : Type} (e : Nat → α) (κ : Nat) (v : α) : eU e κ v κ = v := by simp [eU]
theorem eU_n {α : Type} (e : Nat → α) {κ k : Nat} (v : α) (h : k ≠ κ) : eU e κ v k = e k := by simp [eU, h]
abbrev iW (ad : Nat → Nat) (n : Nat) (e : Nat → va_E) : va_W := sp_W (fun k _ => e k) ad n (fun _ _ => 0)
theorem iP.P {D : va_G} {A : Nat → Prop} {ad : Nat → Nat} {n : Nat} {e : Nat → va_E} {H : Heap} (h : iP D A ad n e H) : va_P D vwCl (iW ad n e) H := sp_P_of fun k hk => h.2.2 k hk
theorem iP.D {D : va_G} {A : Nat → Prop} {ad : Nat → Nat} {n : Nat} {e : Nat → va_E} {H : Heap} (h : iP D A ad n e H) : va_D A (iW ad n e) := sp_D h.1 h.2.1
theorem iP.set {D : va_G} {A : Nat → Prop} {ad : Nat → Nat} {n κ : Nat} {e : Nat → va_E} {v : va_E} {H H1 : Heap} (h : iP D A ad n e H) (hκ : κ < n) (hP : va_P D vwCl ((iW ad n e).set κ (ad κ, v)) H1) : iP D A ad n (eU e κ v) H1 := by
  refine ⟨h.1, h.2.1, fun k hk => ?_⟩
  have h1 := hP k
  by_cases hkk : k = κ
  · subst hkk
    rw [eU_s]
    exact h1 _ (List.getElem?_set_self (by rw [sp_W_len]; exact hk))
  · rw [eU_n _ _ hkk]
    refine h1 (ad k, e k) ?_
    rw [List.getElem?_set_ne (Ne.symm hkk)]
    exact sp_W_at hk
/-- one cell more -/
theorem iP.grow {D : va_G} {A : Nat → Prop} {ad : Nat → Nat} {n z : Nat} {e : Nat → va_E} {v : va_E} {H H1 : Heap} (h : iP D A ad n e H) (hz : z = H.size) (hA : A z) (hk : ∀ q : Nat, q < H.size → H1[q]? = H[q]?) (hat : va_at D vwCl (z, v) H1) : iP D A (eU ad n z) (n + 1) (eU e n v) H1 := by
  have hlt : ∀ k, k < n → ad k < H.size := fun k hh => (h.2.2 k hh).lt
  refine ⟨fun i j hi hj hij => ?_, fun k hh => ?_, fun k hh => ?_⟩
  · by_cases h1 : i = n
    · by_cases h2 : j = n
      · omega
      · subst h1
        rw [eU_s, eU_n _ _ h2] at hij
        have := hlt j (by omega)
        omega
    · by_cases h2 : j = n
      · subst h2
        rw [eU_s, eU_n _ _ h1] at hij
        have := hlt i (by omega)
        omega
      · rw [eU_n _ _ h1, eU_n _ _ h2] at hij
        exact h.1 i j (by omega) (by omega) hij
  · by_cases h1 : k = n
    · subst h1; rw [eU_s]; exact hA
    · rw [eU_n _ _ h1]; exact h.2.1 k (by omega)
  · by_cases h1 : k = n
    · subst h1; rw [eU_s, eU_s]; exact hat
    · rw [eU_n _ _ h1, eU_n _ _ h1]; exact (h.2.2 k (by omega)).kept (hk _ (hlt k (by omega)))
/-- a call that changes one cell -/
theorem iP.one {D : va_G} {A : Nat → Prop} {ad : Nat → Nat} {n κ : Nat} {e : Nat → va_E} {v : va_E} {H H1 : Heap} (h : iP D A ad n e H) (hκ : κ < n) (hk : ∀ q : Nat, q < H.size → ¬ q = ad κ → H1[q]? = H[q]?) (hat : va_at D vwCl (ad κ, v) H1) : iP D A ad n (eU e κ v) H1 := by
  refine ⟨h.1, h.2.1, fun k hh => ?_⟩
  by_cases h1 : k = κ
  · subst h1; rw [eU_s]; exact hat
  · rw [eU_n _ _ h1]; exact (h.2.2 k hh).kept (hk _ (h.2.2 k hh).lt (fun z => h1 (h.1 k κ hh hκ z)))
/-- a call that fills the last cell and makes m more behind it -/
theorem iP.join {D : va_G} {A A2 : Nat → Prop} {ad a2 : Nat → Nat} {n m : Nat} {e e2 : Nat → va_E} {H H1 : Heap} (h : iP D A ad (n + 1) e H) (h2 : iP D A2 a2 (m + 1) e2 H1) (h0 : a2 0 = ad n) (hf : ∀ k, 1 ≤ k → k < m + 1 → H.size ≤ a2 k) (hA : ∀ q, H.size ≤ q → A q) (hk : ∀ q : Nat, q < H.size → ¬ q = ad n → H1[q]? = H[q]?) :
    iP D A (fun k => if k < n then ad k else a2 (k - n)) (n + (m + 1)) (fun k => if k < n then e k else e2 (k - n)) H1 := by
  have hlt : ∀ k, k < n + 1 → ad k < H.size := fun k hh => (h.2.2 k hh).lt
  have hne : ∀ k j, k < n → j < m + 1 → ad k ≠ a2 j := fun k j hh hj z => by
    rcases Nat.eq_zero_or_pos j with q | q
    · subst q
      rw [h0] at z
      have := h.1 k n (by omega) (by omega) z
      omega
    · have := hf j q hj
      have := hlt k (by omega)
      omega
  refine ⟨fun i j hi hj hij => ?_, fun k hh => ?_, fun k hh => ?_⟩
  · by_cases h1 : i < n
    · by_cases h3 : j < n
      · simp only [h1, h3, if_true] at hij
        exact h.1 i j (by omega) (by omega) hij
      · simp only [h1, h3, if_true, if_false] at hij
        exact absurd hij (hne i (j - n) h1 (by omega))
    · by_cases h3 : j < n
      · simp only [h1, h3, if_true, if_false] at hij
        exact absurd hij.symm (hne j (i - n) h3 (by omega))
      · simp only [h1, h3, if_false] at hij
        have := h2.1 (i - n) (j - n) (by omega) (by omega) hij
        omega
  · by_cases h1 : k < n
    · simp only [h1, if_true]; exact h.2.1 k (by omega)
    · simp only [h1, if_false]
      rcases Nat.eq_zero_or_pos (k - n) with q | q
      · rw [q, h0]; exact h.2.1 n (by omega)
      · exact hA _ (hf (k - n) q (by omega))
  · by_cases h1 : k < n
    · simp only [h1, if_true]
      exact (h.2.2 k (by omega)).kept (hk _ (hlt k (by omega)) (fun z => by have := h.1 k n (by omega) (by omega) z; omega))
    · simp only [h1, if_false]
      exact h2.2.2 (k - n) (by omega)
def IX (U : State) : Prop := (∀ (i : Nat) (x : String × Nat × MethodName × String), exN[i]? = some x → va_Nw (.methodLinkNest x.1 x.2.1 x.2.2.1 x.2.2.2) U) ∧ va_AO "SandProofreader$Beach" U ∧ va_AO "SandProofreader$Command" U ∧ va_AO "SandProofreader$Print" U ∧ va_AO "SandProofreader$Track" U
theorem IX.same {u U : State} (hv : U.vm = u.vm) (h : IX u) : IX U := ⟨fun i x hx => va_Nw.same rfl hv.symm (h.1 i x hx), va_AO.moved (by rw [hv]; exact Vm.Alike.refl _) h.2.1, va_AO.moved (by rw [hv]; exact Vm.Alike.refl _) h.2.2.1, va_AO.moved (by rw [hv]; exact Vm.Alike.refl _) h.2.2.2.1, va_AO.moved (by rw [hv]; exact Vm.Alike.refl _) h.2.2.2.2⟩
theorem IX.warm {s U : State} (hW : s.WarmedH U.vm) (h : IX s) : IX U := ⟨fun i x hx => va_Nw.warmM hW (h.1 i x hx), va_AO.moved hW.alike h.2.1, va_AO.moved hW.alike h.2.2.1, va_AO.moved hW.alike h.2.2.2.1, va_AO.moved hW.alike h.2.2.2.2⟩
section IRW
variable {p : Program} {l : Launch} {e : Env} {R : Room} {s : State} {m : MethodId} {args : Array Value} {below : List Frame} {meth : Method} {c : Code} {H : Heap} {locs : List Loc} {cells slots : Nat} {Q : State → Prop}
variable {cc : ByteArray} {pc : Nat} {ls : Array Slot} {rest : List Value} {D : va_G} {A : Nat → Prop} {tys : List (ClassId × FieldType)} {H0 : Heap} {ad : Nat → Nat} {n : Nat} {E : Nat → va_E}
theorem i_put (hexec : p.tables.exec = Jvm.exec) (hb : c.code = cc) {own ref C : String} {T : u_T} {N ci index : Nat} {Ts : List Cond} (hts : ∀ w ∈ Ts, w.before args s = true) (hin : ∀ w ∈ u_ws C T N, w ∈ Ts) (ty0 : Nat → FieldType) (hty : ∀ k, k < N → parseFieldDescriptor (T k).2.2.1 = some (ty0 k)) (hnm : ∀ a, a < N → ∀ b, b < N → a ≠ b → (T a).2.1 ≠ (T b).2.1) (hown : s.vm.findClass own = some m.cls) (hK : va_K D vwCl tys s) (hP : iP D A ad n E H) (hS0 : va_S A H0 H locs) {κ : Nat} (hκ : κ < n) {a : Nat} (ha : ad κ = a) {fs : List Value} (he : E κ = .inr (ci, fs)) (hc : vwCl[ci]? = some (C, T, N)) (k : Nat) (hk : k < N) (hlink : (Cond.fieldLink own index ref (T k).2.1 (T k).2.2.1).before args s = true) (hsame : ∀ x, s.fieldFound? (T k).1 (T k).2.1 (T k).2.2.1 = some x → s.fieldFound? ref (T k).2.1 (T k).2.2.1 = some x) (hfin : (T k).2.2.2 = false) {ty : FieldType} {v : Value} (hd : parseFieldDescriptor (T k).2.2.1 = some ty) (hn : narrow ty v = v) (hfit : fits ty v = true) (hl : k < fs.length)
    (hdg : decode cc pc = .ok (.putfield index, 3)) (kk : ∀ (H1 : Heap) (locs1 : List Loc), iP D A ad n (eU E κ (.inr (ci, fs.set k v))) H1 → va_S A H0 H1 locs1 → W p l e R s m args below meth c H1 locs1 cells slots Q (F0 m (pc + 3) ls rest)) : W p l e R s m args below meth c H locs cells slots Q (F0 m pc ls (v :: .ref a :: rest)) := by
  subst ha
  exact va_put hexec hb hts hin ty0 hty hnm hown hK hP.P hP.D hS0 κ (fs := fs) (by rw [sp_W_at hκ, he]) hc k hk hlink hsame hfin hd hn hfit hl hdg fun H1 locs1 hP1 _ hS1 => kk H1 locs1 (hP.set hκ hP1) hS1
theorem i_putF (hexec : p.tables.exec = Jvm.exec) (hb : c.code = cc) {own ref C : String} {T : u_T} {N ci index : Nat} {Ts : List Cond} (hts : ∀ w ∈ Ts, w.before args s = true) (hin : ∀ w ∈ u_ws C T N, w ∈ Ts) (ty0 : Nat → FieldType) (hty : ∀ k, k < N → parseFieldDescriptor (T k).2.2.1 = some (ty0 k)) (hnm : ∀ a, a < N → ∀ b, b < N → a ≠ b → (T a).2.1 ≠ (T b).2.1) (hown : s.vm.findClass own = some m.cls) (hK : va_K D vwCl tys s) (hP : iP D A ad n E H) (hS0 : va_S A H0 H locs) {κ : Nat} (hκ : κ < n) {a : Nat} (ha : ad κ = a) {fs : List Value} (he : E κ = .inr (ci, fs)) (hc : vwCl[ci]? = some (C, T, N)) (k : Nat) (hk : k < N) (hlink : (Cond.fieldLink own index ref (T k).2.1 (T k).2.2.1).before args s = true) (hsame : ∀ x, s.fieldFound? (T k).1 (T k).2.1 (T k).2.2.1 = some x → s.fieldFound? ref (T k).2.1 (T k).2.2.1 = some x) (hfin : (T k).2.2.2 = true) (hin2 : meth.name = "<init>") (hdecl : (T k).1 = own) {ty : FieldType} {v : Value} (hd : parseFieldDescriptor (T k).2.2.1 = some ty) (hn : narrow ty v = v) (hfit : fits ty v = true) (hl : k < fs.length)
    (hdg : decode cc pc = .ok (.putfield index, 3)) (kk : ∀ (H1 : Heap) (locs1 : List Loc), iP D A ad n (eU E κ (.inr (ci, fs.set k v))) H1 → va_S A H0 H1 locs1 → W p l e R s m args below meth c H1 locs1 cells slots Q (F0 m (pc + 3) ls rest)) : W p l e R s m args below meth c H locs cells slots Q (F0 m pc ls (v :: .ref a :: rest)) := by
  subst ha
  exact va_putF hexec hb hts hin ty0 hty hnm hown hK hP.P hP.D hS0 κ (fs := fs) (by rw [sp_W_at hκ, he]) hc k hk hlink hsame hfin hin2 hdecl hd hn hfit hl hdg fun H1 locs1 hP1 _ hS1 => kk H1 locs1 (hP.set hκ hP1) hS1
theorem i_get (hexec : p.tables.exec = Jvm.exec) (hb : c.code = cc) {own ref C : String} {T : u_T} {N ci index : Nat} {Ts : List Cond} (hts : ∀ w ∈ Ts, w.before args s = true) (hin : ∀ w ∈ u_ws C T N, w ∈ Ts) (hown : s.vm.findClass own = some m.cls) (hK : va_K D vwCl tys s) (hP : iP D A ad n E H) {κ : Nat} (hκ : κ < n) {a : Nat} (ha : ad κ = a) {fs : List Value} (he : E κ = .inr (ci, fs)) (hc : vwCl[ci]? = some (C, T, N)) (k : Nat) (hk : k < N) (hlink : (Cond.fieldLink own index ref (T k).2.1 (T k).2.2.1).before args s = true) (hsame : ∀ x, s.fieldFound? (T k).1 (T k).2.1 (T k).2.2.1 = some x → s.fieldFound? ref (T k).2.1 (T k).2.2.1 = some x) {v : Value} (hv : fs[k]? = some v) (hdg : decode cc pc = .ok (.getfield index, 3))
    (kk : W p l e R s m args below meth c H locs cells slots Q (F0 m (pc + 3) ls (v :: rest))) : W p l e R s m args below meth c H locs cells slots Q (F0 m pc ls (.ref a :: rest)) := by
  subst ha
  exact va_get hexec hb hts hin hown hK hP.P κ (by rw [sp_W_at hκ, he]) hc k hk hlink hsame hv hdg kk
theorem i_alen (hexec : p.tables.exec = Jvm.exec) (hb : c.code = cc) (hK : va_K D vwCl tys s) (hP : iP D A ad n E H) {κ : Nat} (hκ : κ < n) {a : Nat} (ha : ad κ = a) (t0 : Nat) {cA : ClassId} {x : vp_A} (he : E κ = .inl (cA, x)) {ty : FieldType} (ht : tys[t0]? = some (cA, ty)) {v : Int32} (hv : Int32.ofNat x.1 = v) (hdg : decode cc pc = .ok (.arraylength, 1))
    (kk : W p l e R s m args below meth c H locs cells slots Q (F0 m (pc + 1) ls (.int v :: rest))) : W p l e R s m args below meth c H locs cells slots Q (F0 m pc ls (.ref a :: rest)) := by
  subst ha
  exact va_alen hexec hb hK hP.P κ t0 (by rw [sp_W_at hκ, he]) ht hv hdg kk
theorem i_ast (hexec : p.tables.exec = Jvm.exec) (hb : c.code = cc) (hK : va_K D vwCl tys s) (hP : iP D A ad n E H) (hS : va_S A H0 H locs) {κ κ2 : Nat} (hκ : κ < n) (hκ2 : κ2 < n) {a v : Nat} (ha : ad κ = a) (hv2 : ad κ2 = v) (t0 ci : Nat) {cA : ClassId} {r : vw_C} {m0 : Nat} {vs : List Value} {f : Nat → Option Nat} (he : E κ = rA cA m0 f) (ht : tys[t0]? = some (cA, .object r.1)) (he2 : E κ2 = .inr (ci, vs)) (hc : vwCl[ci]? = some r) (j : Nat) (hj : j < m0) (hm : m0 < 2 ^ 31) (hdg : decode cc pc = .ok (.aastore, 1))
    (kk : ∀ (H1 : Heap) (locs1 : List Loc), iP D A ad n (eU E κ (rA cA m0 (va_up f j (some v)))) H1 → va_S A H0 H1 locs1 → W p l e R s m args below meth c H1 locs1 cells slots Q (F0 m (pc + 1) ls rest)) : W p l e R s m args below meth c H locs cells slots Q (F0 m pc ls (.ref v :: .int (nI j) :: .ref a :: rest)) := by
  subst ha
  subst hv2
  refine va_astq hexec hb hK hP.P hP.D hS κ t0 κ2 ci (r := r) (vs := vs) (f := f) (n := m0) (cA := cA) (by rw [sp_W_at hκ, he]) ht (by rw [sp_W_at hκ2, he2]) hc (vp_in_nI hj hm) hdg fun H1 locs1 hP1 _ hS1 => ?_
  rw [nI_clamp (Nat.lt_trans hj hm)] at hP1
  exact kk H1 locs1 (hP.set hκ hP1) hS1
theorem i_new (hexec : p.tables.exec = Jvm.exec) (hb : c.code = cc) {own C : String} {T : u_T} {N ci index : Nat} {Ts : List Cond} (hts : ∀ w ∈ Ts, w.before args s = true) (hin : ∀ w ∈ u_ws C T N, w ∈ Ts) (ty : Nat → FieldType) (hty : ∀ k, k < N → parseFieldDescriptor (T k).2.2.1 = some (ty k)) (hown : s.vm.findClass own = some m.cls) (hcl : (Cond.classLink own index C).before args s = true) (hinst : (Cond.instantiable C N).before args s = true) (hini : (Cond.initialized C).before args s = true)
    (hK : va_K D vwCl tys s) (hP : iP D A ad n E H) (hS : va_S A H0 H locs) (hA : ∀ q, H0.size ≤ q → A q) (hc : vwCl[ci]? = some (C, T, N)) {fs : List Value} (hfs : ∀ j, j < N → defaultValue (ty j) = vp_V fs j) (hcells : cells + 1 ≤ R.cells) (hslots : slots + N ≤ R.slots) (hdg : decode cc pc = .ok (.new index, 3))
    (kk : ∀ (z : Nat) (H1 : Heap), H0.size ≤ z → iP D A (eU ad n z) (n + 1) (eU E n (.inr (ci, fs))) H1 → va_S A H0 H1 locs → z < H1.size →
      W p l e R s m args below meth c H1 locs (cells + 1) (slots + N) Q (F0 m (pc + 3) ls (.ref z :: rest))) : W p l e R s m args below meth c H locs cells slots Q (F0 m pc ls rest) :=
  sp_new hexec hb hts hin ty hty hown hcl hinst hini hK hS hc hfs hcells hslots hdg fun z H1 hz _ hk hat hS1 => kk z H1 (by rw [hz]; exact hS.1) (hP.grow hz (hA _ (by rw [hz]; exact hS.1)) hk hat) hS1 hat.lt
/-- an array of references whose class the tables name -/
theorem i_newq (hexec : p.tables.exec = Jvm.exec) (hb : c.code = cc) {own C : String} {index : Nat} (hown : s.vm.findClass own = some m.cls) (hclink : (Cond.classLink own index C).before args s = true) (hover : va_AO C s) (hK : va_K D vwCl tys s) (hP : iP D A ad n E H) (hS : va_S A H0 H locs) (hA : ∀ q, H0.size ≤ q → A q) (t0 : Nat) {cA : ClassId} (ht : tys[t0]? = some (cA, .object C))
    {x : Int32} {N' : Nat} (hn : ¬ x < 0) (hN : x.toNatClampNeg = N') (hbytes : N' * 4 ≤ 536870912) (hcells : cells + 1 ≤ R.cells) (hslots : slots + N' ≤ R.slots) (hdg : decode cc pc = .ok (.anewarray index, 3))
    (kk : ∀ (z : Nat) (H1 : Heap), H0.size ≤ z → iP D A (eU ad n z) (n + 1) (eU E n (rA cA N' (fun _ => none))) H1 → va_S A H0 H1 locs →
      W p l e R s m args below meth c H1 locs (cells + 1) (slots + N') Q (F0 m (pc + 3) ls (.ref z :: rest))) : W p l e R s m args below meth c H locs cells slots Q (F0 m pc ls (.int x :: rest)) := by
  subst hN
  refine W.anew hexec hb hown hclink (va_AO.use hover) rfl hdg rfl hn hbytes hcells hslots fun cB kB comp f1 f2 f3 f4 => ?_
  obtain ⟨kA, c2, g1, g2, g3, g4⟩ := (hK.2 t0 _ ht).2
  have hcc : cB = cA := Option.some.inj (f1.symm.trans g4)
  subst hcc
  generalize hH1 : H.push ({ cls := cB, slots := Array.replicate x.toNatClampNeg .null, vm := .none } : Cell) = H1
  have e1 : H1[H.size]? = some (vp_cell cB (x.toNatClampNeg, .inr (.inr (.inr (.inr (fun _ => none)))))) := by rw [← hH1, Array.getElem?_push_size, vp_cell_q, ← arrV_new]; rfl
  have o1 : ∀ q : Nat, q < H.size → H1[q]? = H[q]? := fun q hq => by rw [← hH1, Array.getElem?_push, if_neg (Nat.ne_of_lt hq)]
  exact kk H.size H1 hS.1 (hP.grow rfl (hA _ hS.1) o1 e1) ⟨Nat.le_trans hS.1 (by rw [← hH1, Array.size_push]; omega), fun y h1 h2 => (o1 y (Nat.lt_of_lt_of_le h1 hS.1)).trans (hS.2.1 y h1 h2), hS.2.2⟩
end IRW
/-- the row of an array filled up to i, one more stored -/
theorem i_row {base z : Nat} {ad : Nat → Nat} (i j : Nat) : va_up (fun j => if j < i then some (ad (base + j)) else none) i (some z) j = if j < i + 1 then some (eU ad (base + i) z (base + j)) else none := by
  unfold va_up
  by_cases h : j = i
  · subst h; simp [eU_s]
  · by_cases h2 : j < i
    · simp [h, h2, show j < i + 1 by omega, eU_n ad z (show base + j ≠ base + i by omega)]
    · simp [h, h2, show ¬ j < i + 1 by omega]
set_option maxHeartbeats 4000000 in
set_option maxRecDepth 100000 in
theorem c_X8_init (l : Launch) (q : Nat) : Met l yX8_init wsX8_init ({ frames := 1, cells := 0, slots := 0, locals := 20 } : Room) (va_Pc [.ref q] (fun _ => True)) (sp_S none) 0 0 (fun _ => False) := by
  refine Met.ofW (cc := cX8_init) (maxL := 1) (ret := none) (by decide) rfl ?_
  intro p e s m args below meth c s₁ B hml hv
  have hx := B.exec
  have hb := B.bytes
  have hr := B.returns
  have hts := atoms_spec (ws := wsX8_init) B.pre
  have hown : s.vm.findClass RX8 = some m.cls := findClass_of_methodNamed B.named
  have hlocks := B.notSynchronized
  have hin : meth.name = "<init>" := (name_of_methodNamed B.named B.method).1
  obtain ⟨rfl, -⟩ := hv
  have hl := lv_entry ([.ref q]) (n := 1) (Nat.le_of_ble_eq_true rfl)
  refine W.eq (lg_entry_eq _ ([.ref q]) _) ?_
  generalize (lg_sl ([.ref q]) ++ List.replicate (1 - (lg_sl ([.ref q])).length) Slot.unset).toArray = ls at hl ⊢
  have hl : lv_has ls 1 [(0, .ref q)] := hl
  refine lv_aload_n hx hb dX8_init_0 rfl (lv_at hl 0 rfl) ?_
  refine W.objInit hx hb hown (hts _ (List.mem_of_getElem? (i := 1) rfl)) (hts _ (List.mem_of_getElem? (i := 2) rfl)) (hts _ (List.mem_of_getElem? (i := 3) rfl)) rfl (by rw [hml]; exact hl.1) rfl dX8_init_1 (Nat.le_of_ble_eq_true rfl) (Nat.le_of_ble_eq_true rfl) ?_
  refine W.eq (g2 := F0 m 4 ls []) rfl ?_
  exact W.vret hx hb hr (fun T9 hT9 _ => ⟨rfl, hT9⟩) (fun _ h => by cases h) dX8_init_4

set_option maxHeartbeats 4000000 in
set_option maxRecDepth 100000 in
theorem c_X3_init (l : Launch) (q : Nat) : Met l yX3_init wsX3_init ({ frames := 1, cells := 0, slots := 0, locals := 20 } : Room) (va_Pc [.ref q] (fun _ => True)) (sp_S none) 0 0 (fun _ => False) := by
  refine Met.ofW (cc := cX3_init) (maxL := 1) (ret := none) (by decide) rfl ?_
  intro p e s m args below meth c s₁ B hml hv
  have hx := B.exec
  have hb := B.bytes
  have hr := B.returns
  have hts := atoms_spec (ws := wsX3_init) B.pre
  have hown : s.vm.findClass RX3 = some m.cls := findClass_of_methodNamed B.named
  have hlocks := B.notSynchronized
  have hin : meth.name = "<init>" := (name_of_methodNamed B.named B.method).1
  obtain ⟨rfl, -⟩ := hv
  have hl := lv_entry ([.ref q]) (n := 1) (Nat.le_of_ble_eq_true rfl)
  refine W.eq (lg_entry_eq _ ([.ref q]) _) ?_
  generalize (lg_sl ([.ref q]) ++ List.replicate (1 - (lg_sl ([.ref q])).length) Slot.unset).toArray = ls at hl ⊢
  have hl : lv_has ls 1 [(0, .ref q)] := hl
  refine lv_aload_n hx hb dX3_init_0 rfl (lv_at hl 0 rfl) ?_
  refine W.objInit hx hb hown (hts _ (List.mem_of_getElem? (i := 1) rfl)) (hts _ (List.mem_of_getElem? (i := 2) rfl)) (hts _ (List.mem_of_getElem? (i := 3) rfl)) rfl (by rw [hml]; exact hl.1) rfl dX3_init_1 (Nat.le_of_ble_eq_true rfl) (Nat.le_of_ble_eq_true rfl) ?_
  refine W.eq (g2 := F0 m 4 ls []) rfl ?_
  exact W.vret hx hb hr (fun T9 hT9 _ => ⟨rfl, hT9⟩) (fun _ h => by cases h) dX3_init_4

set_option maxHeartbeats 4000000 in
set_option maxRecDepth 100000 in
theorem c_X1_init (l : Launch) (q : Nat) : Met l yX1_init wsX1_init ({ frames := 1, cells := 0, slots := 0, locals := 20 } : Room) (va_Pc [.ref q] (fun _ => True)) (sp_S none) 0 0 (fun _ => False) := by
  refine Met.ofW (cc := cX1_init) (maxL := 1) (ret := none) (by decide) rfl ?_
  intro p e s m args below meth c s₁ B hml hv
  have hx := B.exec
  have hb := B.bytes
  have hr := B.returns
  have hts := atoms_spec (ws := wsX1_init) B.pre
  have hown : s.vm.findClass RX1 = some m.cls := findClass_of_methodNamed B.named
  have hlocks := B.notSynchronized
  have hin : meth.name = "<init>" := (name_of_methodNamed B.named B.method).1
  obtain ⟨rfl, -⟩ := hv
  have hl := lv_entry ([.ref q]) (n := 1) (Nat.le_of_ble_eq_true rfl)
  refine W.eq (lg_entry_eq _ ([.ref q]) _) ?_
  generalize (lg_sl ([.ref q]) ++ List.replicate (1 - (lg_sl ([.ref q])).length) Slot.unset).toArray = ls at hl ⊢
  have hl : lv_has ls 1 [(0, .ref q)] := hl
  refine lv_aload_n hx hb dX1_init_0 rfl (lv_at hl 0 rfl) ?_
  refine W.objInit hx hb hown (hts _ (List.mem_of_getElem? (i := 1) rfl)) (hts _ (List.mem_of_getElem? (i := 2) rfl)) (hts _ (List.mem_of_getElem? (i := 3) rfl)) rfl (by rw [hml]; exact hl.1) rfl dX1_init_1 (Nat.le_of_ble_eq_true rfl) (Nat.le_of_ble_eq_true rfl) ?_
  refine W.eq (g2 := F0 m 4 ls []) rfl ?_
  exact W.vret hx hb hr (fun T9 hT9 _ => ⟨rfl, hT9⟩) (fun _ h => by cases h) dX1_init_4

theorem wi_X0_init_X0 : ∀ w ∈ wsX00, w ∈ wsX0_init := by decide +kernel
theorem wi_X0_init_X8 : ∀ w ∈ wsX80, w ∈ wsX0_init := by decide +kernel
theorem wi_X0_init_X3 : ∀ w ∈ wsX30, w ∈ wsX0_init := by decide +kernel
/-- a new beach: 39 cells in the order of their making -/
def Bh (cy : Nat → ClassId) (ad : Nat → Nat) (e : Nat → va_E) : Prop := e 0 = .inr (3, [.ref (ad 1), .ref (ad 8), .int 0, .int 0, .int 0, .int 0, .int 0]) ∧ e 1 = rA (cy 5) 6 (fun j => if j < 6 then some (ad (2 + j)) else none) ∧ e 8 = rA (cy 4) 30 (fun j => if j < 30 then some (ad (9 + j)) else none) ∧ (∀ j, j < 6 → e (2 + j) = .inr (11, [.int 0, .int 0, .int 0])) ∧ ∀ j, j < 30 → e (9 + j) = .inr (6, [.int 0, .int 0, .int 0, .int 0, .int 0, .int 0, .int 0, .int 0, .int 0, .int 0])
abbrev iA (q sz : Nat) : Nat → Prop := fun x => x = q ∨ sz ≤ x
def iPc (D : va_G) (cy : Nat → ClassId) (q sz ci : Nat) (fs : List Value) : Array Value → State → Prop := va_Pc [.ref q] (fun U => U.heap.size = sz ∧ va_at D vwCl (q, .inr (ci, fs)) U.heap ∧ va_K D vwCl (tyG cy) U ∧ IX U)
def iQ (D : va_G) (q n : Nat) (G : (Nat → Nat) → (Nat → va_E) → Prop) : Array Value → State → Outcome → State → Prop := fun _ st o t => o = .returned none ∧ va_F (iA q st.heap.size) st t ∧ ∃ (ad : Nat → Nat) (e : Nat → va_E), iP D (iA q st.heap.size) ad n e t.heap ∧ ad 0 = q ∧ (∀ k, 1 ≤ k → k < n → st.heap.size ≤ ad k) ∧ G ad e
theorem iP_first {D : va_G} {A : Nat → Prop} {q ci : Nat} {fs : List Value} {H : Heap} (h : va_at D vwCl (q, .inr (ci, fs)) H) (hA : A q) : iP D A (fun _ => q) 1 (fun _ => .inr (ci, fs)) H := ⟨fun i j hi hj _ => by omega, fun _ _ => hA, fun _ _ => h⟩
theorem iB_blind {D : va_G} {cy : Nat → ClassId} {q sz ci : Nat} {fs : List Value} : FrameBlind (iPc D cy q sz ci fs) := fun a U g mk z => ⟨z.1, z.2.1, z.2.2.1, va_K.moved (u := U) (U := U.calling g mk a) (Vm.Alike.refl U.vm) z.2.2.2.1, IX.same (u := U) (U := U.calling g mk a) rfl z.2.2.2.2⟩
set_option maxHeartbeats 4000000 in
set_option maxRecDepth 100000 in
theorem c_X0_init (l : Launch) (D : va_G) (cy : Nat → ClassId) (q sz : Nat) : Met l yX0_init wsX0_init ({ frames := 2, cells := 38, slots := 354, locals := 40 } : Room) (iPc D cy q sz 3 [.null, .null, .int 0, .int 0, .int 0, .int 0, .int 0]) (iQ D q 39 (Bh cy)) 38 354 (iA q sz) := by
  refine Met.ofW (cc := cX0_init) (maxL := 2) (ret := none) (by decide) rfl ?_
  intro p e s m args below meth c s₁ B hml hv
  obtain ⟨rfl, hsz, hat, hK, hIX⟩ := hv
  have hx := B.exec
  have hb := B.bytes
  have hr := B.returns
  have hts := atoms_spec (ws := wsX0_init) B.pre
  have hown : s.vm.findClass RX0 = some m.cls := findClass_of_methodNamed B.named
  have hlocks := B.notSynchronized
  have hin : meth.name = "<init>" := (name_of_methodNamed B.named B.method).1
  subst hsz
  have hS : va_S (iA q s.heap.size) s.heap s.heap [] := va_S.rf
  have hAs : ∀ x, s.heap.size ≤ x → iA q s.heap.size x := fun x h => Or.inr h
  have hP := iP_first (A := iA q s.heap.size) hat (Or.inl rfl)
  have hl := lv_entry ([.ref q]) (n := 2) (Nat.le_of_ble_eq_true rfl)
  refine W.eq (lg_entry_eq _ ([.ref q]) _) ?_
  generalize (lg_sl ([.ref q]) ++ List.replicate (2 - (lg_sl ([.ref q])).length) Slot.unset).toArray = ls at hl ⊢
  have hl : lv_has ls 2 [(0, .ref q)] := hl
  refine lv_aload_n hx hb dX0_init_0 rfl (lv_at hl 0 rfl) ?_
  refine W.objInit hx hb hown (hts _ (List.mem_of_getElem? (i := 1) rfl)) (hts _ (List.mem_of_getElem? (i := 2) rfl)) (hts _ (List.mem_of_getElem? (i := 3) rfl)) rfl (by rw [hml]; exact hl.1) rfl dX0_init_1 (Nat.le_of_ble_eq_true rfl) (Nat.le_of_ble_eq_true rfl) ?_
  refine W.eq (g2 := F0 m 4 ls []) rfl ?_
  refine lv_aload_n hx hb dX0_init_4 rfl (lv_at hl 0 rfl) ?_
  refine lv_bipush (v := 6) hx hb dX0_init_5 (by decide) ?_
  refine i_newq hx hb hown (hts _ (List.mem_of_getElem? (i := 4) rfl)) hIX.2.2.2.2 hK hP hS hAs 5 rfl (x := 6) (N' := 6) (by decide) rfl (Nat.le_of_ble_eq_true rfl) (Nat.le_of_ble_eq_true rfl) (Nat.le_of_ble_eq_true rfl) dX0_init_7 (fun z1 H hz1 hP hS => ?_)
  refine i_putF (C := RX0) (T := TX0) (N := 7) (ty := tyX0 0) hx hb hts wi_X0_init_X0 tyX0 tyX0_ok nmX0 hown hK hP hS (κ := 0) (by decide) rfl rfl rfl 0 (by decide) (hts _ (List.mem_of_getElem? (i := 5) rfl)) (fun _ h => h) rfl hin rfl (by decide +kernel) rfl rfl (Nat.le_of_ble_eq_true rfl) dX0_init_10 (fun H locs hP hS => ?_)
  refine lv_iconst (v := 0) hx hb dX0_init_13 (by decide) ?_
  refine lv_istore_n (lv' := [(1, .int 0), (0, .ref q)]) hx hb dX0_init_14 rfl hl (by decide) rfl (fun ls hl => ?_)
  have tail_43 : ∀ (ad : Nat → Nat) (E9 : Nat → va_E) (H : Heap) (locs : List Loc), iP D (iA q s.heap.size) ad (2 + 6) E9 H → va_S (iA q s.heap.size) s.heap H locs → ad 0 = q → ad 1 = z1 → (∀ k, 1 ≤ k → k < 2 + 6 → s.heap.size ≤ ad k) → E9 0 = .inr (3, [.ref z1, .null, .int 0, .int 0, .int 0, .int 0, .int 0]) → E9 1 = rA (cy 5) 6 (fun j => if j < 6 then some (ad (2 + j)) else none) → (∀ j, j < 6 → E9 (2 + j) = .inr (11, [.int 0, .int 0, .int 0])) → ∀ ls : Array Slot, lv_has ls 2 [(1, .int (nI 6)), (0, .ref q)] → W p l e (headSpec wsX0_init ({ frames := 2, cells := 38, slots := 354, locals := 40 } : Room)).room s m (([.ref q] : List Value).toArray) below meth c H locs (1 + 6) (6 + 3 * 6) (MQ below (iQ D q 39 (Bh cy)) (([.ref q] : List Value).toArray) s 38 354 (iA q s.heap.size)) (F0 m 43 ls []) := by
    intro ad E9 H locs hP hS h0 ha1 hfr he0 he1 het ls hl
    refine lv_aload_n hx hb dX0_init_43 rfl (lv_at hl 1 rfl) ?_
    refine lv_bipush (v := 30) hx hb dX0_init_44 (by decide) ?_
    refine i_newq hx hb hown (hts _ (List.mem_of_getElem? (i := 8) rfl)) hIX.2.2.2.1 hK hP hS hAs 4 rfl (x := 30) (N' := 30) (by decide) rfl (Nat.le_of_ble_eq_true rfl) (Nat.le_of_ble_eq_true rfl) (Nat.le_of_ble_eq_true rfl) dX0_init_46 (fun z2 H hz2 hP hS => ?_)
    refine i_putF (C := RX0) (T := TX0) (N := 7) (ty := tyX0 1) hx hb hts wi_X0_init_X0 tyX0 tyX0_ok nmX0 hown hK hP hS (κ := 0) (by decide) ((eU_n _ _ (by decide)).trans h0) ((eU_n _ _ (by decide)).trans he0) rfl 1 (by decide) (hts _ (List.mem_of_getElem? (i := 9) rfl)) (fun _ h => h) rfl hin rfl (by decide +kernel) rfl rfl (Nat.le_of_ble_eq_true rfl) dX0_init_49 (fun H locs hP hS => ?_)
    refine lv_iconst (v := 0) hx hb dX0_init_52 (by decide) ?_
    refine lv_istore_n (lv' := [(1, .int 0), (0, .ref q)]) hx hb dX0_init_53 rfl hl (by decide) rfl (fun ls hl => ?_)
    have loop_54 : ∀ (fu i : Nat) (ad : Nat → Nat) (E9 : Nat → va_E) (H : Heap) (locs : List Loc), i ≤ 30 → 30 - i < fu → iP D (iA q s.heap.size) ad (9 + i) E9 H → va_S (iA q s.heap.size) s.heap H locs → ad 0 = q → ad 1 = z1 ∧ ad 8 = z2 →  (∀ k, 1 ≤ k → k < 9 + i → s.heap.size ≤ ad k) → E9 0 = .inr (3, [.ref z1, .ref z2, .int 0, .int 0, .int 0, .int 0, .int 0]) → E9 8 = rA (cy 4) 30 (fun j => if j < i then some (ad (9 + j)) else none) → (∀ j, j < i → E9 (9 + j) = .inr (6, [.int 0, .int 0, .int 0, .int 0, .int 0, .int 0, .int 0, .int 0, .int 0, .int 0])) → E9 1 = rA (cy 5) 6 (fun j => if j < 6 then some (ad (2 + j)) else none) → (∀ j, j < 6 → E9 (2 + j) = .inr (11, [.int 0, .int 0, .int 0])) → ∀ ls : Array Slot, lv_has ls 2 [(1, .int (nI i)), (0, .ref q)] → W p l e (headSpec wsX0_init ({ frames := 2, cells := 38, slots := 354, locals := 40 } : Room)).room s m (([.ref q] : List Value).toArray) below meth c H locs (8 + i) (54 + 10 * i) (MQ below (iQ D q 39 (Bh cy)) (([.ref q] : List Value).toArray) s 38 354 (iA q s.heap.size)) (F0 m 54 ls []) := by
      intro fu
      induction fu with
      | zero => intro i ad E9 H locs hle hlt hP hS h0 ha1  hfr he0 he1 het hk1 hk2 ls hl; exact absurd hlt (Nat.not_lt_zero _)
      | succ fu ih =>
        intro i ad E9 H locs hle hlt hP hS h0 ha1  hfr he0 he1 het hk1 hk2 ls hl
        refine lv_iload_n hx hb dX0_init_54 rfl (lv_at hl 0 rfl) ?_
        refine lv_aload_n hx hb dX0_init_55 rfl (lv_at hl 1 rfl) ?_
        refine i_get (C := RX0) (T := TX0) (N := 7) hx hb hts wi_X0_init_X0 hown hK hP (κ := 0) (by omega) h0 he0 rfl 1 (by decide) (hts _ (List.mem_of_getElem? (i := 9) rfl)) (fun _ h => h) rfl dX0_init_56 ?_
        refine i_alen hx hb hK hP (κ := 8) (by omega) ha1.2 4 he1 rfl (v := 30) rfl dX0_init_59 ?_
        refine lv_icmp_ge (tgt := 82) hx hb dX0_init_60 (by decide) (fun c_1 => ?_) (fun c_1 => ?_)
        · have hx_i : i = 30 := by have := (nI_leI (a := 30) (b := i) (by omega) (by omega)).mp c_1; omega
          subst hx_i
          exact W.vret hx hb hr (fun T9 hT9 _ => ⟨rfl, hS.F hT9, ad, E9, by rw [hT9]; exact hP, h0, hfr, by rw [he0, ha1.1, ha1.2], hk1, he1, hk2, het⟩) hS.2.2 dX0_init_82
        · have hb_i : i < 30 := Nat.lt_of_not_le (fun z => c_1 (nI_le z (by omega)))
          refine lv_aload_n hx hb dX0_init_63 rfl (lv_at hl 1 rfl) ?_
          refine i_get (C := RX0) (T := TX0) (N := 7) hx hb hts wi_X0_init_X0 hown hK hP (κ := 0) (by omega) h0 he0 rfl 1 (by decide) (hts _ (List.mem_of_getElem? (i := 9) rfl)) (fun _ h => h) rfl dX0_init_64 ?_
          refine lv_iload_n hx hb dX0_init_67 rfl (lv_at hl 0 rfl) ?_
          refine i_new (fs := [.int 0, .int 0, .int 0, .int 0, .int 0, .int 0, .int 0, .int 0, .int 0, .int 0]) (ci := 6) (C := RX3) (T := TX3) (N := 10) hx hb hts wi_X0_init_X3 tyX3 tyX3_ok hown (hts _ (List.mem_of_getElem? (i := 8) rfl)) (hts _ (List.mem_of_getElem? (i := 10) rfl)) (hts _ (List.mem_of_getElem? (i := 11) rfl)) hK hP hS hAs rfl (fun j hj => by rcases (show j = 0 ∨ j = 1 ∨ j = 2 ∨ j = 3 ∨ j = 4 ∨ j = 5 ∨ j = 6 ∨ j = 7 ∨ j = 8 ∨ j = 9 by omega) with rfl | rfl | rfl | rfl | rfl | rfl | rfl | rfl | rfl | rfl <;> rfl) (by show _ ≤ 38; omega) (by show _ ≤ 354; omega) dX0_init_68 (fun z H hz hP hS hzl => ?_)
          refine lv_dup hx hb dX0_init_71 rfl ?_
          refine sp_callN (va_runIN (As := []) (rest := [.ref z, .int (nI i), .ref z2]) ⟨hx, hb, hml, hown, hts⟩ (c_X3_init l z) ⟨va_cnB 0 hts gX0_init_X3_init_n24 rfl rfl rfl (hIX.1 1 _ rfl) (hts _ (List.mem_of_getElem? (i := 11) rfl)) (by decide +kernel) ⟨Nat.le_of_ble_eq_true rfl, Nat.le_of_ble_eq_true rfl⟩, rfl, (hts _ (List.mem_of_getElem? (i := 15) rfl))⟩ ⟨fun _ _ _ _ z9 => ⟨z9.1, trivial⟩, fun U hU hW => ⟨rfl, trivial⟩⟩ rfl rfl hl.1 rfl (lv_room (Nat.le_of_ble_eq_true rfl)) dX0_init_72 ⟨by show _ ≤ 38; omega, by show _ ≤ 354; omega⟩) ?_
          refine W.eq (g2 := F0 m 75 ls [.ref z, .int (nI i), .ref z2]) rfl ?_
          refine i_ast (r := (RX3, TX3, 10)) hx hb hK hP hS (κ := 8) (κ2 := 9 + i) (by omega) (by omega) ((eU_n _ _ (by omega)).trans ha1.2) (eU_s _ _ _) 4 6 ((eU_n _ _ (by omega)).trans he1) rfl (eU_s _ _ _) rfl i (by omega) (by decide) dX0_init_75 (fun H locs hP hS => ?_)
          refine lv_iinc (v := nI (i + 1)) (lv' := [(1, .int (nI (i + 1))), (0, .ref q)]) hx hb dX0_init_76 hl (k := 0) rfl (nI_1 _) (by decide) rfl (fun ls hl => ?_)
          refine lv_goto (tgt := 54) hx hb dX0_init_79 (by decide) ?_
          refine ih (i + 1) _ _ _ _ (by omega) (by omega) hP hS ((eU_n _ _ (by omega)).trans h0) ⟨(eU_n _ _ (by omega)).trans ha1.1, (eU_n _ _ (by omega)).trans ha1.2⟩ (fun k h1 h2 => ?_) ((eU_n _ _ (by omega)).trans ((eU_n _ _ (by omega)).trans he0)) ((eU_s _ _ _).trans ?_) (fun j hj => ?_) ?_ ?_ ls hl
          · by_cases hk : k = 9 + i
            · rw [hk, eU_s]; exact hz
            · rw [eU_n _ _ hk]; exact hfr k h1 (by omega)
          · congr 1; congr 1; congr 1; congr 1; congr 1; congr 1
            funext j
            exact i_row (base := 9) (ad := ad) (z := z) i j
          · rw [eU_n _ _ (by omega)]
            by_cases hk : j = i
            · subst hk; rw [eU_s]
            · rw [eU_n _ _ (by omega)]; exact het j (by omega)
          · rw [eU_n _ _ (by decide), eU_n _ _ (by omega), hk1]
            congr 1; congr 1; congr 1; congr 1; congr 1; congr 1
            funext j
            by_cases hj : j < 6
            · rw [if_pos hj, if_pos hj, eU_n _ _ (by omega)]
            · rw [if_neg hj, if_neg hj]
          · intro j hj; rw [eU_n _ _ (by omega), eU_n _ _ (by omega)]; exact hk2 j hj
    refine loop_54 31 0 _ _ _ _ (by omega) (by omega) hP hS ((eU_n _ _ (by decide)).trans h0) ⟨(eU_n _ _ (by decide)).trans ha1, eU_s _ _ _⟩ (fun k h1 h2 => ?_) ((eU_s _ _ _).trans (by rw [← ha1]; rfl)) ((eU_n _ _ (by decide)).trans ((eU_s _ _ _).trans rfl)) (fun j hj => absurd hj (Nat.not_lt_zero _)) ?_ (fun j hj => ?_) ls hl
    · by_cases hk : k = 8
      · subst hk; rw [eU_s]; exact hz2
      · rw [eU_n _ _ hk]; exact hfr k h1 (by omega)
    · rw [eU_n _ _ (by decide), eU_n _ _ (by decide), he1]
      congr 1; congr 1; congr 1; congr 1; congr 1; congr 1
      funext j
      by_cases hj : j < 6
      · rw [if_pos hj, if_pos hj, eU_n _ _ (by omega)]
      · rw [if_neg hj, if_neg hj]
    · rw [eU_n _ _ (by omega), eU_n _ _ (by omega)]; exact het j hj
  have loop_15 : ∀ (fu i : Nat) (ad : Nat → Nat) (E9 : Nat → va_E) (H : Heap) (locs : List Loc), i ≤ 6 → 6 - i < fu → iP D (iA q s.heap.size) ad (2 + i) E9 H → va_S (iA q s.heap.size) s.heap H locs → ad 0 = q → ad 1 = z1 →  (∀ k, 1 ≤ k → k < 2 + i → s.heap.size ≤ ad k) → E9 0 = .inr (3, [.ref z1, .null, .int 0, .int 0, .int 0, .int 0, .int 0]) → E9 1 = rA (cy 5) 6 (fun j => if j < i then some (ad (2 + j)) else none) → (∀ j, j < i → E9 (2 + j) = .inr (11, [.int 0, .int 0, .int 0])) → ∀ ls : Array Slot, lv_has ls 2 [(1, .int (nI i)), (0, .ref q)] → W p l e (headSpec wsX0_init ({ frames := 2, cells := 38, slots := 354, locals := 40 } : Room)).room s m (([.ref q] : List Value).toArray) below meth c H locs (1 + i) (6 + 3 * i) (MQ below (iQ D q 39 (Bh cy)) (([.ref q] : List Value).toArray) s 38 354 (iA q s.heap.size)) (F0 m 15 ls []) := by
    intro fu
    induction fu with
    | zero => intro i ad E9 H locs hle hlt hP hS h0 ha1  hfr he0 he1 het ls hl; exact absurd hlt (Nat.not_lt_zero _)
    | succ fu ih =>
      intro i ad E9 H locs hle hlt hP hS h0 ha1  hfr he0 he1 het ls hl
      refine lv_iload_n hx hb dX0_init_15 rfl (lv_at hl 0 rfl) ?_
      refine lv_aload_n hx hb dX0_init_16 rfl (lv_at hl 1 rfl) ?_
      refine i_get (C := RX0) (T := TX0) (N := 7) hx hb hts wi_X0_init_X0 hown hK hP (κ := 0) (by omega) h0 he0 rfl 0 (by decide) (hts _ (List.mem_of_getElem? (i := 5) rfl)) (fun _ h => h) rfl dX0_init_17 ?_
      refine i_alen hx hb hK hP (κ := 1) (by omega) ha1 5 he1 rfl (v := 6) rfl dX0_init_20 ?_
      refine lv_icmp_ge (tgt := 43) hx hb dX0_init_21 (by decide) (fun c_1 => ?_) (fun c_1 => ?_)
      · have hx_i : i = 6 := by have := (nI_leI (a := 6) (b := i) (by omega) (by omega)).mp c_1; omega
        subst hx_i
        exact tail_43 ad E9 H locs hP hS h0 ha1 hfr he0 he1 het ls hl
      · have hb_i : i < 6 := Nat.lt_of_not_le (fun z => c_1 (nI_le z (by omega)))
        refine lv_aload_n hx hb dX0_init_24 rfl (lv_at hl 1 rfl) ?_
        refine i_get (C := RX0) (T := TX0) (N := 7) hx hb hts wi_X0_init_X0 hown hK hP (κ := 0) (by omega) h0 he0 rfl 0 (by decide) (hts _ (List.mem_of_getElem? (i := 5) rfl)) (fun _ h => h) rfl dX0_init_25 ?_
        refine lv_iload_n hx hb dX0_init_28 rfl (lv_at hl 0 rfl) ?_
        refine i_new (fs := [.int 0, .int 0, .int 0]) (ci := 11) (C := RX8) (T := TX8) (N := 3) hx hb hts wi_X0_init_X8 tyX8 tyX8_ok hown (hts _ (List.mem_of_getElem? (i := 4) rfl)) (hts _ (List.mem_of_getElem? (i := 6) rfl)) (hts _ (List.mem_of_getElem? (i := 7) rfl)) hK hP hS hAs rfl (fun j hj => by rcases (show j = 0 ∨ j = 1 ∨ j = 2 by omega) with rfl | rfl | rfl <;> rfl) (by show _ ≤ 38; omega) (by show _ ≤ 354; omega) dX0_init_29 (fun z H hz hP hS hzl => ?_)
        refine lv_dup hx hb dX0_init_32 rfl ?_
        refine sp_callN (va_runIN (As := []) (rest := [.ref z, .int (nI i), .ref z1]) ⟨hx, hb, hml, hown, hts⟩ (c_X8_init l z) ⟨va_cnB 0 hts gX0_init_X8_init_n17 rfl rfl rfl (hIX.1 0 _ rfl) (hts _ (List.mem_of_getElem? (i := 7) rfl)) (by decide +kernel) ⟨Nat.le_of_ble_eq_true rfl, Nat.le_of_ble_eq_true rfl⟩, rfl, (hts _ (List.mem_of_getElem? (i := 12) rfl))⟩ ⟨fun _ _ _ _ z9 => ⟨z9.1, trivial⟩, fun U hU hW => ⟨rfl, trivial⟩⟩ rfl rfl hl.1 rfl (lv_room (Nat.le_of_ble_eq_true rfl)) dX0_init_33 ⟨by show _ ≤ 38; omega, by show _ ≤ 354; omega⟩) ?_
        refine W.eq (g2 := F0 m 36 ls [.ref z, .int (nI i), .ref z1]) rfl ?_
        refine i_ast (r := (RX8, TX8, 3)) hx hb hK hP hS (κ := 1) (κ2 := 2 + i) (by omega) (by omega) ((eU_n _ _ (by omega)).trans ha1) (eU_s _ _ _) 5 11 ((eU_n _ _ (by omega)).trans he1) rfl (eU_s _ _ _) rfl i (by omega) (by decide) dX0_init_36 (fun H locs hP hS => ?_)
        refine lv_iinc (v := nI (i + 1)) (lv' := [(1, .int (nI (i + 1))), (0, .ref q)]) hx hb dX0_init_37 hl (k := 0) rfl (nI_1 _) (by decide) rfl (fun ls hl => ?_)
        refine lv_goto (tgt := 15) hx hb dX0_init_40 (by decide) ?_
        refine ih (i + 1) _ _ _ _ (by omega) (by omega) hP hS ((eU_n _ _ (by omega)).trans h0) ((eU_n _ _ (by omega)).trans ha1) (fun k h1 h2 => ?_) ((eU_n _ _ (by omega)).trans ((eU_n _ _ (by omega)).trans he0)) ((eU_s _ _ _).trans ?_) (fun j hj => ?_) ls hl
        · by_cases hk : k = 2 + i
          · rw [hk, eU_s]; exact hz
          · rw [eU_n _ _ hk]; exact hfr k h1 (by omega)
        · congr 1; congr 1; congr 1; congr 1; congr 1; congr 1
          funext j
          exact i_row (base := 2) (ad := ad) (z := z) i j
        · rw [eU_n _ _ (by omega)]
          by_cases hk : j = i
          · subst hk; rw [eU_s]
          · rw [eU_n _ _ (by omega)]; exact het j (by omega)
  refine loop_15 7 0 _ _ _ _ (by omega) (by omega) hP hS rfl rfl (fun k h1 h2 => ?_) (eU_s _ _ _) rfl (fun j hj => absurd hj (Nat.not_lt_zero _)) ls hl
  rw [show k = 1 by omega]; exact hz1
