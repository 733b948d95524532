/-! THE LAW'S OWN METHODS: what they stand on -/
def LA9 (s0 : Nat) (ad : Nat → Nat) : Prop := sp_inj ad 459 ∧ ∀ k, k < 459 → s0 ≤ ad k
section LWA
variable {s : State} {H H1 : Heap} {locs : List Loc} {ad xq : Nat → Nat}
theorem lwEX (h0 : EX xq (fun q => s.heap.size ≤ q) s s.heap) (hA : LA9 s.heap.size ad) (hS : va_S (fun q => s.heap.size ≤ q) s.heap H locs) : EX xq (sp_A ad 459 H.size) s H := (h0.kept hS.2.1).narrow fun q z => z.elim (fun ⟨k, hk, e9⟩ => by rw [e9]; exact hA.2 k hk) (fun z => Nat.le_trans hS.1 z)
theorem lwAd (hA : LA9 s.heap.size ad) (hS : va_S (fun q => s.heap.size ≤ q) s.heap H locs) : ∀ q, sp_A ad 459 H.size q → s.heap.size ≤ q := fun q z => z.elim (fun ⟨k, hk, e9⟩ => by rw [e9]; exact hA.2 k hk) (fun z => Nat.le_trans hS.1 z)
theorem TXs.call {t w : Nat} {c0 : Nat → Nat} (h : TXs t w c0 (sp_A ad 459 H.size) s H) (hle : H.size ≤ H1.size) (hfr : ∀ q : Nat, q < H.size → ¬ sp_A ad 459 H.size q → H1[q]? = H[q]?) : TXs t w c0 (sp_A ad 459 H1.size) s H1 := (h.kept hfr).narrow fun q z => z.elim Or.inl (fun z => Or.inr (Nat.le_trans hle z))
theorem EX.lx {A : Nat → Prop} {U : State} (h : EX xq A U H) (i : Nat) {x : String × Nat × String} (hx : exS[i]? = some x) : vk_R x.1 x.2.1 x.2.2 (xq (30 + i)) U := h.2.2.2.2.1.2.1 i x hx
end LWA
section LDCW
variable {p : Program} {l : Launch} {e : Env} {R : Room} {s : State} {m : MethodId} {args : Array Value} {below : List Frame} {meth : Method} {c : Code} {H : Heap} {locs : List Loc} {cells slots : Nat} {Q : State → Prop}
variable {cc : ByteArray} {pc : Nat} {ls : Array Slot} {rest : List Value}
theorem lv_ldcwS (hexec : p.tables.exec = Jvm.exec) (hb : c.code = cc) {own tx : String} {index q : Nat} (hown : s.vm.findClass own = some m.cls) (hZ : vk_R own index tx q s) (hdg : decode cc pc = .ok (.ldc_w index, 3))
    (k : W p l e R s m args below meth c H locs cells slots Q (F0 m (pc + 3) ls (.ref q :: rest))) : W p l e R s m args below meth c H locs cells slots Q (F0 m pc ls rest) := by
  intro T hT X
  obtain ⟨t, a1, b1⟩ := k T hT X
  exact ⟨t, X.ldcStringW hexec (own := own) (text := tx) (index := index) (a := q) hown hZ.1 hZ.2 (g := F0 m pc ls rest) rfl (by rw [hb]; exact hdg) t a1, b1⟩
/-- two ways that come together with a value on the stack -/
theorem w_tern {P : Value → Prop} {J : Nat} {g : JFrame} (h : (∀ v, P v → W p l e R s m args below meth c H locs cells slots Q (F0 m J ls (v :: rest))) → W p l e R s m args below meth c H locs cells slots Q g) (k : ∀ v, P v → W p l e R s m args below meth c H locs cells slots Q (F0 m J ls (v :: rest))) : W p l e R s m args below meth c H locs cells slots Q g := h k
end LDCW
/-! numbers of the script -/
theorem div_nI {a b : Nat} (ha : a < 2 ^ 31) (hb : b < 2 ^ 31) : nI a / nI b = nI (a / b) := by
  apply Int32.toInt_inj.mp
  rw [Int32.toInt_div_of_ne_right _ _ (fun z => absurd (nI_pos' hb) (by rw [z]; decide)), nI_toInt ha, nI_toInt hb, nI_toInt (Nat.lt_of_le_of_lt (Nat.div_le_self a b) ha)]
  rfl
theorem rem_nI {a b : Nat} (ha : a < 2 ^ 31) (hb : b < 2 ^ 31) : nI a - nI a / nI b * nI b = nI (a % b) := by
  have h1 : a / b * b ≤ a := Nat.div_mul_le_self a b
  have h2 := Nat.mod_add_div a b
  have h3 : b * (a / b) = a / b * b := Nat.mul_comm _ _
  rw [div_nI ha hb, show nI (a / b) * nI b = nI (a / b * b) from nI_mulE (a := a / b) (b := b) rfl rfl, show nI a - nI (a / b * b) = nI (a - a / b * b) from nI_subE rfl rfl h1]
  rw [show a - a / b * b = a % b by omega]
theorem ush3 (y : Int32) : (y.toUInt32 >>> ((3 : Int32).toUInt32 &&& Int32.toUInt32 31)).toInt32 = nI (y.toUInt32.toNat / 8) := by
  have h1 : (3 : Int32).toUInt32 &&& Int32.toUInt32 31 = 3 := by decide
  have h2 : (y.toUInt32 >>> (3 : UInt32)).toNat = y.toUInt32.toNat / 8 := by
    rw [UInt32.toNat_shiftRight, Nat.shiftRight_eq_div_pow]; rfl
  rw [h1, ← h2]
  generalize y.toUInt32 >>> (3 : UInt32) = z
  apply Int32.toBitVec_inj.mp
  show z.toBitVec = BitVec.ofNat 32 z.toNat
  exact (BitVec.ofNat_toNat 32 z.toBitVec ▸ (BitVec.setWidth_eq z.toBitVec).symm)
def cl9 (L : Nat) (xs : Nat → Int32) (k : Nat) : Int32 := if k < L then xs k else 7919 * nI k + 12
def sv9 (L : Nat) (xs : Nat → Int32) (k m : Nat) : Nat := (cl9 L xs k).toUInt32.toNat / 8 % m
theorem sv_lt {L : Nat} {xs : Nat → Int32} {k m : Nat} (hm : 0 < m) : sv9 L xs k m < m := Nat.mod_lt _ hm
def cP (b L : Nat) (xs : Nat → Int32) (av : List Value) : Array Value → State → Prop := va_Pc av (fun U => va_X b L xs U U.heap ∧ b < U.heap.size)
theorem cP_blind {b L : Nat} {xs : Nat → Int32} {av : List Value} : FrameBlind (cP b L xs av) := fun a U g mk z => ⟨z.1, va_X.moved (u := U) (U := U.calling g mk a) (Vm.Alike.refl U.vm) z.2.1, z.2.2⟩
theorem cPre {b L : Nat} {xs : Nat → Int32} {s : State} {H : Heap} {locs : List Loc} {A : Nat → Prop} {As : List Value} (hX : va_X b L xs s s.heap) (hb : b < s.heap.size) (hbA : ¬ A b) (hS : va_S A s.heap H locs) : PreS s H (cP b L xs As) As := ⟨cP_blind, fun U hU hW => ⟨rfl, by rw [hU]; exact (hX.kept (hS.2.1 b hb hbA)).moved hW.alike, by rw [hU]; exact Nat.lt_of_lt_of_le hb hS.1⟩⟩
/-- a print by its order; -1 without any -/
def pA (f : Nat → Int32) (n q : Nat) : Int32 := if n = 0 then -1 else gP f (plD f n (q % n)) 0
section KER
variable {σ : Nat → Nat → Int32} {f : Nat → Int32} {B n t : Nat} {pi ro : Nat → Nat}
theorem VX.limk (h : VX f n t B) {k : Nat} (hk : k < n) : ∃ r, r < t ∧ gT f r = gP f k 1 ∧ m_lim f t k = gS f r := by
  obtain ⟨j, e, hj⟩ := h.track hk
  have h9 := (fstI_some e).2.1
  unfold mP_ft at h9
  exact ⟨j, hj, beq_iff_eq.mp h9, by unfold m_lim; rw [e]⟩
theorem dist_abs {j k : Nat} : iabs (gP f j 3 - gP f k 3) + iabs (gP f j 4 - gP f k 4) = m_dist f j (gP f k 3) (gP f k 4) := by
  unfold m_dist
  rw [m_size_abs, m_size_abs]
theorem err0 {j k : Nat} (hb : m_bes f n k false = some j) : m_err f n t k 0 = decide (m_lim f t k < m_dist f j (gP f k 3) (gP f k 4)) := by
  unfold m_err
  rw [hb]
  show (if (0 : Int32) = 0 then decide (m_lim f t k < m_stride f n k) else _) = _
  rw [if_pos rfl, m_stride_some hb]
theorem err1 {j k : Nat} (hb : m_bes f n k false = some j) : m_err f n t k 1 = (gP f k 5 == gP f j 5) := by
  unfold m_err
  rw [hb]
  show (if (1 : Int32) = 0 then _ else if (1 : Int32) = 1 then gP f k 5 == gP f j 5 else _) = _
  rw [if_neg (by decide), if_pos rfl]
theorem err2 {j k : Nat} (hb : m_bes f n k false = some j) : m_err f n t k 2 = decide (3 < m_size (gP f k 6 - gP f j 6)) := by
  unfold m_err
  rw [hb]
  show (if (2 : Int32) = 0 then _ else if (2 : Int32) = 1 then _ else decide (3 < m_size (gP f k 6 - gP f j 6))) = _
  rw [if_neg (by decide), if_neg (by decide)]
theorem eE_val {k : Nat} {x y z : Int32} (hx : x = if m_err f n t k 0 = true then 1 else 0) (hy : y = if m_err f n t k 1 = true then 2 else 0) (hz : z = if m_err f n t k 2 = true then 4 else 0) : x + y + z = nI (eE f n t k) := by
  unfold eE
  rw [hx, hy, hz]
  rcases m_err f n t k 0 with _ | _ <;> rcases m_err f n t k 1 with _ | _ <;> rcases m_err f n t k 2 with _ | _ <;> decide
end KER
/-- a call with the script and the world -/
def bP (xq ad : Nat → Nat) (D : va_G) (cy : Nat → ClassId) (sz b L : Nat) (xs : Nat → Int32) (av : List Value) (ws : va_W) : Array Value → State → Prop := va_Pc av (fun U => U.heap.size = sz ∧ va_P D vwCl ws U.heap ∧ va_K D vwCl (tyG cy) U ∧ EX xq (sp_A ad 459 U.heap.size) U U.heap ∧ va_X b L xs U U.heap ∧ b < U.heap.size ∧ ∀ k, k < 459 → ad k ≠ b)
theorem bP_blind {xq ad : Nat → Nat} {D : va_G} {cy : Nat → ClassId} {sz b L : Nat} {xs : Nat → Int32} {av : List Value} {ws : va_W} : FrameBlind (bP xq ad D cy sz b L xs av ws) := fun a U g mk z => ⟨z.1, z.2.1, z.2.2.1, va_K.moved (u := U) (U := U.calling g mk a) (Vm.Alike.refl U.vm) z.2.2.2.1, EX.same (u := U) (U := U.calling g mk a) rfl z.2.2.2.2.1, va_X.moved (u := U) (U := U.calling g mk a) (Vm.Alike.refl U.vm) z.2.2.2.2.2.1, z.2.2.2.2.2.2⟩
theorem bPre {xq ad : Nat → Nat} {D : va_G} {cy : Nat → ClassId} {b L : Nat} {xs : Nat → Int32} {s : State} {H : Heap} {locs : List Loc} {A : Nat → Prop} {As : List Value} {ws : va_W} (hK : va_K D vwCl (tyG cy) s) (hP : va_P D vwCl ws H) (hE : EX xq (sp_A ad 459 H.size) s H) (hX : va_X b L xs s s.heap) (hb : b < s.heap.size) (hbA : ¬ A b) (hS : va_S A s.heap H locs) (hb9 : ∀ k, k < 459 → ad k ≠ b) : PreS s H (bP xq ad D cy H.size b L xs As ws) As := ⟨bP_blind, fun U hU hW => ⟨rfl, by rw [hU], by rw [hU]; exact hP, va_K.moved hW.alike hK, by rw [hU]; exact hE.warm hW, by rw [hU]; exact (hX.kept (hS.2.1 b hb hbA)).moved hW.alike, by rw [hU]; exact Nat.lt_of_lt_of_le hb hS.1, hb9⟩⟩
/-- an end of a method without an answer that leaves some state of that kind -/
abbrev lV (D : va_G) (ad : Nat → Nat) (cy : Nat → ClassId) (B : Nat) (A : Nat → Prop) : Array Value → State → Outcome → State → Prop := tQ (fun r H9 => ∃ (pm1 : Nat → Nat) (rj1 : Option Nat) (σ1 : Nat → Nat → Int32), r = none ∧ GS B σ1 pm1 ∧ va_P D vwCl (cW ad cy pm1 rj1 σ1) H9) A
/-- a call with a text and the world -/
def lP (xq ad : Nat → Nat) (D : va_G) (cy : Nat → ClassId) (sz tx : Nat) (T : List Nat) (av : List Value) (ws : va_W) : Array Value → State → Prop := va_Pc av (fun U => U.heap.size = sz ∧ va_P D vwCl ws U.heap ∧ va_K D vwCl (tyG cy) U ∧ EX xq (sp_A ad 459 U.heap.size) U U.heap ∧ TXs tx T.length (fun j => T.getD j 0) (sp_A ad 459 U.heap.size) U U.heap)
theorem lP_blind {xq ad : Nat → Nat} {D : va_G} {cy : Nat → ClassId} {sz tx : Nat} {T : List Nat} {av : List Value} {ws : va_W} : FrameBlind (lP xq ad D cy sz tx T av ws) := fun a U g mk z => ⟨z.1, z.2.1, z.2.2.1, va_K.moved (u := U) (U := U.calling g mk a) (Vm.Alike.refl U.vm) z.2.2.2.1, EX.same (u := U) (U := U.calling g mk a) rfl z.2.2.2.2.1, TXs.moved (u := U) (U := U.calling g mk a) (Vm.Alike.refl U.vm) z.2.2.2.2.2⟩
theorem lPre {xq ad : Nat → Nat} {D : va_G} {cy : Nat → ClassId} {tx : Nat} {T : List Nat} {s : State} {H : Heap} {As : List Value} {ws : va_W} (hK : va_K D vwCl (tyG cy) s) (hP : va_P D vwCl ws H) (hE : EX xq (sp_A ad 459 H.size) s H) (hT : TXs tx T.length (fun j => T.getD j 0) (sp_A ad 459 H.size) s H) : PreS s H (lP xq ad D cy H.size tx T As ws) As := ⟨lP_blind, fun U hU hW => ⟨rfl, by rw [hU], by rw [hU]; exact hP, va_K.moved hW.alike hK, by rw [hU]; exact hE.warm hW, by rw [hU]; exact hT.moved hW.alike⟩⟩
section TXP
variable {xq ad : Nat → Nat} {D : va_G} {cy : Nat → ClassId} {s : State} {H : Heap} {locs : List Loc} {As : List Value} {tx w : Nat} {c0 : Nat → Nat}
/-- a call of a string's own method, from a method of the law -/
theorem tXV (hK : va_K D vwCl (tyG cy) s) (hE : EX xq (sp_A ad 459 s.heap.size) s s.heap) (hS : va_S (sp_A ad 459 s.heap.size) s.heap H locs) (hT : TXs tx w c0 (sp_A ad 459 H.size) s H) : PreV s H "java/lang/String" tx (tP xq D cy H.size (sp_A ad 459 H.size) (.ref tx :: As) [(tx, w, c0)] [] (fun _ => True)) As :=
  ⟨tP_blind, by
    obtain ⟨v, f, h1, -⟩ := hT
    obtain ⟨cell, q1, q2, q3, -⟩ := h1
    exact ⟨cell, q1, q2, q3⟩, fun U hU hW => ⟨rfl, by rw [hU], trivial, va_K.moved hW.alike hK, by rw [hU]; exact (hE.go hS).warm hW, fun x hx => by
      cases List.mem_singleton.mp hx
      rw [hU]; exact hT.moved hW.alike, tNo⟩⟩
end TXP
section WTWO
variable {p : Program} {l : Launch} {e : Env} {R : Room} {s : State} {m : MethodId} {args : Array Value} {below : List Frame} {meth : Method} {c : Code} {H : Heap} {locs : List Loc} {cells slots : Nat} {Q : State → Prop}
theorem w_two {g g1 : JFrame} (h : W p l e R s m args below meth c H locs cells slots Q g1 → W p l e R s m args below meth c H locs cells slots Q g) (k : W p l e R s m args below meth c H locs cells slots Q g1) : W p l e R s m args below meth c H locs cells slots Q g := h k
end WTWO
theorem pA_pos {f : Nat → Int32} {n q : Nat} (h : ¬ pA f n q < 0) : 0 < n ∧ pA f n q = gP f (plD f n (q % n)) 0 := by
  unfold pA at h ⊢
  by_cases e : n = 0
  · rw [if_pos e] at h; exact absurd (by decide) h
  · exact ⟨by omega, if_neg e⟩

set_option maxHeartbeats 4000000 in
set_option maxRecDepth 100000 in
theorem c_L_cell (l : Launch) (b L : Nat) (xs : Nat → Int32) (k : Nat) (hk : k < 2 ^ 31) (hL : L < 2 ^ 31) : Met l yL_cell wsL_cell ({ frames := 0, cells := 0, slots := 0, locals := 0 } : Room) (cP b L xs [.ref b, .int (nI k)]) (sp_S (some (.int (cl9 L xs k)))) 0 0 (fun _ => False) := by
  refine Met.ofW (cc := cL_cell) (maxL := 2) (ret := (some .int)) (by decide) rfl ?_
  intro p e s m args below meth c s₁ B9 hml hv
  obtain ⟨rfl, hX, hbl⟩ := hv
  have hx := B9.exec
  have hb := B9.bytes
  have hr := B9.returns
  have hts := atoms_spec (ws := wsL_cell) B9.pre
  have hown : s.vm.findClass RL = some m.cls := findClass_of_methodNamed B9.named
  have hlocks := B9.notSynchronized
  have hS : va_S (fun q : Nat => s.heap.size ≤ q) s.heap s.heap [] := va_S.rf
  have hbA : ¬ (fun q : Nat => s.heap.size ≤ q) b := Nat.not_le.mpr hbl
  have hl := lv_entry ([.ref b, .int (nI k)]) (n := 2) (Nat.le_of_ble_eq_true rfl)
  refine W.eq (lg_entry_eq _ ([.ref b, .int (nI k)]) _) ?_
  generalize (lg_sl ([.ref b, .int (nI k)]) ++ List.replicate (2 - (lg_sl ([.ref b, .int (nI k)])).length) Slot.unset).toArray = ls at hl ⊢
  have hl : lv_has ls 2 [(0, .ref b), (1, .int (nI k))] := hl
  refine lv_iload_n hx hb dL_cell_0 rfl (lv_at hl 1 rfl) ?_
  refine lv_aload_n hx hb dL_cell_1 rfl (lv_at hl 0 rfl) ?_
  refine va_slen hx hb hX hbl hbA hS dL_cell_2 ?_
  refine lv_icmp_ge (tgt := 12) hx hb dL_cell_3 (by decide) (fun c_1 => ?_) (fun c_1 => ?_)
  · skip
    refine lv_sipush (v := 7919) hx hb dL_cell_12 (by decide) ?_
    refine lv_iload_n hx hb dL_cell_15 rfl (lv_at hl 1 rfl) ?_
    refine lv_imul hx hb dL_cell_16 ?_
    refine lv_bipush (v := 12) hx hb dL_cell_17 (by decide) ?_
    refine lv_iadd hx hb dL_cell_19 ?_
    exact W.iret (v := 7919 * nI k + 12) hx hb hr (fun T9 hT9 _ => ⟨vRet (by unfold cl9; rw [if_neg (by have := (nI_leI (a := L) (b := k) (by omega) (by omega)).mp c_1; omega)]), hT9⟩) (fun _ h => by cases h) dL_cell_20
  · skip
    have hkl : k < L := Nat.lt_of_not_le (fun z => c_1 (nI_le z (by omega)))
    refine lv_aload_n hx hb dL_cell_6 rfl (lv_at hl 0 rfl) ?_
    refine lv_iload_n hx hb dL_cell_7 rfl (lv_at hl 1 rfl) ?_
    refine va_sld hx hb hX hbl hbA hS (i := nI k) (vp_in_nI hkl (by omega)) dL_cell_8 ?_
    refine lv_goto (tgt := 20) hx hb dL_cell_9 (by decide) ?_
    exact W.iret (v := xs (nI k).toNatClampNeg) hx hb hr (fun T9 hT9 _ => ⟨vRet (by unfold cl9; rw [if_pos hkl, nI_clamp (by omega)]), hT9⟩) (fun _ h => by cases h) dL_cell_20
set_option maxHeartbeats 4000000 in
set_option maxRecDepth 100000 in
theorem c_L_some (l : Launch) (b L : Nat) (xs : Nat → Int32) (k m9 : Nat) (hk : k < 2 ^ 31) (hL : L < 2 ^ 31) (hm0 : 0 < m9) (hm9 : m9 < 2 ^ 31) : Met l yL_some wsL_some ({ frames := 1, cells := 0, slots := 0, locals := 21 } : Room) (cP b L xs [.ref b, .int (nI k), .int (nI m9)]) (sp_S (some (.int (nI (sv9 L xs k m9))))) 0 0 (fun _ => False) := by
  refine Met.ofW (cc := cL_some) (maxL := 3) (ret := (some .int)) (by decide) rfl ?_
  intro p e s m args below meth c s₁ B9 hml hv
  obtain ⟨rfl, hX, hbl⟩ := hv
  have hx := B9.exec
  have hb := B9.bytes
  have hr := B9.returns
  have hts := atoms_spec (ws := wsL_some) B9.pre
  have hown : s.vm.findClass RL = some m.cls := findClass_of_methodNamed B9.named
  have hlocks := B9.notSynchronized
  have hS : va_S (fun q : Nat => s.heap.size ≤ q) s.heap s.heap [] := va_S.rf
  have hbA : ¬ (fun q : Nat => s.heap.size ≤ q) b := Nat.not_le.mpr hbl
  have hl := lv_entry ([.ref b, .int (nI k), .int (nI m9)]) (n := 3) (Nat.le_of_ble_eq_true rfl)
  refine W.eq (lg_entry_eq _ ([.ref b, .int (nI k), .int (nI m9)]) _) ?_
  generalize (lg_sl ([.ref b, .int (nI k), .int (nI m9)]) ++ List.replicate (3 - (lg_sl ([.ref b, .int (nI k), .int (nI m9)])).length) Slot.unset).toArray = ls at hl ⊢
  have hl : lv_has ls 3 [(0, .ref b), (1, .int (nI k)), (2, .int (nI m9))] := hl
  refine lv_aload_n hx hb dL_some_0 rfl (lv_at hl 0 rfl) ?_
  refine lv_iload_n hx hb dL_some_1 rfl (lv_at hl 1 rfl) ?_
  refine sp_call (W.runS (As := [.ref b, .int (nI k)]) (rest := []) ⟨hx, hb, hml, hown, hts⟩ (c_L_cell l b L xs k hk hL) (va_cwS 2 hts gL_some_L_cell rfl rfl rfl (by decide +kernel) ⟨Nat.le_of_ble_eq_true rfl, Nat.le_of_ble_eq_true rfl⟩) (cPre hX hbl hbA hS) rfl rfl hl.1 rfl (lv_room (Nat.le_of_ble_eq_true rfl)) dL_some_2 ⟨Nat.le_of_ble_eq_true rfl, Nat.le_of_ble_eq_true rfl⟩) ?_
  refine W.eq (g2 := F0 m 5 ls [.int (cl9 L xs k)]) rfl ?_
  refine lv_iconst (v := 3) hx hb dL_some_5 (by decide) ?_
  refine lv_iushr hx hb dL_some_6 (v := ((cl9 L xs k).toUInt32 >>> ((3 : Int32).toUInt32 &&& Int32.toUInt32 31)).toInt32) rfl ?_
  refine W.eq (g2 := F0 m 7 ls [.int (nI ((cl9 L xs k).toUInt32.toNat / 8))]) (by rw [ush3]) ?_
  have h29 : (cl9 L xs k).toUInt32.toNat / 8 < 2 ^ 31 := by have := (cl9 L xs k).toUInt32.toNat_lt; omega
  refine lv_iload_n hx hb dL_some_7 rfl (lv_at hl 2 rfl) ?_
  refine lv_irem hx hb dL_some_8 (fun z => by have := (nI_eq (a := m9) (b := 0) hm9 (by decide)).mp z; omega) ?_
  refine W.eq (g2 := F0 m 9 ls [.int (nI (sv9 L xs k m9))]) (by rw [rem_nI h29 hm9]; rfl) ?_
  exact W.iret (v := nI (sv9 L xs k m9)) hx hb hr (fun T9 hT9 _ => ⟨rfl, hT9⟩) (fun _ h => by cases h) dL_some_9
set_option maxHeartbeats 4000000 in
set_option maxRecDepth 100000 in
theorem k_L_print (l : Launch) (D : va_G) (ad : Nat → Nat) (cy : Nat → ClassId) (pm : Nat → Nat) (rj : Option Nat) (σ : Nat → Nat → Int32) (xq : Nat → Nat) (hst : l.stackTraces = false) (sz : Nat) (hi : sp_inj ad 459) {f : Nat → Int32} {B n t : Nat} {pi ro : Nat → Nat} (hbr : BR σ f B n t pi ro) (q : Nat) (hq : q < 2 ^ 31) : Met l yL_print wsL_print ({ frames := 7, cells := 1, slots := 6, locals := 115 } : Room) (sp_Pmx xq ad 459 D (tyG cy) sz [.ref (ad (429)), .int (nI q)] (cW ad cy pm rj σ)) (sp_Q D (some (.int (pA f n q))) (cW ad cy (pm) (rj) (σ)) (sp_A ad 459 sz)) 1 6 (sp_A ad 459 sz) := by
  refine Met.ofW (cc := cL_print) (maxL := 3) (ret := (some .int)) (by decide) rfl ?_
  intro p e s m args below meth c s₁ B9 hml hv
  obtain ⟨rfl, hsz, hP, hK, hE⟩ := hv
  have hx := B9.exec
  have hb := B9.bytes
  have hr := B9.returns
  have hts := atoms_spec (ws := wsL_print) B9.pre
  have hown : s.vm.findClass RL = some m.cls := findClass_of_methodNamed B9.named
  have hlocks := B9.notSynchronized
  subst hsz
  have hS : va_S (sp_A ad 459 s.heap.size) s.heap s.heap [] := va_S.rf
  have hl := lv_entry ([.ref (ad (429)), .int (nI q)]) (n := 3) (Nat.le_of_ble_eq_true rfl)
  refine W.eq (lg_entry_eq _ ([.ref (ad (429)), .int (nI q)]) _) ?_
  generalize (lg_sl ([.ref (ad (429)), .int (nI q)]) ++ List.replicate (3 - (lg_sl ([.ref (ad (429)), .int (nI q)])).length) Slot.unset).toArray = ls at hl ⊢
  have hl : lv_has ls 3 [(0, .ref (ad (429))), (1, .int (nI q))] := hl
  refine lv_aload_n hx hb dL_print_0 rfl (lv_at hl 0 rfl) ?_
  refine sp_call (W.runV (As := []) (rest := []) ⟨hx, hb, hml, hown, hts⟩ (k_totalPrints l D ad cy pm rj σ hbr ) (cwV 0 hts gL_print_X9_totalPrints rfl rfl rfl (by decide +kernel) ⟨Nat.le_of_ble_eq_true rfl, Nat.le_of_ble_eq_true rfl⟩) (sp_preV hK hP (κ := 429) (by decide) cE_sp rfl) rfl rfl hl.1 rfl (lv_room (Nat.le_of_ble_eq_true rfl)) dL_print_1 ⟨Nat.le_of_ble_eq_true rfl, Nat.le_of_ble_eq_true rfl⟩) ?_
  refine W.eq (g2 := F0 m 4 ls [.int (nI n)]) rfl ?_
  refine lv_istore_n (lv' := [(2, .int (nI n)), (0, .ref (ad (429))), (1, .int (nI q))]) hx hb dL_print_4 rfl hl (by decide) rfl (fun ls hl => ?_)
  refine lv_iload_n hx hb dL_print_5 rfl (lv_at hl 0 rfl) ?_
  refine lv_if_ne (tgt := 13) hx hb dL_print_6 (by decide) (fun c_1 => ?_) (fun c_1 => ?_)
  · skip
    have h30 := hbr.n30
    have hn0 : 0 < n := Nat.pos_of_ne_zero (fun z => c_1 (by rw [z]; rfl))
    refine lv_aload_n hx hb dL_print_13 rfl (lv_at hl 1 rfl) ?_
    refine lv_iload_n hx hb dL_print_14 rfl (lv_at hl 2 rfl) ?_
    refine lv_iload_n hx hb dL_print_15 rfl (lv_at hl 0 rfl) ?_
    refine lv_irem hx hb dL_print_16 (fun z => by have := (nI_eq (a := n) (b := 0) (by omega) (by decide)).mp z; omega) ?_
    refine W.eq (g2 := F0 m 17 ls [.int (nI (q % n)), .ref (ad (429))]) (by rw [rem_nI hq (by omega)]) ?_
    refine sp_callm (va_runV (As := [.int (nI (q % n))]) (rest := []) ⟨hx, hb, hml, hown, hts⟩ (k_printByDoubts l D ad cy pm rj σ xq hst _ hi hbr (Nat.mod_lt q hn0)) (cwV 1 hts gL_print_X9_printByDoubts rfl rfl rfl (by decide +kernel) ⟨Nat.le_of_ble_eq_true rfl, Nat.le_of_ble_eq_true rfl⟩) (sp_preVmx hK hP (hE.go hS) (κ := 429) (by decide) cE_sp rfl) rfl rfl hl.1 rfl (lv_room (Nat.le_of_ble_eq_true rfl)) dL_print_17 ⟨Nat.le_of_ble_eq_true rfl, Nat.le_of_ble_eq_true rfl⟩) hS (fun q h1 h2 => sp_Alt h1 h2) (sp_Ale hS.1) (fun H locs hP hle hfr hS => ?_)
    refine W.eq (g2 := F0 m 20 ls [.int (gP f (plD f n (q % n)) 0)]) rfl ?_
    exact W.iret (v := gP f (plD f n (q % n)) 0) hx hb hr (fun T9 hT9 _ => ⟨vRet (by unfold pA; rw [if_neg (by omega)]), by rw [hT9]; exact hP, hS.F hT9⟩) hS.2.2 dL_print_20
  · skip
    have hn0 : n = 0 := by have h30 := hbr.n30; exact (nI_eq (a := n) (b := 0) (by omega) (by decide)).mp c_1
    refine lv_iconst (v := (-1)) hx hb dL_print_9 (by decide) ?_
    refine lv_goto (tgt := 20) hx hb dL_print_10 (by decide) ?_
    refine W.widen (k := 1) (n := 6) (by omega) (by omega) ?_
    exact W.iret (v := -1) hx hb hr (fun T9 hT9 _ => ⟨vRet (by unfold pA; rw [if_pos hn0]), by rw [hT9]; exact hP, hS.F hT9⟩) hS.2.2 dL_print_20
set_option maxHeartbeats 4000000 in
set_option maxRecDepth 100000 in
theorem k_L_distance (l : Launch) (D : va_G) (ad : Nat → Nat) (cy : Nat → ClassId) (pm : Nat → Nat) (rj : Option Nat) (σ : Nat → Nat → Int32) (xq : Nat → Nat) (hst : l.stackTraces = false) (sz : Nat) (hi : sp_inj ad 459) {f : Nat → Int32} {B n t : Nat} {pi ro : Nat → Nat} (hbr : BR σ f B n t pi ro) {j k : Nat} (hj : j < n) (hk : k < n) : Met l yL_distance wsL_distance ({ frames := 8, cells := 4, slots := 24, locals := 133 } : Room) (sp_Pmx xq ad 459 D (tyG cy) sz [.ref (ad (429)), .int (gP f j 0), .int (gP f k 0)] (cW ad cy pm rj σ)) (sp_Q D (some (.int (m_dist f j (gP f k 3) (gP f k 4)))) (cW ad cy (pm) (rj) (σ)) (sp_A ad 459 sz)) 4 24 (sp_A ad 459 sz) := by
  refine Met.ofW (cc := cL_distance) (maxL := 3) (ret := (some .int)) (by decide) rfl ?_
  intro p e s m args below meth c s₁ B9 hml hv
  obtain ⟨rfl, hsz, hP, hK, hE⟩ := hv
  have hx := B9.exec
  have hb := B9.bytes
  have hr := B9.returns
  have hts := atoms_spec (ws := wsL_distance) B9.pre
  have hown : s.vm.findClass RL = some m.cls := findClass_of_methodNamed B9.named
  have hlocks := B9.notSynchronized
  subst hsz
  have hS : va_S (sp_A ad 459 s.heap.size) s.heap s.heap [] := va_S.rf
  have hl := lv_entry ([.ref (ad (429)), .int (gP f j 0), .int (gP f k 0)]) (n := 3) (Nat.le_of_ble_eq_true rfl)
  refine W.eq (lg_entry_eq _ ([.ref (ad (429)), .int (gP f j 0), .int (gP f k 0)]) _) ?_
  generalize (lg_sl ([.ref (ad (429)), .int (gP f j 0), .int (gP f k 0)]) ++ List.replicate (3 - (lg_sl ([.ref (ad (429)), .int (gP f j 0), .int (gP f k 0)])).length) Slot.unset).toArray = ls at hl ⊢
  have hl : lv_has ls 3 [(0, .ref (ad (429))), (1, .int (gP f j 0)), (2, .int (gP f k 0))] := hl
  refine lv_aload_n hx hb dL_distance_0 rfl (lv_at hl 0 rfl) ?_
  refine lv_iload_n hx hb dL_distance_1 rfl (lv_at hl 1 rfl) ?_
  refine sp_callm (va_runV (As := [.int (gP f j 0)]) (rest := []) ⟨hx, hb, hml, hown, hts⟩ (k_rowOf l D ad cy pm rj σ xq hst _ hi hbr hj) (cwV 1 hts gL_distance_X9_rowOf rfl rfl rfl (by decide +kernel) ⟨Nat.le_of_ble_eq_true rfl, Nat.le_of_ble_eq_true rfl⟩) (sp_preVmx hK hP (hE.go hS) (κ := 429) (by decide) cE_sp rfl) rfl rfl hl.1 rfl (lv_room (Nat.le_of_ble_eq_true rfl)) dL_distance_2 ⟨Nat.le_of_ble_eq_true rfl, Nat.le_of_ble_eq_true rfl⟩) hS (fun q h1 h2 => sp_Alt h1 h2) (sp_Ale hS.1) (fun H locs hP hle hfr hS => ?_)
  refine W.eq (g2 := F0 m 5 ls [.int (gP f j 3)]) rfl ?_
  refine lv_aload_n hx hb dL_distance_5 rfl (lv_at hl 0 rfl) ?_
  refine lv_iload_n hx hb dL_distance_6 rfl (lv_at hl 2 rfl) ?_
  refine sp_callm (va_runV (As := [.int (gP f k 0)]) (rest := [.int (gP f j 3)]) ⟨hx, hb, hml, hown, hts⟩ (k_rowOf l D ad cy pm rj σ xq hst _ hi hbr hk) (cwV 1 hts gL_distance_X9_rowOf rfl rfl rfl (by decide +kernel) ⟨Nat.le_of_ble_eq_true rfl, Nat.le_of_ble_eq_true rfl⟩) (sp_preVmx hK hP (hE.go hS) (κ := 429) (by decide) cE_sp rfl) rfl rfl hl.1 rfl (lv_room (Nat.le_of_ble_eq_true rfl)) dL_distance_7 ⟨Nat.le_of_ble_eq_true rfl, Nat.le_of_ble_eq_true rfl⟩) hS (fun q h1 h2 => sp_Alt h1 h2) (sp_Ale hS.1) (fun H locs hP hle hfr hS => ?_)
  refine W.eq (g2 := F0 m 10 ls [.int (gP f k 3), .int (gP f j 3)]) rfl ?_
  refine lv_isub hx hb dL_distance_10 ?_
  refine va_mabs hx hb (by rw [hml]; exact hl.1.symm) hown (hts _ (List.mem_of_getElem? (i := 1) rfl)) (hts _ (List.mem_of_getElem? (i := 2) rfl)) (hts _ (List.mem_of_getElem? (i := 3) rfl)) (hts _ (List.mem_of_getElem? (i := 4) rfl)) (Nat.le_of_ble_eq_true rfl) (Nat.le_of_ble_eq_true rfl) (Nat.le_of_ble_eq_true rfl) (Nat.le_of_ble_eq_true rfl) dL_distance_11 ?_
  refine W.eq (g2 := F0 m 14 ls [.int (iabs ((gP f j 3) - (gP f k 3)))]) rfl ?_
  refine lv_aload_n hx hb dL_distance_14 rfl (lv_at hl 0 rfl) ?_
  refine lv_iload_n hx hb dL_distance_15 rfl (lv_at hl 1 rfl) ?_
  refine sp_callm (va_runV (As := [.int (gP f j 0)]) (rest := [.int (iabs ((gP f j 3) - (gP f k 3)))]) ⟨hx, hb, hml, hown, hts⟩ (k_columnOf l D ad cy pm rj σ xq hst _ hi hbr hj) (cwV 1 hts gL_distance_X9_columnOf rfl rfl rfl (by decide +kernel) ⟨Nat.le_of_ble_eq_true rfl, Nat.le_of_ble_eq_true rfl⟩) (sp_preVmx hK hP (hE.go hS) (κ := 429) (by decide) cE_sp rfl) rfl rfl hl.1 rfl (lv_room (Nat.le_of_ble_eq_true rfl)) dL_distance_16 ⟨Nat.le_of_ble_eq_true rfl, Nat.le_of_ble_eq_true rfl⟩) hS (fun q h1 h2 => sp_Alt h1 h2) (sp_Ale hS.1) (fun H locs hP hle hfr hS => ?_)
  refine W.eq (g2 := F0 m 19 ls [.int (gP f j 4), .int (iabs ((gP f j 3) - (gP f k 3)))]) rfl ?_
  refine lv_aload_n hx hb dL_distance_19 rfl (lv_at hl 0 rfl) ?_
  refine lv_iload_n hx hb dL_distance_20 rfl (lv_at hl 2 rfl) ?_
  refine sp_callm (va_runV (As := [.int (gP f k 0)]) (rest := [.int (gP f j 4), .int (iabs ((gP f j 3) - (gP f k 3)))]) ⟨hx, hb, hml, hown, hts⟩ (k_columnOf l D ad cy pm rj σ xq hst _ hi hbr hk) (cwV 1 hts gL_distance_X9_columnOf rfl rfl rfl (by decide +kernel) ⟨Nat.le_of_ble_eq_true rfl, Nat.le_of_ble_eq_true rfl⟩) (sp_preVmx hK hP (hE.go hS) (κ := 429) (by decide) cE_sp rfl) rfl rfl hl.1 rfl (lv_room (Nat.le_of_ble_eq_true rfl)) dL_distance_21 ⟨Nat.le_of_ble_eq_true rfl, Nat.le_of_ble_eq_true rfl⟩) hS (fun q h1 h2 => sp_Alt h1 h2) (sp_Ale hS.1) (fun H locs hP hle hfr hS => ?_)
  refine W.eq (g2 := F0 m 24 ls [.int (gP f k 4), .int (gP f j 4), .int (iabs ((gP f j 3) - (gP f k 3)))]) rfl ?_
  refine lv_isub hx hb dL_distance_24 ?_
  refine va_mabs hx hb (by rw [hml]; exact hl.1.symm) hown (hts _ (List.mem_of_getElem? (i := 1) rfl)) (hts _ (List.mem_of_getElem? (i := 2) rfl)) (hts _ (List.mem_of_getElem? (i := 3) rfl)) (hts _ (List.mem_of_getElem? (i := 4) rfl)) (Nat.le_of_ble_eq_true rfl) (Nat.le_of_ble_eq_true rfl) (Nat.le_of_ble_eq_true rfl) (Nat.le_of_ble_eq_true rfl) dL_distance_25 ?_
  refine W.eq (g2 := F0 m 28 ls [.int (iabs ((gP f j 4) - (gP f k 4))), .int (iabs ((gP f j 3) - (gP f k 3)))]) rfl ?_
  refine lv_iadd hx hb dL_distance_28 ?_
  refine W.eq (g2 := F0 m 29 ls [.int (m_dist f j (gP f k 3) (gP f k 4))]) (by rw [← dist_abs]) ?_
  exact W.iret (v := m_dist f j (gP f k 3) (gP f k 4)) hx hb hr (fun T9 hT9 _ => ⟨rfl, by rw [hT9]; exact hP, hS.F hT9⟩) hS.2.2 dL_distance_29
set_option maxHeartbeats 4000000 in
set_option maxRecDepth 100000 in
theorem k_L_errors (l : Launch) (D : va_G) (ad : Nat → Nat) (cy : Nat → ClassId) (pm : Nat → Nat) (rj : Option Nat) (σ : Nat → Nat → Int32) (xq : Nat → Nat) (hst : l.stackTraces = false) (sz : Nat) (hi : sp_inj ad 459) {f : Nat → Int32} {B n t : Nat} {pi ro : Nat → Nat} (hbr : BR σ f B n t pi ro) {j k : Nat} (hj : j < n) (hk : k < n) (hbs : m_bes f n k false = some j) : Met l yL_errors wsL_errors ({ frames := 9, cells := 10, slots := 60, locals := 155 } : Room) (sp_Pmx xq ad 459 D (tyG cy) sz [.ref (ad (429)), .int (gP f j 0), .int (gP f k 0)] (cW ad cy pm rj σ)) (sp_Q D (some (.int (nI (eE f n t k)))) (cW ad cy (pm) (rj) (σ)) (sp_A ad 459 sz)) 10 60 (sp_A ad 459 sz) := by
  refine Met.ofW (cc := cL_errors) (maxL := 4) (ret := (some .int)) (by decide) rfl ?_
  intro p e s m args below meth c s₁ B9 hml hv
  obtain ⟨rfl, hsz, hP, hK, hE⟩ := hv
  have hx := B9.exec
  have hb := B9.bytes
  have hr := B9.returns
  have hts := atoms_spec (ws := wsL_errors) B9.pre
  have hown : s.vm.findClass RL = some m.cls := findClass_of_methodNamed B9.named
  have hlocks := B9.notSynchronized
  subst hsz
  have hS : va_S (sp_A ad 459 s.heap.size) s.heap s.heap [] := va_S.rf
  have hl := lv_entry ([.ref (ad (429)), .int (gP f j 0), .int (gP f k 0)]) (n := 4) (Nat.le_of_ble_eq_true rfl)
  refine W.eq (lg_entry_eq _ ([.ref (ad (429)), .int (gP f j 0), .int (gP f k 0)]) _) ?_
  generalize (lg_sl ([.ref (ad (429)), .int (gP f j 0), .int (gP f k 0)]) ++ List.replicate (4 - (lg_sl ([.ref (ad (429)), .int (gP f j 0), .int (gP f k 0)])).length) Slot.unset).toArray = ls at hl ⊢
  have hl : lv_has ls 4 [(0, .ref (ad (429))), (1, .int (gP f j 0)), (2, .int (gP f k 0))] := hl
  obtain ⟨r, hr9, er1, er2⟩ := hbr.vx.limk hk
  refine lv_aload_n hx hb dL_errors_0 rfl (lv_at hl 0 rfl) ?_
  refine lv_iload_n hx hb dL_errors_1 rfl (lv_at hl 1 rfl) ?_
  refine lv_iload_n hx hb dL_errors_2 rfl (lv_at hl 2 rfl) ?_
  refine sp_callm (va_runS (As := [.ref (ad (429)), .int (gP f j 0), .int (gP f k 0)]) (rest := []) ⟨hx, hb, hml, hown, hts⟩ (k_L_distance l D ad cy pm rj σ xq hst _ hi hbr hj hk) (va_cwS 3 hts gL_errors_L_distance rfl rfl rfl (by decide +kernel) ⟨Nat.le_of_ble_eq_true rfl, Nat.le_of_ble_eq_true rfl⟩) (sp_preSmx hK hP (hE.go hS)) rfl rfl hl.1 rfl (lv_room (Nat.le_of_ble_eq_true rfl)) dL_errors_3 ⟨Nat.le_of_ble_eq_true rfl, Nat.le_of_ble_eq_true rfl⟩) hS (fun q h1 h2 => sp_Alt h1 h2) (sp_Ale hS.1) (fun H locs hP hle hfr hS => ?_)
  refine W.eq (g2 := F0 m 6 ls [.int (m_dist f j (gP f k 3) (gP f k 4))]) rfl ?_
  refine lv_aload_n hx hb dL_errors_6 rfl (lv_at hl 0 rfl) ?_
  refine lv_aload_n hx hb dL_errors_7 rfl (lv_at hl 0 rfl) ?_
  refine lv_iload_n hx hb dL_errors_8 rfl (lv_at hl 2 rfl) ?_
  refine sp_callm (va_runV (As := [.int (gP f k 0)]) (rest := [.ref (ad (429)), .int (m_dist f j (gP f k 3) (gP f k 4))]) ⟨hx, hb, hml, hown, hts⟩ (k_trackOf l D ad cy pm rj σ xq hst _ hi hbr hk) (cwV 1 hts gL_errors_X9_trackOf rfl rfl rfl (by decide +kernel) ⟨Nat.le_of_ble_eq_true rfl, Nat.le_of_ble_eq_true rfl⟩) (sp_preVmx hK hP (hE.go hS) (κ := 429) (by decide) cE_sp rfl) rfl rfl hl.1 rfl (lv_room (Nat.le_of_ble_eq_true rfl)) dL_errors_9 ⟨Nat.le_of_ble_eq_true rfl, Nat.le_of_ble_eq_true rfl⟩) hS (fun q h1 h2 => sp_Alt h1 h2) (sp_Ale hS.1) (fun H locs hP hle hfr hS => ?_)
  refine W.eq (g2 := F0 m 12 ls [.int (gP f k 1), .ref (ad (429)), .int (m_dist f j (gP f k 3) (gP f k 4))]) rfl ?_
  refine W.eq (g2 := F0 m 12 ls [.int (gT f r), .ref (ad (429)), .int (m_dist f j (gP f k 3) (gP f k 4))]) (by rw [er1]) ?_
  refine sp_callm (va_runV (As := [.int (gT f r)]) (rest := [.int (m_dist f j (gP f k 3) (gP f k 4))]) ⟨hx, hb, hml, hown, hts⟩ (k_maxStride l D ad cy pm rj σ xq hst _ hi hbr hr9) (cwV 1 hts gL_errors_X9_maxStride rfl rfl rfl (by decide +kernel) ⟨Nat.le_of_ble_eq_true rfl, Nat.le_of_ble_eq_true rfl⟩) (sp_preVmx hK hP (hE.go hS) (κ := 429) (by decide) cE_sp rfl) rfl rfl hl.1 rfl (lv_room (Nat.le_of_ble_eq_true rfl)) dL_errors_12 ⟨Nat.le_of_ble_eq_true rfl, Nat.le_of_ble_eq_true rfl⟩) hS (fun q h1 h2 => sp_Alt h1 h2) (sp_Ale hS.1) (fun H locs hP hle hfr hS => ?_)
  refine W.eq (g2 := F0 m 15 ls [.int (gS f r), .int (m_dist f j (gP f k 3) (gP f k 4))]) rfl ?_
  refine w_tern (ls := ls) (rest := []) (P := fun v => v = .int (if m_err f n t k 0 = true then 1 else 0)) (J := 23) (fun K => ?_) (fun v hv => ?_)
  · skip
    refine lv_icmp_le (tgt := 22) hx hb dL_errors_15 (by decide) (fun c_1 => ?_) (fun c_1 => ?_)
    · skip
      refine lv_iconst (v := 0) hx hb dL_errors_22 (by decide) ?_
      exact K _ (by rw [if_neg (by rw [err0 hbs, er2, decide_eq_true_iff]; exact Int32.not_lt.mpr c_1)])
    · skip
      refine lv_iconst (v := 1) hx hb dL_errors_18 (by decide) ?_
      refine lv_goto (tgt := 23) hx hb dL_errors_19 (by decide) ?_
      exact K _ (by rw [if_pos (by rw [err0 hbs, er2, decide_eq_true_iff]; exact Int32.not_le.mp c_1)])
  · subst hv
    refine lv_istore_n (lv' := [(3, .int (if m_err f n t k 0 = true then 1 else 0)), (0, .ref (ad (429))), (1, .int (gP f j 0)), (2, .int (gP f k 0))]) hx hb dL_errors_23 rfl hl (by decide) rfl (fun ls hl => ?_)
    refine lv_iload_n hx hb dL_errors_24 rfl (lv_at hl 0 rfl) ?_
    refine lv_aload_n hx hb dL_errors_25 rfl (lv_at hl 1 rfl) ?_
    refine lv_iload_n hx hb dL_errors_26 rfl (lv_at hl 2 rfl) ?_
    refine sp_callm (va_runV (As := [.int (gP f j 0)]) (rest := [.int (if m_err f n t k 0 = true then 1 else 0)]) ⟨hx, hb, hml, hown, hts⟩ (k_isLeft l D ad cy pm rj σ xq hst _ hi hbr hj) (cwV 1 hts gL_errors_X9_isLeft rfl rfl rfl (by decide +kernel) ⟨Nat.le_of_ble_eq_true rfl, Nat.le_of_ble_eq_true rfl⟩) (sp_preVmx hK hP (hE.go hS) (κ := 429) (by decide) cE_sp rfl) rfl rfl hl.1 rfl (lv_room (Nat.le_of_ble_eq_true rfl)) dL_errors_27 ⟨Nat.le_of_ble_eq_true rfl, Nat.le_of_ble_eq_true rfl⟩) hS (fun q h1 h2 => sp_Alt h1 h2) (sp_Ale hS.1) (fun H locs hP hle hfr hS => ?_)
    refine W.eq (g2 := F0 m 30 ls [.int (gP f j 5), .int (if m_err f n t k 0 = true then 1 else 0)]) rfl ?_
    refine lv_aload_n hx hb dL_errors_30 rfl (lv_at hl 1 rfl) ?_
    refine lv_iload_n hx hb dL_errors_31 rfl (lv_at hl 3 rfl) ?_
    refine sp_callm (va_runV (As := [.int (gP f k 0)]) (rest := [.int (gP f j 5), .int (if m_err f n t k 0 = true then 1 else 0)]) ⟨hx, hb, hml, hown, hts⟩ (k_isLeft l D ad cy pm rj σ xq hst _ hi hbr hk) (cwV 1 hts gL_errors_X9_isLeft rfl rfl rfl (by decide +kernel) ⟨Nat.le_of_ble_eq_true rfl, Nat.le_of_ble_eq_true rfl⟩) (sp_preVmx hK hP (hE.go hS) (κ := 429) (by decide) cE_sp rfl) rfl rfl hl.1 rfl (lv_room (Nat.le_of_ble_eq_true rfl)) dL_errors_32 ⟨Nat.le_of_ble_eq_true rfl, Nat.le_of_ble_eq_true rfl⟩) hS (fun q h1 h2 => sp_Alt h1 h2) (sp_Ale hS.1) (fun H locs hP hle hfr hS => ?_)
    refine W.eq (g2 := F0 m 35 ls [.int (gP f k 5), .int (gP f j 5), .int (if m_err f n t k 0 = true then 1 else 0)]) rfl ?_
    refine w_tern (ls := ls) (rest := [.int (if m_err f n t k 0 = true then 1 else 0)]) (P := fun v => v = .int (if m_err f n t k 1 = true then 2 else 0)) (J := 43) (fun K => ?_) (fun v hv => ?_)
    · skip
      refine lv_icmp_ne (tgt := 42) hx hb dL_errors_35 (by decide) (fun c_2 => ?_) (fun c_2 => ?_)
      · skip
        refine lv_iconst (v := 0) hx hb dL_errors_42 (by decide) ?_
        exact K _ (by rw [if_neg (by rw [err1 hbs, beq_iff_eq]; exact fun z => c_2 z.symm)])
      · skip
        refine lv_iconst (v := 2) hx hb dL_errors_38 (by decide) ?_
        refine lv_goto (tgt := 43) hx hb dL_errors_39 (by decide) ?_
        exact K _ (by rw [if_pos (by rw [err1 hbs, beq_iff_eq]; exact c_2.symm)])
    · subst hv
      refine lv_iadd hx hb dL_errors_43 ?_
      refine lv_aload_n hx hb dL_errors_44 rfl (lv_at hl 1 rfl) ?_
      refine lv_iload_n hx hb dL_errors_45 rfl (lv_at hl 2 rfl) ?_
      refine sp_callm (va_runV (As := [.int (gP f j 0)]) (rest := [.int ((if m_err f n t k 0 = true then 1 else 0) + (if m_err f n t k 1 = true then 2 else 0))]) ⟨hx, hb, hml, hown, hts⟩ (k_depthOf l D ad cy pm rj σ xq hst _ hi hbr hj) (cwV 1 hts gL_errors_X9_depthOf rfl rfl rfl (by decide +kernel) ⟨Nat.le_of_ble_eq_true rfl, Nat.le_of_ble_eq_true rfl⟩) (sp_preVmx hK hP (hE.go hS) (κ := 429) (by decide) cE_sp rfl) rfl rfl hl.1 rfl (lv_room (Nat.le_of_ble_eq_true rfl)) dL_errors_46 ⟨Nat.le_of_ble_eq_true rfl, Nat.le_of_ble_eq_true rfl⟩) hS (fun q h1 h2 => sp_Alt h1 h2) (sp_Ale hS.1) (fun H locs hP hle hfr hS => ?_)
      refine W.eq (g2 := F0 m 49 ls [.int (gP f j 6), .int ((if m_err f n t k 0 = true then 1 else 0) + (if m_err f n t k 1 = true then 2 else 0))]) rfl ?_
      refine lv_aload_n hx hb dL_errors_49 rfl (lv_at hl 1 rfl) ?_
      refine lv_iload_n hx hb dL_errors_50 rfl (lv_at hl 3 rfl) ?_
      refine sp_callm (va_runV (As := [.int (gP f k 0)]) (rest := [.int (gP f j 6), .int ((if m_err f n t k 0 = true then 1 else 0) + (if m_err f n t k 1 = true then 2 else 0))]) ⟨hx, hb, hml, hown, hts⟩ (k_depthOf l D ad cy pm rj σ xq hst _ hi hbr hk) (cwV 1 hts gL_errors_X9_depthOf rfl rfl rfl (by decide +kernel) ⟨Nat.le_of_ble_eq_true rfl, Nat.le_of_ble_eq_true rfl⟩) (sp_preVmx hK hP (hE.go hS) (κ := 429) (by decide) cE_sp rfl) rfl rfl hl.1 rfl (lv_room (Nat.le_of_ble_eq_true rfl)) dL_errors_51 ⟨Nat.le_of_ble_eq_true rfl, Nat.le_of_ble_eq_true rfl⟩) hS (fun q h1 h2 => sp_Alt h1 h2) (sp_Ale hS.1) (fun H locs hP hle hfr hS => ?_)
      refine W.eq (g2 := F0 m 54 ls [.int (gP f k 6), .int (gP f j 6), .int ((if m_err f n t k 0 = true then 1 else 0) + (if m_err f n t k 1 = true then 2 else 0))]) rfl ?_
      refine lv_isub hx hb dL_errors_54 ?_
      refine va_mabs hx hb (by rw [hml]; exact hl.1.symm) hown (hts _ (List.mem_of_getElem? (i := 1) rfl)) (hts _ (List.mem_of_getElem? (i := 2) rfl)) (hts _ (List.mem_of_getElem? (i := 3) rfl)) (hts _ (List.mem_of_getElem? (i := 4) rfl)) (Nat.le_of_ble_eq_true rfl) (Nat.le_of_ble_eq_true rfl) (Nat.le_of_ble_eq_true rfl) (Nat.le_of_ble_eq_true rfl) dL_errors_55 ?_
      refine W.eq (g2 := F0 m 58 ls [.int (iabs ((gP f j 6) - (gP f k 6))), .int ((if m_err f n t k 0 = true then 1 else 0) + (if m_err f n t k 1 = true then 2 else 0))]) rfl ?_
      refine lv_iconst (v := 3) hx hb dL_errors_58 (by decide) ?_
      have hsy : iabs (gP f j 6 - gP f k 6) = m_size (gP f k 6 - gP f j 6) := by rw [m_size_abs, iabs_symm (hbr.vp hj).c9.2.2 (hbr.vp hk).c9.2.2]
      refine w_tern (ls := ls) (rest := [.int ((if m_err f n t k 0 = true then 1 else 0) + (if m_err f n t k 1 = true then 2 else 0))]) (P := fun v => v = .int (if m_err f n t k 2 = true then 4 else 0)) (J := 67) (fun K => ?_) (fun v hv => ?_)
      · skip
        refine lv_icmp_le (tgt := 66) hx hb dL_errors_59 (by decide) (fun c_3 => ?_) (fun c_3 => ?_)
        · skip
          refine lv_iconst (v := 0) hx hb dL_errors_66 (by decide) ?_
          exact K _ (by rw [if_neg (by rw [err2 hbs, ← hsy, decide_eq_true_iff]; exact Int32.not_lt.mpr c_3)])
        · skip
          refine lv_iconst (v := 4) hx hb dL_errors_62 (by decide) ?_
          refine lv_goto (tgt := 67) hx hb dL_errors_63 (by decide) ?_
          exact K _ (by rw [if_pos (by rw [err2 hbs, ← hsy, decide_eq_true_iff]; exact Int32.not_le.mp c_3)])
      · subst hv
        refine lv_iadd hx hb dL_errors_67 ?_
        refine W.eq (g2 := F0 m 68 ls [.int (nI (eE f n t k))]) (by rw [eE_val (f := f) (n := n) (t := t) (k := k) rfl rfl rfl]) ?_
        exact W.iret (v := nI (eE f n t k)) hx hb hr (fun T9 hT9 _ => ⟨rfl, by rw [hT9]; exact hP, hS.F hT9⟩) hS.2.2 dL_errors_68
set_option maxHeartbeats 4000000 in
set_option maxRecDepth 100000 in
theorem k_L_isLine (l : Launch) (D : va_G) (ad : Nat → Nat) (cy : Nat → ClassId) (pm : Nat → Nat) (rj : Option Nat) (σ : Nat → Nat → Int32) (xq : Nat → Nat) (hst : l.stackTraces = false) (sz : Nat) (hi : sp_inj ad 459) (tx : Nat) (T : List Nat) (hT9 : T.length ≤ 90) (ho : σ 436 1 = nI T.length) (hs : ∀ j, j < T.length → cz (σ 437 j) = nI (T.getD j 0)) : Met l yL_isLine wsL_isLine ({ frames := 7, cells := 90, slots := 540, locals := 111 } : Room) (lP xq ad D cy sz tx T [.ref (ad (429)), .int (nI T.length), .ref tx] (cW ad cy pm rj σ)) (sp_Q D (some (.int (1))) (cW ad cy (pm) (rj) (σ)) (sp_A ad 459 sz)) 90 540 (sp_A ad 459 sz) := by
  refine Met.ofW (cc := cL_isLine) (maxL := 4) (ret := (some .boolean)) (by decide) rfl ?_
  intro p e s m args below meth c s₁ B9 hml hv
  obtain ⟨rfl, hsz, hP, hK, hE, hTX⟩ := hv
  have hx := B9.exec
  have hb := B9.bytes
  have hr := B9.returns
  have hts := atoms_spec (ws := wsL_isLine) B9.pre
  have hown : s.vm.findClass RL = some m.cls := findClass_of_methodNamed B9.named
  have hlocks := B9.notSynchronized
  subst hsz
  have hS : va_S (sp_A ad 459 s.heap.size) s.heap s.heap [] := va_S.rf
  have hl := lv_entry ([.ref (ad (429)), .int (nI T.length), .ref tx]) (n := 4) (Nat.le_of_ble_eq_true rfl)
  refine W.eq (lg_entry_eq _ ([.ref (ad (429)), .int (nI T.length), .ref tx]) _) ?_
  generalize (lg_sl ([.ref (ad (429)), .int (nI T.length), .ref tx]) ++ List.replicate (4 - (lg_sl ([.ref (ad (429)), .int (nI T.length), .ref tx])).length) Slot.unset).toArray = ls at hl ⊢
  have hl : lv_has ls 4 [(0, .ref (ad (429))), (1, .int (nI T.length)), (2, .ref tx)] := hl
  refine lv_iload_n hx hb dL_isLine_0 rfl (lv_at hl 1 rfl) ?_
  refine lv_aload_n hx hb dL_isLine_1 rfl (lv_at hl 2 rfl) ?_
  refine sp_call (W.runV (As := []) (rest := [.int (nI T.length)]) ⟨hx, hb, hml, hown, hts⟩ (t_length l xq D cy _ (sp_A ad 459 s.heap.size) tx T.length (fun j => T.getD j 0)) (cwV 0 hts gL_isLine_J0_length_8abf5 rfl rfl rfl (by decide +kernel) ⟨Nat.le_of_ble_eq_true rfl, Nat.le_of_ble_eq_true rfl⟩) (tXV hK hE hS hTX) rfl rfl hl.1 rfl (lv_room (Nat.le_of_ble_eq_true rfl)) dL_isLine_2 ⟨by show _ ≤ 90; omega, by show _ ≤ 540; omega⟩) ?_
  refine W.eq (g2 := F0 m 5 ls [.int (nI T.length), .int (nI T.length)]) rfl ?_
  refine lv_icmp_eq (tgt := 10) hx hb dL_isLine_5 (by decide) (fun c_1 => ?_) (fun c_1 => absurd rfl c_1)
  refine lv_iconst (v := 0) hx hb dL_isLine_10 (by decide) ?_
  refine lv_istore_n (lv' := [(3, .int (0)), (0, .ref (ad (429))), (1, .int (nI T.length)), (2, .ref tx)]) hx hb dL_isLine_11 rfl hl (by decide) rfl (fun ls hl => ?_)
  have loop : ∀ (fu i : Nat), i ≤ T.length → T.length - i < fu → ∀ (H : Heap) (locs : List Loc) (ls : Array Slot), va_P D vwCl (cW ad cy pm rj σ) H → va_S (sp_A ad 459 s.heap.size) s.heap H locs → TXs tx T.length (fun j => T.getD j 0) (sp_A ad 459 H.size) s H → lv_has ls 4 [(3, .int (nI i)), (0, .ref (ad (429))), (1, .int (nI T.length)), (2, .ref tx)] → W p l e (headSpec wsL_isLine ({ frames := 7, cells := 90, slots := 540, locals := 111 } : Room)).room s m ([.ref (ad (429)), .int (nI T.length), .ref tx] : List Value).toArray below meth c H locs (1 * i) (6 * i) (MQ below (sp_Q D (some (.int (1))) (cW ad cy (pm) (rj) (σ)) (sp_A ad 459 s.heap.size)) ([.ref (ad (429)), .int (nI T.length), .ref tx] : List Value).toArray s 90 540 (sp_A ad 459 s.heap.size)) (F0 m 12 ls []) := by
    intro fu
    induction fu with
    | zero => intro i _ h; exact absurd h (Nat.not_lt_zero _)
    | succ fu ih =>
      intro i hi9 hfu H locs ls hP hS hTX hl
      refine lv_iload_n hx hb dL_isLine_12 rfl (lv_at hl 0 rfl) ?_
      refine lv_iload_n hx hb dL_isLine_13 rfl (lv_at hl 2 rfl) ?_
      refine lv_icmp_ge (tgt := 38) hx hb dL_isLine_14 (by decide) (fun c_1 => ?_) (fun c_1 => ?_)
      · skip
        refine lv_iconst (v := 1) hx hb dL_isLine_38 (by decide) ?_
        refine W.widen (k := 90) (n := 540) (by omega) (by omega) ?_
        exact W.zret (v := 1) hx hb hr (by decide) (fun T9 hT9 _ => ⟨rfl, by rw [hT9]; exact hP, hS.F hT9⟩) hS.2.2 dL_isLine_39
      · skip
        have hil : i < T.length := Nat.lt_of_not_le (fun z => c_1 (nI_le z (by omega)))
        refine lv_aload_n hx hb dL_isLine_17 rfl (lv_at hl 1 rfl) ?_
        refine lv_iload_n hx hb dL_isLine_18 rfl (lv_at hl 0 rfl) ?_
        refine sp_callm (va_runV (As := [.int (nI i)]) (rest := []) ⟨hx, hb, hml, hown, hts⟩ (k_outputAt l D ad cy pm rj σ xq hst _ hi ho hT9 hil) (cwV 1 hts gL_isLine_X9_outputAt rfl rfl rfl (by decide +kernel) ⟨Nat.le_of_ble_eq_true rfl, Nat.le_of_ble_eq_true rfl⟩) (sp_preVmx hK hP (hE.go hS) (κ := 429) (by decide) cE_sp rfl) rfl rfl hl.1 rfl (lv_room (Nat.le_of_ble_eq_true rfl)) dL_isLine_19 ⟨by show _ ≤ 90; omega, by show _ ≤ 540; omega⟩) hS (fun q h1 h2 => sp_Alt h1 h2) (sp_Ale hS.1) (fun H locs hP hle hfr hS => ?_)
        have hTX := hTX.call hle hfr
        refine W.eq (g2 := F0 m 22 ls [.int (cz (σ 437 i))]) rfl ?_
        refine lv_aload_n hx hb dL_isLine_22 rfl (lv_at hl 3 rfl) ?_
        refine lv_iload_n hx hb dL_isLine_23 rfl (lv_at hl 0 rfl) ?_
        refine W.eq (g2 := F0 m 24 ls [.int (nI i), .ref tx, .int (nI (T.getD i 0))]) (by rw [hs i hil]) ?_
        refine sp_call (W.runV (As := [.int (nI i)]) (rest := [.int (nI (T.getD i 0))]) ⟨hx, hb, hml, hown, hts⟩ (t_charAt l xq D cy _ (sp_A ad 459 H.size) tx T.length (fun j => T.getD j 0) i hil) (cwV 1 hts gL_isLine_J0_charAt_5068e rfl rfl rfl (by decide +kernel) ⟨Nat.le_of_ble_eq_true rfl, Nat.le_of_ble_eq_true rfl⟩) (tXV hK hE hS hTX) rfl rfl hl.1 rfl (lv_room (Nat.le_of_ble_eq_true rfl)) dL_isLine_24 ⟨by show _ ≤ 90; omega, by show _ ≤ 540; omega⟩) ?_
        refine W.eq (g2 := F0 m 27 ls [.int (nI (T.getD i 0)), .int (nI (T.getD i 0))]) rfl ?_
        refine lv_icmp_eq (tgt := 32) hx hb dL_isLine_27 (by decide) (fun c_3 => ?_) (fun c_3 => absurd rfl c_3)
        refine lv_iinc (v := nI (i + 1)) (lv' := [(3, .int (nI (i + 1))), (0, .ref (ad (429))), (1, .int (nI T.length)), (2, .ref tx)]) hx hb dL_isLine_32 hl (k := 0) rfl (nI_1 _) (by decide) rfl (fun ls hl => ?_)
        refine lv_goto (tgt := 12) hx hb dL_isLine_35 (by decide) ?_
        refine W.widen (k := 1 * (i + 1)) (n := 6 * (i + 1)) (by omega) (by omega) ?_
        exact ih (i + 1) (by omega) (by omega) H locs ls hP hS hTX (lv_sub hl [0, 1, 2, 3] rfl)
  exact loop (T.length + 1) 0 (by omega) (by omega) s.heap [] ls hP hS hTX hl
