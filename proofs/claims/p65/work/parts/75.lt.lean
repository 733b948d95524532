/-! TEXTS IN THE LAW'S OWN BODY -/
def exN9 : List (List Nat) := [[], [76], [82], [63], [33], [126], [46]]
theorem exN9_len : ∀ i, i < 7 → exL.getD i 0 = (exN9.getD i []).length := by decide +kernel
theorem exN9_let : ∀ i, i < 7 → ∀ j, j < (exN9.getD i []).length → (exN9.getD i []).getD j 0 < 256 ∧ (exB.getD i []).getD j 0 = sb_b ((exN9.getD i []).getD j 0) := by decide +kernel
theorem exB_fit : ∀ i, i < 7 → ∀ j, j < 2 → fits .byte (.int ((exB.getD i []).getD j 0)) = true := by decide +kernel
theorem exB_len : ∀ i, i < 7 → (exB.getD i []).length ≤ 2 := by decide +kernel
theorem EX.tx {q : Nat → Nat} {A : Nat → Prop} {U : State} {H : Heap} (h : EX q A U H) {i : Nat} (hi : i < 7) : TXs (q (30 + i)) (exN9.getD i []).length (fun j => (exN9.getD i []).getD j 0) A U H := by
  obtain ⟨k1, k2, k3, k4⟩ := h.2.2.2.2.1.2.2.1.1 i hi
  rw [exN9_len i hi] at k4
  refine ⟨q (100 + i), fun j => (exB.getD i []).getD j 0, k1, k2, k3, k4, exN9_let i hi, fun j => ?_, ?_⟩
  · by_cases hj : j < 2
    · exact exB_fit i hi j hj
    · have h9 := exB_len i hi
      have e9 : (exB.getD i []).getD j 0 = 0 := by rw [List.getD_eq_getElem?_getD, List.getElem?_eq_none (by omega)]; rfl
      show fits .byte (.int ((exB.getD i []).getD j 0)) = true
      rw [e9]; decide +kernel
  · rcases (show i = 0 ∨ i = 1 ∨ i = 2 ∨ i = 3 ∨ i = 4 ∨ i = 5 ∨ i = 6 by omega) with rfl | rfl | rfl | rfl | rfl | rfl | rfl <;> decide
/-- a string that the builder has made -/
theorem TXs.made {xq : Nat → Nat} {A0 A : Nat → Prop} {s : State} {H0 H : Heap} {D : va_G} {cy : Nat → ClassId} {y z n : Nat} {a1 : Nat → Int32} {c1 : Nat → Nat} (hE : EX xq A0 s H0) (hK : va_K D vwCl (tyG cy) s) (h1 : va_at D vwCl (y, (.inr (0, [.ref z, .int 0, .int 0, .int 0]) : va_E)) H) (h2 : va_at D vwCl (z, (.inl (cy 1, n, .inl a1) : va_E)) H) (hy : ¬ A y) (hz : ¬ A z) (hL : sb_Lat c1 n a1) (hF : sb_Fit a1) (hn : n ≤ 65536) : TXs y n c1 A s H := by
  obtain ⟨-, k2, k3, -⟩ := hE.2.2.2.2.1.2.2.1.1 0 (by decide)
  obtain ⟨cf2, kk2, fi2, f2, -, e2, st2, -⟩ := k2
  obtain ⟨cf3, kk3, fi3, f3, -, e3, st3, -⟩ := k3
  obtain ⟨r, hr, cell, q1, q2, q3, q4⟩ := h1
  cases hr
  obtain ⟨sl, hcl⟩ := hK.1 0 (RJ0, TJ0, 4) rfl
  obtain ⟨a3, b3, c3, d3, g3, w3⟩ := sl 0 (by decide)
  obtain ⟨a2, b2, c2, d2, g2, w2⟩ := sl 1 (by decide)
  have u3 : d3 = f3 := by
    have h9 := g3.symm.trans e3
    simp only [Option.some.injEq, Prod.mk.injEq] at h9
    exact h9.2.2.2
  have u2 : d2 = f2 := by
    have h9 := g2.symm.trans e2
    simp only [Option.some.injEq, Prod.mk.injEq] at h9
    exact h9.2.2.2
  have v3 := q4 0 (by decide)
  have v2 := q4 1 (by decide)
  rw [← w3, u3] at v3
  rw [← w2, u2] at v2
  refine ⟨z, a1, ⟨cell, q1, by rw [q3]; rfl, by rw [q2]; exact hcl.1, hy⟩, ⟨cf2, kk2, fi2, f2, cell, e2, st2, q1, by (rw [q3]; exact (fun w => by cases w)), v2, hy⟩, ⟨cf3, kk3, fi3, f3, cell, e3, st3, q1, by (rw [q3]; exact (fun w => by cases w)), v3, hy⟩, ?_, hL, hF, hn⟩
  refine ⟨vp_cell (cy 1) (n, .inl a1), h2, (hK.2 1 (cy 1, .byte) rfl).1 n (fun j => .int (a1 j)), (fun w => by cases w), ?_, ?_, fun j hj => ?_, hz⟩
  · show n ≤ (Array.ofFn (n := n) fun j => Value.int (a1 j.val)).size
    exact Nat.le_of_eq Array.size_ofFn.symm
  · show (Array.ofFn (n := n) fun j => Value.int (a1 j.val)).size.toInt32 = Int32.ofNat n
    rw [Array.size_ofFn]
  · show (Array.ofFn (n := n) fun j => Value.int (a1 j.val))[j]? = some (.int (a1 j))
    rw [Array.getElem?_ofFn, dif_pos hj]
/-- the builder at q with its bytes at v holds these letters; it came after z0 -/
def BT (D : va_G) (cy : Nat → ClassId) (z0 q v : Nat) (T : List Nat) (H : Heap) : Prop := ∃ (u : Nat) (a : Nat → Int32), sbAt D cy q v u T.length a H ∧ T.length ≤ u ∧ u ≤ 202 ∧ sb_Fit a ∧ sb_Lat (fun j => T.getD j 0) T.length a ∧ z0 ≤ q ∧ z0 ≤ v ∧ z0 ≤ H.size
theorem BT.lt {D : va_G} {cy : Nat → ClassId} {z0 q v : Nat} {T : List Nat} {H : Heap} (h : BT D cy z0 q v T H) : q < H.size ∧ v < H.size ∧ z0 ≤ q ∧ z0 ≤ v := by
  obtain ⟨u, a, h1, -, -, -, -, h2, h3, -⟩ := h
  exact ⟨h1.2.1.lt, h1.2.2.lt, h2, h3⟩
theorem BT.kept {D : va_G} {cy : Nat → ClassId} {z0 q v : Nat} {T : List Nat} {H H1 : Heap} (h : BT D cy z0 q v T H) (hle : H.size ≤ H1.size) (hq : H1[q]? = H[q]?) (hv : H1[v]? = H[v]?) : BT D cy z0 q v T H1 := by
  obtain ⟨u, a, h1, h2, h3, h4, h5, h6, h7, h8⟩ := h
  exact ⟨u, a, ⟨h1.1, h1.2.1.kept hq, h1.2.2.kept hv⟩, h2, h3, h4, h5, h6, h7, Nat.le_trans h8 hle⟩
theorem BT.call {D : va_G} {cy : Nat → ClassId} {ad : Nat → Nat} {z0 q v : Nat} {T : List Nat} {H H1 : Heap} (h : BT D cy z0 q v T H) (hfr : ∀ x : Nat, x < H.size → ¬ sp_A ad 459 H.size x → H1[x]? = H[x]?) (hle : H.size ≤ H1.size) (had : ∀ k, k < 459 → ad k < z0) : BT D cy z0 q v T H1 := by
  obtain ⟨g1, g2, g3, g4⟩ := h.lt
  exact h.kept hle (hfr q g1 fun z => z.elim (fun ⟨k, hk, e9⟩ => by have := had k hk; omega) (fun z => by omega)) (hfr v g2 fun z => z.elim (fun ⟨k, hk, e9⟩ => by have := had k hk; omega) (fun z => by omega))
theorem cat_Lat {T M : List Nat} {a : Nat → Int32} (h : sb_Lat (sb_cat (fun j => T.getD j 0) T.length (fun j => M.getD j 0)) (T.length + M.length) a) : sb_Lat (fun j => (T ++ M).getD j 0) (T ++ M).length a := fun j hj => by
  rw [List.length_append] at hj
  obtain ⟨h1, h2⟩ := h j hj
  have e9 : (T ++ M).getD j 0 = sb_cat (fun j => T.getD j 0) T.length (fun j => M.getD j 0) j := by
    unfold sb_cat
    by_cases q : j < T.length
    · rw [if_pos q, List.getD_eq_getElem?_getD, List.getElem?_append_left q]
      show _ = T.getD j 0
      rw [List.getD_eq_getElem?_getD]
    · rw [if_neg q, List.getD_eq_getElem?_getD, List.getElem?_append_right (Nat.le_of_not_lt q)]
      show _ = M.getD (j - T.length) 0
      rw [List.getD_eq_getElem?_getD]
  show (T ++ M).getD j 0 < 256 ∧ a j = sb_b ((T ++ M).getD j 0)
  rw [e9]
  exact ⟨h1, h2⟩
/-- what the law's body goes on from -/
def LE (p : Program) (l : Launch) (s : State) (m : MethodId) (c : Code) (args : Array Value) (b L : Nat) (xs : Nat → Int32) (D : va_G) (cy : Nat → ClassId) (xq : Nat → Nat) : Prop := p.tables.exec = Jvm.exec ∧ c.code = cL_law ∧ c.maxLocals = 21 ∧ s.vm.findClass RL = some m.cls ∧ (∀ w ∈ wsL_law, w.before args s = true) ∧ (∀ w ∈ lw_tbl, w.before args s = true) ∧ va_X b L xs s s.heap ∧ b < s.heap.size ∧ l.stackTraces = false ∧ va_K D vwCl (tyG cy) s ∧ EX xq (fun q => s.heap.size ≤ q) s s.heap ∧ L ≤ 260
section LTS
variable {p : Program} {l : Launch} {e : Env} {s : State} {m : MethodId} {args : Array Value} {below : List Frame} {meth : Method} {c : Code} {Q : State → Prop} {b L : Nat} {xs : Nat → Int32} {D : va_G} {cy : Nat → ClassId} {xq ad : Nat → Nat} {H : Heap} {locs : List Loc} {cells slots : Nat} {ls : Array Slot} {pc : Nat} {rest : List Value} {z0 q v t d : Nat} {T M : List Nat}
theorem t_pre {As : List Value} {Z : Heap → Prop} {Tx : List (Nat × Nat × (Nat → Nat))} {A9 : Nat → Prop} (hK : va_K D vwCl (tyG cy) s) (hE : EX xq A9 s H) (hZ : Z H) (hT : ∀ x ∈ Tx, TXs x.1 x.2.1 x.2.2 A9 s H) : PreS s H (tP xq D cy H.size A9 As Tx [] Z) As :=
  ⟨tP_blind, fun U hU hW => ⟨rfl, by rw [hU], by rw [hU]; exact hZ, va_K.moved hW.alike hK, by rw [hU]; exact hE.warm hW, fun x hx => by rw [hU]; exact (hT x hx).moved hW.alike, tNo⟩⟩
theorem t_preV {C : String} {b9 : Nat} {As : List Value} {Z : Heap → Prop} {Tx : List (Nat × Nat × (Nat → Nat))} {A9 : Nat → Prop} (hK : va_K D vwCl (tyG cy) s) (hE : EX xq A9 s H) (hr : ∃ cell : Cell, H[b9]? = some cell ∧ cell.vm.isStatics = false ∧ s.vm.findClass C = some cell.cls) (hZ : Z H) (hT : ∀ x ∈ Tx, TXs x.1 x.2.1 x.2.2 A9 s H) : PreV s H C b9 (tP xq D cy H.size A9 (.ref b9 :: As) Tx [] Z) As :=
  ⟨tP_blind, hr, fun U hU hW => ⟨rfl, by rw [hU], by rw [hU]; exact hZ, va_K.moved hW.alike hK, by rw [hU]; exact hE.warm hW, fun x hx => by rw [hU]; exact (hT x hx).moved hW.alike, tNo⟩⟩
theorem lt_ex (h0 : EX xq (fun q => s.heap.size ≤ q) s s.heap) (hS : va_S (fun q => s.heap.size ≤ q) s.heap H locs) (hq : s.heap.size ≤ q) (hv : s.heap.size ≤ v) : EX xq (sA q v H.size) s H := (h0.kept hS.2.1).narrow fun x z => z.elim (fun z => by rw [z]; exact hq) (fun z => z.elim (fun z => by rw [z]; exact hv) (fun z => Nat.le_trans hS.1 z))
/-- a new builder -/
theorem lt_new (E0 : LE p l s m c args b L xs D cy xq) (h1 : decode cL_law pc = .ok (.new 205, 3)) (h2 : decode cL_law (pc + 3) = .ok (.dup, 1)) (h3 : decode cL_law (pc + 4) = .ok (.invokespecial 207, 3)) (hls : ls.size = 21) (hS : va_S (fun q => s.heap.size ≤ q) s.heap H locs) (hr : (rest.map fun v => v.category).sum ≤ 6) (hc : cells + 2 ≤ 752875) (hs : slots + 20 ≤ 6835470)
    (kk : ∀ (q v : Nat) (H1 : Heap) (locs1 : List Loc), BT D cy H.size q v [] H1 → (∀ x : Nat, x < H.size → H1[x]? = H[x]?) → H.size ≤ H1.size → va_S (fun q => s.heap.size ≤ q) s.heap H1 locs1 → W p l e room_1 s m args below meth c H1 locs1 (cells + 1 + 1) (slots + 4 + 16) Q (F0 m (pc + 7) ls (.ref q :: rest))) : W p l e room_1 s m args below meth c H locs cells slots Q (F0 m pc ls rest) := by
  obtain ⟨hx, hb, hml, hown, hts, htb, hX, hbl, hst, hK, hE0, hL⟩ := E0
  have hS0 := hS.1
  refine sp_new (fs := [.null, .int 0, .int 0, .int 0]) (ci := 1) (C := RJ4) (T := TJ4) (N := 4) hx hb htb inJ4 tyJ4 tyJ4_ok hown (hts _ (il_wsL_law0_r1 _ (List.mem_of_getElem? (i := 3) rfl))) (hts _ (il_wsL_law0_r1 _ (List.mem_of_getElem? (i := 4) rfl))) (hts _ (il_wsL_law0_r1 _ (List.mem_of_getElem? (i := 5) rfl))) hK hS rfl (fun j hj => by rcases (show j = 0 ∨ j = 1 ∨ j = 2 ∨ j = 3 by omega) with rfl | rfl | rfl | rfl <;> rfl) (by show _ ≤ 752875; omega) (by show _ ≤ 6835470; omega) h1 (fun q H1 hq0 hq1 hk hat hS => ?_)
  refine lv_dup hx hb h2 rfl ?_
  have hsz : s.heap.size ≤ q := by rw [hq0]; exact hS0
  have hE1 : EX xq (iA q H1.size) s H1 := (hE0.kept hS.2.1).narrow fun x z => z.elim (fun z => by rw [z]; exact hsz) (fun z => Nat.le_trans hS.1 z)
  refine t_call (va_runI (As := []) (rest := .ref q :: rest) ⟨hx, hb, hml, hown, hts⟩ (t_sbInit l xq D cy _ q) (cwI 0 hts gL_law_J4_init_da8c8 rfl rfl rfl (hts _ (il_wsL_law0_r1 _ (List.mem_of_getElem? (i := 5) rfl))) (hts _ (il_wsL_law0_r25 _ (List.mem_of_getElem? (i := 18) rfl))) (hts _ (il_wsL_law0_r25 _ (List.mem_of_getElem? (i := 19) rfl))) rfl (by decide +kernel) ⟨Nat.le_of_ble_eq_true rfl, Nat.le_of_ble_eq_true rfl⟩) (t_pre (Z := fun H9 => va_at D vwCl (q, (.inr (1, [.null, .int 0, .int 0, .int 0]) : va_E)) H9) hK hE1 hat tNo) rfl rfl hls rfl (lv_room (by show 1 + (rest.map fun v => v.category).sum ≤ _; omega)) h3 ⟨by show _ ≤ 752875; omega, by show _ ≤ 6835470; omega⟩) hS (fun x _ z => z.elim (fun z => by rw [z]; exact hsz) (fun z => Nat.le_trans hS.1 z)) (fun x z => z.elim (fun z => by rw [z]; exact hsz) (fun z => Nat.le_trans hS.1 z)) (fun r H2 locs2 hBv hle hfr hS2 => ?_)
  obtain ⟨rfl, v, hv, hsb⟩ := hBv
  have h16 : (sb_Fit (fun _ => 0)) := sb_fit0
  have hk2 : ∀ x : Nat, x < H.size → H2[x]? = H[x]? := fun x hx9 => (hfr x (by omega) (fun z => z.elim (fun z => by omega) (fun z => by omega))).trans (hk x hx9)
  exact kk q v H2 locs2 ⟨16, fun _ => 0, hsb, by show 0 ≤ 16; omega, by omega, h16, fun j hj => absurd hj (Nat.not_lt_zero j), by omega, by omega, by omega⟩ hk2 (by omega) hS2
/-- a text behind what the builder holds -/
theorem lt_app (E0 : LE p l s m c args b L xs D cy xq) (h1 : decode cL_law pc = .ok (.invokevirtual 208, 3)) (hls : ls.size = 21) (hS : va_S (fun q => s.heap.size ≤ q) s.heap H locs) (hB : BT D cy z0 q v T H) (hz : s.heap.size ≤ z0) (hT : TXs t M.length (fun j => M.getD j 0) (sA q v H.size) s H) (hTM : T.length + M.length ≤ 100) (hr : (rest.map fun v => v.category).sum ≤ 6) (hc : cells + 1 ≤ 752875) (hs : slots + 202 ≤ 6835470)
    (kk : ∀ (v1 : Nat) (H1 : Heap) (locs1 : List Loc), BT D cy z0 q v1 (T ++ M) H1 → (∀ x : Nat, x < H.size → x ≠ q → x ≠ v → H1[x]? = H[x]?) → H.size ≤ H1.size → va_S (fun q => s.heap.size ≤ q) s.heap H1 locs1 → W p l e room_1 s m args below meth c H1 locs1 (cells + 1) (slots + 202) Q (F0 m (pc + 3) ls (.ref q :: rest))) : W p l e room_1 s m args below meth c H locs cells slots Q (F0 m pc ls (.ref t :: .ref q :: rest)) := by
  obtain ⟨hx, hb, hml, hown, hts, htb, hX, hbl, hst, hK, hE0, hL⟩ := E0
  obtain ⟨u, a, g1, g2, g3, g4, g5, g6, g7, g8⟩ := hB
  have hin : ∀ x, sA q v H.size x → s.heap.size ≤ x := fun x z => z.elim (fun z => by omega) (fun z => z.elim (fun z => by omega) (fun z => Nat.le_trans hS.1 z))
  have hq1 : q < H.size := g1.2.1.lt
  have hv1 : v < H.size := g1.2.2.lt
  refine t_call (va_runV (As := [.ref t]) (rest := rest) ⟨hx, hb, hml, hown, hts⟩ (t_append l xq D cy _ q v u T.length a t M.length (fun j => M.getD j 0) (fun j => T.getD j 0) g4 g5 g2 g3 hTM) (cwV 1 hts gL_law_J4_append_15ec4 rfl rfl rfl (by decide +kernel) ⟨Nat.le_of_ble_eq_true rfl, Nat.le_of_ble_eq_true rfl⟩) (t_preV hK (lt_ex hE0 hS (by omega) (by omega)) (g1.recv hK) g1 (tOne hT)) rfl rfl hls rfl (lv_room (by omega)) h1 ⟨by show _ ≤ 752875; omega, by show _ ≤ 6835470; omega⟩) hS (fun x _ z => hin x z) (fun x z => hin x z) (fun r H1 locs1 hBv hle hfr hS2 => ?_)
  obtain ⟨rfl, v1, u1, a1, k1, k2, k3, k4, k5, k6⟩ := hBv
  have hl9 : (T ++ M).length = T.length + M.length := List.length_append
  exact kk v1 H1 locs1 ⟨u1, a1, by rw [hl9]; exact k6, by omega, k3, k4, cat_Lat k5, g6, by omega, by omega⟩ (fun x hx9 n1 n2 => hfr x hx9 (fun z => z.elim n1 (fun z => z.elim n2 (fun z => by omega)))) hle hS2
/-- a digit behind what the builder holds -/
theorem lt_appI (E0 : LE p l s m c args b L xs D cy xq) (h1 : decode cL_law pc = .ok (.invokevirtual 264, 3)) (hls : ls.size = 21) (hS : va_S (fun q => s.heap.size ≤ q) s.heap H locs) (hB : BT D cy z0 q v T H) (hz : s.heap.size ≤ z0) (hd : d < 10) (hTM : T.length + 1 ≤ 100) (hr : (rest.map fun v => v.category).sum ≤ 6) (hc : cells + 1 ≤ 752875) (hs : slots + 202 ≤ 6835470)
    (kk : ∀ (v1 : Nat) (H1 : Heap) (locs1 : List Loc), BT D cy z0 q v1 (T ++ [48 + d]) H1 → (∀ x : Nat, x < H.size → x ≠ q → x ≠ v → H1[x]? = H[x]?) → H.size ≤ H1.size → va_S (fun q => s.heap.size ≤ q) s.heap H1 locs1 → W p l e room_1 s m args below meth c H1 locs1 (cells + 1) (slots + 202) Q (F0 m (pc + 3) ls (.ref q :: rest))) : W p l e room_1 s m args below meth c H locs cells slots Q (F0 m pc ls (.int (nI d) :: .ref q :: rest)) := by
  obtain ⟨hx, hb, hml, hown, hts, htb, hX, hbl, hst, hK, hE0, hL⟩ := E0
  obtain ⟨u, a, g1, g2, g3, g4, g5, g6, g7, g8⟩ := hB
  have hin : ∀ x, sA q v H.size x → s.heap.size ≤ x := fun x z => z.elim (fun z => by omega) (fun z => z.elim (fun z => by omega) (fun z => Nat.le_trans hS.1 z))
  have hq1 : q < H.size := g1.2.1.lt
  have hv1 : v < H.size := g1.2.2.lt
  refine t_call (va_runV (As := [.int (nI d)]) (rest := rest) ⟨hx, hb, hml, hown, hts⟩ (t_appInt l xq D cy _ q v u T.length a d (fun j => T.getD j 0) hd g4 g5 g2 g3 hTM) (cwV 1 hts gL_law_J4_append_bf812 rfl rfl rfl (by decide +kernel) ⟨Nat.le_of_ble_eq_true rfl, Nat.le_of_ble_eq_true rfl⟩) (t_preV hK (lt_ex hE0 hS (by omega) (by omega)) (g1.recv hK) g1 tNo) rfl rfl hls rfl (lv_room (by omega)) h1 ⟨by show _ ≤ 752875; omega, by show _ ≤ 6835470; omega⟩) hS (fun x _ z => hin x z) (fun x z => hin x z) (fun r H1 locs1 hBv hle hfr hS2 => ?_)
  obtain ⟨rfl, v1, u1, a1, k1, k2, k3, k4, k5, k6⟩ := hBv
  have hl9 : (T ++ [48 + d]).length = T.length + 1 := List.length_append
  have hL9 : sb_Lat (fun j => (T ++ [48 + d]).getD j 0) (T ++ [48 + d]).length a1 := cat_Lat (M := [48 + d]) (fun j hj => by
    obtain ⟨p1, p2⟩ := k5 j hj
    have e9 : sb_cat (fun j => T.getD j 0) T.length (fun j => [48 + d].getD j 0) j = sb_cat (fun j => T.getD j 0) T.length (fun _ => 48 + d) j := by
      unfold sb_cat
      by_cases w : j < T.length
      · rw [if_pos w, if_pos w]
      · have hj2 : j < T.length + 1 := hj
        rw [if_neg w, if_neg w, show j - T.length = 0 by omega]; rfl
    rw [e9]; exact ⟨p1, p2⟩)
  exact kk v1 H1 locs1 ⟨u1, a1, by rw [hl9]; exact k6, by omega, k3, k4, hL9, g6, by omega, by omega⟩ (fun x hx9 n1 n2 => hfr x hx9 (fun z => z.elim n1 (fun z => z.elim n2 (fun z => by omega)))) hle hS2
/-- the builder's text -/
theorem lt_str (E0 : LE p l s m c args b L xs D cy xq) (h1 : decode cL_law pc = .ok (.invokevirtual 220, 3)) (hls : ls.size = 21) (hS : va_S (fun q => s.heap.size ≤ q) s.heap H locs) (hB : BT D cy z0 q v T H) (hz : s.heap.size ≤ z0) (hTM : T.length ≤ 100) (hr : (rest.map fun v => v.category).sum ≤ 6) (hc : cells + 2 ≤ 752875) (hs : slots + 206 ≤ 6835470)
    (kk : ∀ (y : Nat) (H1 : Heap) (locs1 : List Loc), TXs y T.length (fun j => T.getD j 0) (fun x => x < H.size ∨ H1.size ≤ x) s H1 → (∀ x : Nat, x < H.size → x ≠ q → x ≠ v → H1[x]? = H[x]?) → H.size ≤ H1.size → va_S (fun q => s.heap.size ≤ q) s.heap H1 locs1 → W p l e room_1 s m args below meth c H1 locs1 (cells + 2) (slots + 206) Q (F0 m (pc + 3) ls (.ref y :: rest))) : W p l e room_1 s m args below meth c H locs cells slots Q (F0 m pc ls (.ref q :: rest)) := by
  obtain ⟨hx, hb, hml, hown, hts, htb, hX, hbl, hst, hK, hE0, hL⟩ := E0
  obtain ⟨u, a, g1, g2, g3, g4, g5, g6, g7, g8⟩ := hB
  have hin : ∀ x, sA q v H.size x → s.heap.size ≤ x := fun x z => z.elim (fun z => by omega) (fun z => z.elim (fun z => by omega) (fun z => Nat.le_trans hS.1 z))
  have hq1 : q < H.size := g1.2.1.lt
  have hv1 : v < H.size := g1.2.2.lt
  refine t_call (va_runV (As := []) (rest := rest) ⟨hx, hb, hml, hown, hts⟩ (t_toString l xq D cy _ q v u T.length a (fun j => T.getD j 0) g4 g5 g2 g3) (cwV 0 hts gL_law_J4_toString_0e30d rfl rfl rfl (by decide +kernel) ⟨Nat.le_of_ble_eq_true rfl, Nat.le_of_ble_eq_true rfl⟩) (t_preV hK (lt_ex hE0 hS (by omega) (by omega)) (g1.recv hK) g1 tNo) rfl rfl hls rfl (lv_room (by omega)) h1 ⟨by show _ ≤ 752875; omega, by show _ ≤ 6835470; omega⟩) hS (fun x _ z => hin x z) (fun x z => hin x z) (fun r H1 locs1 hBv hle hfr hS2 => ?_)
  obtain ⟨y, z, a1, rfl, k1, k2, k3, k4, k5, k6⟩ := hBv
  have hy2 : y < H1.size := k5.lt
  have hz2 : z < H1.size := k6.lt
  exact kk y H1 locs1 (TXs.made hE0 hK k5 k6 (fun w => w.elim (fun w => by omega) (fun w => by omega)) (fun w => w.elim (fun w => by omega) (fun w => by omega)) k4 k3 (by omega)) (fun x hx9 n1 n2 => hfr x hx9 (fun z => z.elim n1 (fun z => z.elim n2 (fun z => by omega)))) hle hS2
end LTS
