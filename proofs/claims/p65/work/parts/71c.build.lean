/-! BUILDERS: appending -/
theorem sA_in {q v v1 sz n : Nat} (h : v1 = v ∨ sz ≤ v1) (hn : sz ≤ n) : ∀ x, sA q v1 n x → sA q v sz x := fun x z => z.elim Or.inl (fun z => z.elim (fun z => by subst z; exact Or.inr (h.elim Or.inl Or.inr)) (fun z => Or.inr (Or.inr (Nat.le_trans hn z))))
theorem wi_J5_append_cf1ce_J4 : ∀ w ∈ wsJ40, w ∈ wsJ5_append_cf1ce := by decide +kernel
set_option maxHeartbeats 4000000 in
set_option maxRecDepth 100000 in
theorem t_append5 (l : Launch) (xq : Nat → Nat) (D : va_G) (cy : Nat → ClassId) (sz : Nat) (q v u n : Nat) (a : Nat → Int32) (t w : Nat) (c0 c1 : Nat → Nat) (hF : sb_Fit a) (hL : sb_Lat c1 n a) (hn : n ≤ u) (hu : u ≤ 202) (hnw : n + w ≤ 100) : Met l yJ5_append_cf1ce wsJ5_append_cf1ce ({ frames := 4, cells := 1, slots := 202, locals := 110 } : Room) (tP xq D cy sz (sA q v sz) [.ref q, .ref t] [(t, w, c0)] [] (sbAt D cy q v u n a)) (tQ (fun r H9 => r = some (.ref q) ∧ ∃ (v1 u1 : Nat) (a1 : Nat → Int32), (v1 = v ∨ sz ≤ v1) ∧ n + w ≤ u1 ∧ u1 ≤ 202 ∧ sb_Fit a1 ∧ sb_Lat (sb_cat c1 n c0) (n + w) a1 ∧ sbAt D cy q v1 u1 (n + w) a1 H9) (sA q v sz)) 1 202 (sA q v sz) := by
  refine Met.ofW (cc := cJ5_append_cf1ce) (maxL := 3) (ret := (some (.object "java/lang/AbstractStringBuilder"))) (by decide) rfl ?_
  intro p e s m args below meth c s₁ B hml hv
  obtain ⟨rfl, hsz, hZ, hK, hE, hT, hRw⟩ := hv
  have hx := B.exec
  have hb := B.bytes
  have hr := B.returns
  have hts := atoms_spec (ws := wsJ5_append_cf1ce) B.pre
  have hown : s.vm.findClass RJ5 = some m.cls := findClass_of_methodNamed B.named
  have hlocks := B.notSynchronized
  subst hsz
  have hS : va_S (sA q v s.heap.size) s.heap s.heap [] := va_S.rf
  have hT0 : TXs t w c0 (sA q v s.heap.size) s s.heap := hT (t, w, c0) (List.mem_singleton.mpr rfl)
  obtain ⟨ad, E, hP, ha0, ha1, he0, he1⟩ := hZ.pq (A := sA q v s.heap.size) (Or.inl rfl) (Or.inr (Or.inl rfl))
  have hl := lv_entry ([.ref q, .ref t]) (n := 3) (Nat.le_of_ble_eq_true rfl)
  refine W.eq (lg_entry_eq _ ([.ref q, .ref t]) _) ?_
  generalize (lg_sl ([.ref q, .ref t]) ++ List.replicate (3 - (lg_sl ([.ref q, .ref t])).length) Slot.unset).toArray = ls at hl ⊢
  have hl : lv_has ls 3 [(0, .ref q), (1, .ref t)] := hl
  refine lv_aload_n hx hb dJ5_append_cf1ce_0 rfl (lv_at hl 1 rfl) ?_
  refine lv_ifnonnull (tgt := 9) hx hb dJ5_append_cf1ce_1 (by decide) ?_
  refine lv_aload_n hx hb dJ5_append_cf1ce_9 rfl (lv_at hl 1 rfl) ?_
  refine sp_call (W.runV (As := []) (rest := []) ⟨hx, hb, hml, hown, hts⟩ (t_length l xq D cy _ (sA q v s.heap.size) t w c0) (cwV 0 hts gJ5_append_cf1ce_J0_length_8abf5 rfl rfl rfl (by decide +kernel) ⟨Nat.le_of_ble_eq_true rfl, Nat.le_of_ble_eq_true rfl⟩) (tPreV hK hE hS (fun _ h => h) (hT0.recv hS) trivial hT tNo) rfl rfl hl.1 rfl (lv_room (Nat.le_of_ble_eq_true rfl)) dJ5_append_cf1ce_10 ⟨Nat.le_of_ble_eq_true rfl, Nat.le_of_ble_eq_true rfl⟩) ?_
  refine W.eq (g2 := F0 m 13 ls [.int (nI w)]) rfl ?_
  refine lv_istore_n (lv' := [(2, .int (nI w)), (0, .ref q), (1, .ref t)]) hx hb dJ5_append_cf1ce_13 rfl hl (by decide) rfl (fun ls hl => ?_)
  refine lv_aload_n hx hb dJ5_append_cf1ce_14 rfl (lv_at hl 1 rfl) ?_
  refine lv_aload_n hx hb dJ5_append_cf1ce_15 rfl (lv_at hl 1 rfl) ?_
  refine i_get (C := RJ4) (T := TJ4) (N := 4) hx hb hts wi_J5_append_cf1ce_J4 hown hK hP (κ := 0) (by decide) ha0 he0 rfl 3 (by decide) (hts _ (List.mem_of_getElem? (i := 1) rfl)) (fun _ h => h) rfl dJ5_append_cf1ce_16 ?_
  refine lv_iload_n hx hb dJ5_append_cf1ce_19 rfl (lv_at hl 0 rfl) ?_
  refine lv_iadd hx hb dJ5_append_cf1ce_20 ?_
  refine W.eq (g2 := F0 m 21 ls [.int (nI (n + w)), .ref q]) (by rw [nI_add]) ?_
  refine t_call (va_runU (As := [.int (nI (n + w))]) (rest := []) ⟨hx, hb, hml, hown, hts⟩ (t_ensure l xq D cy _ q v u n a (n + w) hF hu hnw) (va_cwU 1 hts gJ5_append_cf1ce_J5_ensureCapacityInternal_d00df_u100J4 rfl rfl rfl rfl (by decide +kernel) ⟨Nat.le_of_ble_eq_true rfl, Nat.le_of_ble_eq_true rfl⟩) (tPreV hK hE hS (fun _ h => h) (sbAt.recv hK hZ) hZ tNo tNo) rfl rfl hl.1 rfl (lv_room (Nat.le_of_ble_eq_true rfl)) dJ5_append_cf1ce_21 ⟨Nat.le_of_ble_eq_true rfl, Nat.le_of_ble_eq_true rfl⟩) hS (fun x _ h => h) (fun x h => h) (fun r H locs hB hle hfr hS => ?_)
  obtain ⟨rfl, v1, u1, a1, g1, g2, g3, g4, g5, g6, g7⟩ := hB
  refine W.eq (g2 := F0 m 24 ls []) rfl ?_
  have hsub := sA_in (q := q) g1 hS.1
  have hv1 : sA q v s.heap.size v1 := Or.inr (g1.elim Or.inl Or.inr)
  obtain ⟨ad1, E1, hP1, hb0, hb1, hf0, hf1⟩ := g7.pq (A := sA q v s.heap.size) (Or.inl rfl) hv1
  have hP := hP1
  refine lv_aload_n hx hb dJ5_append_cf1ce_24 rfl (lv_at hl 1 rfl) ?_
  refine lv_aload_n hx hb dJ5_append_cf1ce_25 rfl (lv_at hl 1 rfl) ?_
  refine i_get (C := RJ4) (T := TJ4) (N := 4) hx hb hts wi_J5_append_cf1ce_J4 hown hK hP (κ := 0) (by decide) hb0 hf0 rfl 3 (by decide) (hts _ (List.mem_of_getElem? (i := 1) rfl)) (fun _ h => h) rfl dJ5_append_cf1ce_26 ?_
  refine lv_aload_n hx hb dJ5_append_cf1ce_29 rfl (lv_at hl 2 rfl) ?_
  refine t_call (va_runU (As := [.int (nI n), .ref t]) (rest := []) ⟨hx, hb, hml, hown, hts⟩ (t_putStr l xq D cy _ q v1 u1 n a1 t w c0 n g5 g2 g4) (va_cwU 2 hts gJ5_append_cf1ce_J5_putStringAt_47b60_u208J4 rfl rfl rfl rfl (by decide +kernel) ⟨Nat.le_of_ble_eq_true rfl, Nat.le_of_ble_eq_true rfl⟩) (tPreV hK hE hS hsub (sbAt.recv hK g7) g7 hT tNo) rfl rfl hl.1 rfl (lv_room (Nat.le_of_ble_eq_true rfl)) dJ5_append_cf1ce_30 ⟨Nat.le_of_ble_eq_true rfl, Nat.le_of_ble_eq_true rfl⟩) hS (fun x _ h => hsub x h) (fun x h => hsub x h) (fun r H locs hB hle2 hfr2 hS => ?_)
  obtain ⟨rfl, a2, k1, k2, k3, k4⟩ := hB
  refine W.eq (g2 := F0 m 33 ls []) rfl ?_
  obtain ⟨ad2, E2, hP2, hc0, hc1, hh0, hh1⟩ := k4.pq (A := sA q v s.heap.size) (Or.inl rfl) hv1
  have hP := hP2
  refine lv_aload_n hx hb dJ5_append_cf1ce_33 rfl (lv_at hl 1 rfl) ?_
  refine lv_dup hx hb dJ5_append_cf1ce_34 rfl ?_
  refine i_get (C := RJ4) (T := TJ4) (N := 4) hx hb hts wi_J5_append_cf1ce_J4 hown hK hP (κ := 0) (by decide) hc0 hh0 rfl 3 (by decide) (hts _ (List.mem_of_getElem? (i := 1) rfl)) (fun _ h => h) rfl dJ5_append_cf1ce_35 ?_
  refine lv_iload_n hx hb dJ5_append_cf1ce_38 rfl (lv_at hl 0 rfl) ?_
  refine lv_iadd hx hb dJ5_append_cf1ce_39 ?_
  refine W.eq (g2 := F0 m 40 ls [.int (nI (n + w)), .ref q]) (by rw [nI_add]) ?_
  refine j_put (C := RJ4) (T := TJ4) (N := 4) (ty := tyJ4 3) (v := .int (nI (n + w))) hx hb hts wi_J5_append_cf1ce_J4 tyJ4 tyJ4_ok nmJ4 hown hK hP2 hS (κ := 0) (by decide) hc0 hh0 rfl 3 (by decide) (hts _ (List.mem_of_getElem? (i := 1) rfl)) (fun _ h => h) rfl (by decide +kernel) rfl rfl (Nat.le_of_ble_eq_true rfl) dJ5_append_cf1ce_40 (fun H locs E3 hP3 hX3 hp3 hS => ?_)
  have hsb : sbAt D cy q v1 u1 (n + w) a2 H := sbAt.of hP3 (κ := 1) (by decide) (by decide) hc0 hc1 hp3 ((hX3 1 (by decide)).trans hh1)
  have hT1 := hT0
  obtain ⟨tv, f, -, -, -, -, hL0, -, -⟩ := hT1
  have hlat : sb_Lat (sb_cat c1 n c0) (n + w) a2 := sb_latPut hL (fun j hj => (k2 j hj).trans (g6 j (by omega))) (fun j hj => ⟨(hL0 j hj).1, k3 j hj⟩)
  refine lv_aload_n hx hb dJ5_append_cf1ce_43 rfl (lv_at hl 1 rfl) ?_
  exact W.aret (v := .ref q) (rt := .object "java/lang/AbstractStringBuilder") hx hb hr (Or.inl ⟨_, rfl⟩) (Or.inr ⟨_, rfl⟩) (fun T9 hT9 _ => ⟨_, rfl, ⟨rfl, v1, u1, a2, g1, g2, g4, k1, hlat, by rw [hT9]; exact hsb⟩, hS.F hT9⟩) hS.2.2 dJ5_append_cf1ce_44

set_option maxHeartbeats 4000000 in
set_option maxRecDepth 100000 in
theorem t_append (l : Launch) (xq : Nat → Nat) (D : va_G) (cy : Nat → ClassId) (sz : Nat) (q v u n : Nat) (a : Nat → Int32) (t w : Nat) (c0 c1 : Nat → Nat) (hF : sb_Fit a) (hL : sb_Lat c1 n a) (hn : n ≤ u) (hu : u ≤ 202) (hnw : n + w ≤ 100) : Met l yJ4_append_15ec4 wsJ4_append_15ec4 ({ frames := 5, cells := 1, slots := 202, locals := 132 } : Room) (tP xq D cy sz (sA q v sz) [.ref q, .ref t] [(t, w, c0)] [] (sbAt D cy q v u n a)) (tQ (fun r H9 => r = some (.ref q) ∧ ∃ (v1 u1 : Nat) (a1 : Nat → Int32), (v1 = v ∨ sz ≤ v1) ∧ n + w ≤ u1 ∧ u1 ≤ 202 ∧ sb_Fit a1 ∧ sb_Lat (sb_cat c1 n c0) (n + w) a1 ∧ sbAt D cy q v1 u1 (n + w) a1 H9) (sA q v sz)) 1 202 (sA q v sz) := by
  refine Met.ofW (cc := cJ4_append_15ec4) (maxL := 2) (ret := (some (.object "java/lang/StringBuilder"))) (by decide) rfl ?_
  intro p e s m args below meth c s₁ B hml hv
  obtain ⟨rfl, hsz, hZ, hK, hE, hT, hRw⟩ := hv
  have hx := B.exec
  have hb := B.bytes
  have hr := B.returns
  have hts := atoms_spec (ws := wsJ4_append_15ec4) B.pre
  have hown : s.vm.findClass RJ4 = some m.cls := findClass_of_methodNamed B.named
  have hlocks := B.notSynchronized
  subst hsz
  have hS : va_S (sA q v s.heap.size) s.heap s.heap [] := va_S.rf
  have hl := lv_entry ([.ref q, .ref t]) (n := 2) (Nat.le_of_ble_eq_true rfl)
  refine W.eq (lg_entry_eq _ ([.ref q, .ref t]) _) ?_
  generalize (lg_sl ([.ref q, .ref t]) ++ List.replicate (2 - (lg_sl ([.ref q, .ref t])).length) Slot.unset).toArray = ls at hl ⊢
  have hl : lv_has ls 2 [(0, .ref q), (1, .ref t)] := hl
  refine lv_aload_n hx hb dJ4_append_15ec4_0 rfl (lv_at hl 0 rfl) ?_
  refine lv_aload_n hx hb dJ4_append_15ec4_1 rfl (lv_at hl 1 rfl) ?_
  refine t_call (va_runSU (As := [.ref t]) (rest := []) (hK.1 1 _ rfl).2 ⟨hx, hb, hml, hown, hts⟩ (t_append5 l xq D cy _ q v u n a t w c0 c1 hF hL hn hu hnw) (va_cwSU 1 hts gJ4_append_15ec4_J5_append_cf1ce_s29 rfl rfl rfl (by decide +kernel) ⟨Nat.le_of_ble_eq_true rfl, Nat.le_of_ble_eq_true rfl⟩) (tPreV hK hE hS (fun _ h => h) (sbAt.recv hK hZ) hZ hT tNo) rfl rfl hl.1 rfl (lv_room (Nat.le_of_ble_eq_true rfl)) dJ4_append_15ec4_2 ⟨Nat.le_of_ble_eq_true rfl, Nat.le_of_ble_eq_true rfl⟩) hS (fun x _ h => h) (fun x h => h) (fun r H locs hB hle hfr hS => ?_)
  obtain ⟨rfl, hB⟩ := hB
  refine W.eq (g2 := F0 m 5 ls [.ref q]) rfl ?_
  refine lv_pop hx hb dJ4_append_15ec4_5 rfl ?_
  refine lv_aload_n hx hb dJ4_append_15ec4_6 rfl (lv_at hl 0 rfl) ?_
  exact W.aret (v := .ref q) (rt := .object "java/lang/StringBuilder") hx hb hr (Or.inl ⟨_, rfl⟩) (Or.inr ⟨_, rfl⟩) (fun T9 hT9 _ => ⟨_, rfl, ⟨rfl, by rw [hT9]; exact hB⟩, hS.F hT9⟩) hS.2.2 dJ4_append_15ec4_7

set_option maxHeartbeats 4000000 in
set_option maxRecDepth 100000 in
theorem t_strSize (l : Launch) (xq : Nat → Nat) (D : va_G) (cy : Nat → ClassId) (sz : Nat) (A : Nat → Prop) (d : Nat) (hd : d < 10) : Met l yJ6_stringSize_0f7a4 wsJ6_stringSize_0f7a4 ({ frames := 0, cells := 0, slots := 0, locals := 0 } : Room) (tP xq D cy sz (A) [.int (nI d)] [] [] (fun _ => True)) (sp_S (some (.int 1))) 0 0 (fun _ => False) := by
  refine Met.ofW (cc := cJ6_stringSize_0f7a4) (maxL := 4) (ret := (some .int)) (by decide) rfl ?_
  intro p e s m args below meth c s₁ B hml hv
  obtain ⟨rfl, hsz, hZ, hK, hE, hT, hRw⟩ := hv
  have hx := B.exec
  have hb := B.bytes
  have hr := B.returns
  have hts := atoms_spec (ws := wsJ6_stringSize_0f7a4) B.pre
  have hown : s.vm.findClass RJ6 = some m.cls := findClass_of_methodNamed B.named
  have hlocks := B.notSynchronized
  subst hsz
  have hS : va_S (A) s.heap s.heap [] := va_S.rf
  have hl := lv_entry ([.int (nI d)]) (n := 4) (Nat.le_of_ble_eq_true rfl)
  refine W.eq (lg_entry_eq _ ([.int (nI d)]) _) ?_
  generalize (lg_sl ([.int (nI d)]) ++ List.replicate (4 - (lg_sl ([.int (nI d)])).length) Slot.unset).toArray = ls at hl ⊢
  have hl : lv_has ls 4 [(0, .int (nI d))] := hl
  refine lv_iconst (v := 1) hx hb dJ6_stringSize_0f7a4_0 (by decide) ?_
  refine lv_istore_n (lv' := [(1, .int 1), (0, .int (nI d))]) hx hb dJ6_stringSize_0f7a4_1 rfl hl (by decide) rfl (fun ls hl => ?_)
  refine lv_iload_n hx hb dJ6_stringSize_0f7a4_2 rfl (lv_at hl 1 rfl) ?_
  refine lv_if_lt (tgt := 11) hx hb dJ6_stringSize_0f7a4_3 (by decide) (fun c_1 => ?_) (fun c_1 => ?_)
  · exact absurd c_1 (nI_pos (by omega))
  · skip
    refine lv_iconst (v := 0) hx hb dJ6_stringSize_0f7a4_6 (by decide) ?_
    refine lv_istore_n (lv' := [(1, .int 0), (0, .int (nI d))]) hx hb dJ6_stringSize_0f7a4_7 rfl hl (by decide) rfl (fun ls hl => ?_)
    refine lv_iload_n hx hb dJ6_stringSize_0f7a4_8 rfl (lv_at hl 1 rfl) ?_
    refine lv_ineg hx hb dJ6_stringSize_0f7a4_9 ?_
    refine lv_istore_n (lv' := [(0, .int (-(nI d))), (1, .int 0)]) hx hb dJ6_stringSize_0f7a4_10 rfl hl (by decide) rfl (fun ls hl => ?_)
    refine lv_bipush (v := (-10)) hx hb dJ6_stringSize_0f7a4_11 (by decide) ?_
    refine lv_istore_n (lv' := [(2, .int (-10)), (0, .int (-(nI d))), (1, .int 0)]) hx hb dJ6_stringSize_0f7a4_13 rfl hl (by decide) rfl (fun ls hl => ?_)
    refine lv_iconst (v := 1) hx hb dJ6_stringSize_0f7a4_14 (by decide) ?_
    refine lv_istore_n (lv' := [(3, .int 1), (2, .int (-10)), (0, .int (-(nI d))), (1, .int 0)]) hx hb dJ6_stringSize_0f7a4_15 rfl hl (by decide) rfl (fun ls hl => ?_)
    refine lv_iload_n hx hb dJ6_stringSize_0f7a4_16 rfl (lv_at hl 0 rfl) ?_
    refine lv_bipush (v := 10) hx hb dJ6_stringSize_0f7a4_17 (by decide) ?_
    refine lv_icmp_ge (tgt := 42) hx hb dJ6_stringSize_0f7a4_19 (by decide) (fun c_2 => ?_) (fun c_2 => ?_)
    · exact absurd c_2 (by decide)
    · skip
      refine lv_iload_n hx hb dJ6_stringSize_0f7a4_22 rfl (lv_at hl 2 rfl) ?_
      refine lv_iload_n hx hb dJ6_stringSize_0f7a4_23 rfl (lv_at hl 1 rfl) ?_
      refine lv_icmp_le (tgt := 31) hx hb dJ6_stringSize_0f7a4_24 (by decide) (fun c_3 => ?_) (fun c_3 => ?_)
      · exact absurd c_3 (dig_1 d hd)
      · skip
        refine lv_iload_n hx hb dJ6_stringSize_0f7a4_27 rfl (lv_at hl 0 rfl) ?_
        refine lv_iload_n hx hb dJ6_stringSize_0f7a4_28 rfl (lv_at hl 3 rfl) ?_
        refine lv_iadd hx hb dJ6_stringSize_0f7a4_29 ?_
        refine W.eq (g2 := F0 m 30 ls [.int 1]) rfl ?_
        exact W.iret (v := 1) hx hb hr (fun T9 hT9 _ => ⟨rfl, hT9⟩) (fun _ h => by cases h) dJ6_stringSize_0f7a4_30

set_option maxHeartbeats 4000000 in
set_option maxRecDepth 100000 in
theorem t_getChars (l : Launch) (xq : Nat → Nat) (D : va_G) (cy : Nat → ClassId) (sz : Nat) (v u : Nat) (a : Nat → Int32) (d i : Nat) (hd : d < 10) (hi : 0 < i) (hi2 : i ≤ u) (hu : u ≤ 202) : Met l yJ6_getChars_ba4f3 wsJ6_getChars_ba4f3 ({ frames := 0, cells := 0, slots := 0, locals := 0 } : Room) (tP xq D cy sz (iA v sz) [.int (nI d), .int (nI i), .ref v] [] [] (va_at D vwCl (v, (.inl (cy 1, u, .inl a) : va_E)))) (tQ (fun r H9 => r = some (.int (nI (i - 1))) ∧ va_at D vwCl (v, (.inl (cy 1, u, .inl (upd a (i - 1) (sb_b (48 + d)))) : va_E)) H9) (iA v sz)) 0 0 (iA v sz) := by
  refine Met.ofW (cc := cJ6_getChars_ba4f3) (maxL := 7) (ret := (some .int)) (by decide) rfl ?_
  intro p e s m args below meth c s₁ B hml hv
  obtain ⟨rfl, hsz, hZ, hK, hE, hT, hRw⟩ := hv
  have hx := B.exec
  have hb := B.bytes
  have hr := B.returns
  have hts := atoms_spec (ws := wsJ6_getChars_ba4f3) B.pre
  have hown : s.vm.findClass RJ6 = some m.cls := findClass_of_methodNamed B.named
  have hlocks := B.notSynchronized
  subst hsz
  have hS : va_S (iA v s.heap.size) s.heap s.heap [] := va_S.rf
  obtain ⟨ad, E, hP, ha0, he0⟩ := arAt.pq (A := iA v s.heap.size) hZ (Or.inl rfl)
  have hl := lv_entry ([.int (nI d), .int (nI i), .ref v]) (n := 7) (Nat.le_of_ble_eq_true rfl)
  refine W.eq (lg_entry_eq _ ([.int (nI d), .int (nI i), .ref v]) _) ?_
  generalize (lg_sl ([.int (nI d), .int (nI i), .ref v]) ++ List.replicate (7 - (lg_sl ([.int (nI d), .int (nI i), .ref v])).length) Slot.unset).toArray = ls at hl ⊢
  have hl : lv_has ls 7 [(0, .int (nI d)), (1, .int (nI i)), (2, .ref v)] := hl
  refine lv_iload_n hx hb dJ6_getChars_ba4f3_0 rfl (lv_at hl 1 rfl) ?_
  refine lv_istore (lv' := [(5, .int (nI i)), (0, .int (nI d)), (1, .int (nI i)), (2, .ref v)]) hx hb dJ6_getChars_ba4f3_1 hl (by decide) rfl (fun ls hl => ?_)
  refine lv_iload_n hx hb dJ6_getChars_ba4f3_3 rfl (lv_at hl 1 rfl) ?_
  refine lv_if_ge (tgt := 11) hx hb dJ6_getChars_ba4f3_4 (by decide) (fun c_1 => ?_) (fun c_1 => ?_)
  · skip
    refine lv_iconst (v := 0) hx hb dJ6_getChars_ba4f3_11 (by decide) ?_
    refine lv_istore (lv' := [(6, .int 0), (5, .int (nI i)), (0, .int (nI d)), (1, .int (nI i)), (2, .ref v)]) hx hb dJ6_getChars_ba4f3_12 hl (by decide) rfl (fun ls hl => ?_)
    refine lv_iload hx hb dJ6_getChars_ba4f3_14 (lv_at hl 0 rfl) ?_
    refine lv_if_ne (tgt := 22) hx hb dJ6_getChars_ba4f3_16 (by decide) (fun c_2 => ?_) (fun c_2 => ?_)
    · exact absurd rfl c_2
    · skip
      refine lv_iload_n hx hb dJ6_getChars_ba4f3_19 rfl (lv_at hl 2 rfl) ?_
      refine lv_ineg hx hb dJ6_getChars_ba4f3_20 ?_
      refine lv_istore_n (lv' := [(0, .int (-(nI d))), (6, .int 0), (5, .int (nI i)), (1, .int (nI i)), (2, .ref v)]) hx hb dJ6_getChars_ba4f3_21 rfl hl (by decide) rfl (fun ls hl => ?_)
      refine lv_iload_n hx hb dJ6_getChars_ba4f3_22 rfl (lv_at hl 0 rfl) ?_
      refine lv_bipush (v := (-100)) hx hb dJ6_getChars_ba4f3_23 (by decide) ?_
      refine lv_icmp_gt (tgt := 72) hx hb dJ6_getChars_ba4f3_25 (by decide) (fun c_3 => ?_) (fun c_3 => ?_)
      · skip
        refine lv_aload_n hx hb dJ6_getChars_ba4f3_72 rfl (lv_at hl 4 rfl) ?_
        have h5 : lv_has ls 7 [(5, .int (nI i)), (0, .int (-(nI d))), (6, .int 0), (1, .int (nI i)), (2, .ref v)] := lv_sub hl [2, 0, 1, 3, 4] rfl
        refine lv_iinc (v := nI (i - 1)) (lv' := [(5, .int (nI (i - 1))), (0, .int (-(nI d))), (6, .int 0), (1, .int (nI i)), (2, .ref v)]) hx hb dJ6_getChars_ba4f3_73 h5 (k := 0) rfl (sb_m1 hi) (by decide) rfl (fun ls hl => ?_)
        refine lv_iload hx hb dJ6_getChars_ba4f3_76 (lv_at hl 0 rfl) ?_
        refine va_gets hx hb hE.2.2.2.2.1.2.2.2.2.1 hS hown (hts _ (List.mem_of_getElem? (i := 1) rfl)) (fun _ h => h) dJ6_getChars_ba4f3_78 ?_
        refine lv_iload_n hx hb dJ6_getChars_ba4f3_81 rfl (lv_at hl 1 rfl) ?_
        refine lv_ineg hx hb dJ6_getChars_ba4f3_82 ?_
        refine W.eq (g2 := F0 m 83 ls [.int (nI d), .ref (xq 120), .int (nI (i - 1)), .ref v]) (by rw [Int32.neg_neg]) ?_
        refine va_tb hx hb hE.2.2.2.2.1.2.2.2.2.2 hS (vp_in_nI (show d < 100 by omega) (by decide)) (v := .int (digO d)) (by rw [nI_clamp (by omega)]) dJ6_getChars_ba4f3_83 ?_
        refine va_bast (i := nI (i - 1)) (x := digO d) hx hb hK hP.P hP.D hS 0 1 (by rw [sp_W_at (by decide), ha0, he0]) rfl (vp_in_nI (show i - 1 < u by omega) (by omega)) dJ6_getChars_ba4f3_84 (fun H locs hP1 hD1 hS => ?_)
        rw [nI_clamp (by omega), dig_4 d hd] at hP1
        have hP2 := hP.set (κ := 0) (by decide) (by rw [ha0]; exact hP1)
        have h9 := hP2.2.2 0 (by decide)
        rw [ha0, eU_s] at h9
        refine lv_iload_n hx hb dJ6_getChars_ba4f3_85 rfl (lv_at hl 1 rfl) ?_
        refine lv_bipush (v := (-9)) hx hb dJ6_getChars_ba4f3_86 (by decide) ?_
        refine lv_icmp_ge (tgt := 104) hx hb dJ6_getChars_ba4f3_88 (by decide) (fun c_4 => ?_) (fun c_4 => ?_)
        · skip
          refine lv_iload hx hb dJ6_getChars_ba4f3_104 (lv_at hl 2 rfl) ?_
          refine lv_if_eq (tgt := 118) hx hb dJ6_getChars_ba4f3_106 (by decide) (fun c_5 => ?_) (fun c_5 => ?_)
          · skip
            refine lv_iload hx hb dJ6_getChars_ba4f3_118 (lv_at hl 0 rfl) ?_
            exact W.iret (v := nI (i - 1)) hx hb hr (fun T9 hT9 _ => ⟨_, rfl, ⟨rfl, by rw [hT9]; exact h9⟩, hS.F hT9⟩) hS.2.2 dJ6_getChars_ba4f3_120
          · exact absurd rfl c_5
        · exact absurd (dig_3 d hd) c_4
      · exact absurd (dig_2 d hd) c_3
  · exact absurd (nI_pos' (by omega)) c_1

theorem wi_J5_append_c97b9_J4 : ∀ w ∈ wsJ40, w ∈ wsJ5_append_c97b9 := by decide +kernel
set_option maxHeartbeats 4000000 in
set_option maxRecDepth 100000 in
theorem t_appInt5 (l : Launch) (xq : Nat → Nat) (D : va_G) (cy : Nat → ClassId) (sz : Nat) (q v u n : Nat) (a : Nat → Int32) (d : Nat) (c1 : Nat → Nat) (hd : d < 10) (hF : sb_Fit a) (hL : sb_Lat c1 n a) (hn : n ≤ u) (hu : u ≤ 202) (hnw : n + 1 ≤ 100) : Met l yJ5_append_c97b9 wsJ5_append_c97b9 ({ frames := 4, cells := 1, slots := 202, locals := 110 } : Room) (tP xq D cy sz (sA q v sz) [.ref q, .int (nI d)] [] [] (sbAt D cy q v u n a)) (tQ (fun r H9 => r = some (.ref q) ∧ ∃ (v1 u1 : Nat) (a1 : Nat → Int32), (v1 = v ∨ sz ≤ v1) ∧ n + 1 ≤ u1 ∧ u1 ≤ 202 ∧ sb_Fit a1 ∧ sb_Lat (sb_cat c1 n (fun _ => 48 + d)) (n + 1) a1 ∧ sbAt D cy q v1 u1 (n + 1) a1 H9) (sA q v sz)) 1 202 (sA q v sz) := by
  refine Met.ofW (cc := cJ5_append_c97b9) (maxL := 4) (ret := (some (.object "java/lang/AbstractStringBuilder"))) (by decide) rfl ?_
  intro p e s m args below meth c s₁ B hml hv
  obtain ⟨rfl, hsz, hZ, hK, hE, hT, hRw⟩ := hv
  have hx := B.exec
  have hb := B.bytes
  have hr := B.returns
  have hts := atoms_spec (ws := wsJ5_append_c97b9) B.pre
  have hown : s.vm.findClass RJ5 = some m.cls := findClass_of_methodNamed B.named
  have hlocks := B.notSynchronized
  subst hsz
  have hS : va_S (sA q v s.heap.size) s.heap s.heap [] := va_S.rf
  obtain ⟨ad, E, hP, ha0, ha1, he0, he1⟩ := hZ.pq (A := sA q v s.heap.size) (Or.inl rfl) (Or.inr (Or.inl rfl))
  have hl := lv_entry ([.ref q, .int (nI d)]) (n := 4) (Nat.le_of_ble_eq_true rfl)
  refine W.eq (lg_entry_eq _ ([.ref q, .int (nI d)]) _) ?_
  generalize (lg_sl ([.ref q, .int (nI d)]) ++ List.replicate (4 - (lg_sl ([.ref q, .int (nI d)])).length) Slot.unset).toArray = ls at hl ⊢
  have hl : lv_has ls 4 [(0, .ref q), (1, .int (nI d))] := hl
  refine lv_aload_n hx hb dJ5_append_c97b9_0 rfl (lv_at hl 0 rfl) ?_
  refine i_get (C := RJ4) (T := TJ4) (N := 4) hx hb hts wi_J5_append_c97b9_J4 hown hK hP (κ := 0) (by decide) ha0 he0 rfl 3 (by decide) (hts _ (List.mem_of_getElem? (i := 1) rfl)) (fun _ h => h) rfl dJ5_append_c97b9_1 ?_
  refine lv_istore_n (lv' := [(2, .int (nI n)), (0, .ref q), (1, .int (nI d))]) hx hb dJ5_append_c97b9_4 rfl hl (by decide) rfl (fun ls hl => ?_)
  refine lv_iload_n hx hb dJ5_append_c97b9_5 rfl (lv_at hl 0 rfl) ?_
  refine lv_iload_n hx hb dJ5_append_c97b9_6 rfl (lv_at hl 2 rfl) ?_
  refine sp_callN (va_runS (As := [.int (nI d)]) (rest := [.int (nI n)]) ⟨hx, hb, hml, hown, hts⟩ (t_strSize l xq D cy _ (sA q v s.heap.size) d hd) (va_cwS 1 hts gJ5_append_c97b9_J6_stringSize_0f7a4 rfl rfl rfl (by decide +kernel) ⟨Nat.le_of_ble_eq_true rfl, Nat.le_of_ble_eq_true rfl⟩) (tPre hK hE hS (fun _ h => h) trivial tNo tNo) rfl rfl hl.1 rfl (lv_room (Nat.le_of_ble_eq_true rfl)) dJ5_append_c97b9_7 ⟨Nat.le_of_ble_eq_true rfl, Nat.le_of_ble_eq_true rfl⟩) ?_
  refine W.eq (g2 := F0 m 10 ls [.int 1, .int (nI n)]) rfl ?_
  refine lv_iadd hx hb dJ5_append_c97b9_10 ?_
  refine W.eq (g2 := F0 m 11 ls [.int (nI (n + 1))]) (by rw [nI_1]) ?_
  refine lv_istore_n (lv' := [(3, .int (nI (n + 1))), (2, .int (nI n)), (0, .ref q), (1, .int (nI d))]) hx hb dJ5_append_c97b9_11 rfl hl (by decide) rfl (fun ls hl => ?_)
  refine lv_aload_n hx hb dJ5_append_c97b9_12 rfl (lv_at hl 2 rfl) ?_
  refine lv_iload_n hx hb dJ5_append_c97b9_13 rfl (lv_at hl 0 rfl) ?_
  refine t_call (va_runU (As := [.int (nI (n + 1))]) (rest := []) ⟨hx, hb, hml, hown, hts⟩ (t_ensure l xq D cy _ q v u n a (n + 1) hF hu hnw) (va_cwU 1 hts gJ5_append_c97b9_J5_ensureCapacityInternal_d00df_u100J4 rfl rfl rfl rfl (by decide +kernel) ⟨Nat.le_of_ble_eq_true rfl, Nat.le_of_ble_eq_true rfl⟩) (tPreV hK hE hS (fun _ h => h) (sbAt.recv hK hZ) hZ tNo tNo) rfl rfl hl.1 rfl (lv_room (Nat.le_of_ble_eq_true rfl)) dJ5_append_c97b9_14 ⟨Nat.le_of_ble_eq_true rfl, Nat.le_of_ble_eq_true rfl⟩) hS (fun x _ h => h) (fun x h => h) (fun r H locs hB hle hfr hS => ?_)
  obtain ⟨rfl, v1, u1, a1, g1, g2, g3, g4, g5, g6, g7⟩ := hB
  refine W.eq (g2 := F0 m 17 ls []) rfl ?_
  have hsub := sA_in (q := q) g1 hS.1
  have hv1 : sA q v s.heap.size v1 := Or.inr (g1.elim Or.inl Or.inr)
  obtain ⟨ad1, E1, hP1, hb0, hb1, hf0, hf1⟩ := g7.pq (A := sA q v s.heap.size) (Or.inl rfl) hv1
  have hP := hP1
  refine lv_aload_n hx hb dJ5_append_c97b9_17 rfl (lv_at hl 2 rfl) ?_
  refine sp_callN (va_runU (As := []) (rest := []) ⟨hx, hb, hml, hown, hts⟩ (t_sbLat l xq D cy _ q v1 u1 n a1) (va_cwU 0 hts gJ5_append_c97b9_J5_isLatin1_aae02_u83J4 rfl rfl rfl rfl (by decide +kernel) ⟨Nat.le_of_ble_eq_true rfl, Nat.le_of_ble_eq_true rfl⟩) (tPreV hK hE hS hsub (sbAt.recv hK g7) g7 tNo tNo) rfl rfl hl.1 rfl (lv_room (Nat.le_of_ble_eq_true rfl)) dJ5_append_c97b9_18 ⟨Nat.le_of_ble_eq_true rfl, Nat.le_of_ble_eq_true rfl⟩) ?_
  refine W.eq (g2 := F0 m 21 ls [.int 1]) rfl ?_
  refine lv_if_eq (tgt := 37) hx hb dJ5_append_c97b9_21 (by decide) (fun c_1 => ?_) (fun c_1 => ?_)
  · exact absurd c_1 (by decide)
  · skip
    refine lv_iload_n hx hb dJ5_append_c97b9_24 rfl (lv_at hl 3 rfl) ?_
    refine lv_iload_n hx hb dJ5_append_c97b9_25 rfl (lv_at hl 0 rfl) ?_
    refine lv_aload_n hx hb dJ5_append_c97b9_26 rfl (lv_at hl 2 rfl) ?_
    refine i_get (C := RJ4) (T := TJ4) (N := 4) hx hb hts wi_J5_append_c97b9_J4 hown hK hP (κ := 0) (by decide) hb0 hf0 rfl 0 (by decide) (hts _ (List.mem_of_getElem? (i := 2) rfl)) (fun _ h => h) rfl dJ5_append_c97b9_27 ?_
    have hiA : ∀ x, iA v1 H.size x → sA q v s.heap.size x := fun x h => hsub x (Or.inr h)
    refine t_call (va_runS (As := [.int (nI d), .int (nI (n + 1)), .ref v1]) (rest := []) ⟨hx, hb, hml, hown, hts⟩ (t_getChars l xq D cy _ v1 u1 a1 d (n + 1) hd (by omega) g2 g4) (va_cwS 3 hts gJ5_append_c97b9_J6_getChars_ba4f3 rfl rfl rfl (by decide +kernel) ⟨Nat.le_of_ble_eq_true rfl, Nat.le_of_ble_eq_true rfl⟩) (tPre hK hE hS hiA g7.2.2 tNo tNo) rfl rfl hl.1 rfl (lv_room (Nat.le_of_ble_eq_true rfl)) dJ5_append_c97b9_30 ⟨Nat.le_of_ble_eq_true rfl, Nat.le_of_ble_eq_true rfl⟩) hS (fun x _ h => hiA x h) (fun x h => hiA x h) (fun r H locs hB hle2 hfr2 hS => ?_)
    obtain ⟨rfl, k4⟩ := hB
    rw [show n + 1 - 1 = n by omega] at k4
    refine W.eq (g2 := F0 m 33 ls [.int (nI (n + 1 - 1))]) rfl ?_
    refine lv_pop hx hb dJ5_append_c97b9_33 rfl ?_
    refine lv_goto (tgt := 48) hx hb dJ5_append_c97b9_34 (by decide) ?_
    have hq1 := g7.2.1.kept (hfr2 q g7.2.1.lt (fun h => h.elim g7.1 (fun h => by have h9 : q < _ := g7.2.1.lt; omega)))
    obtain ⟨ad2, E2, hP2, hc0, hc1, hh0, hh1⟩ := iP.two (A := sA q v s.heap.size) g7.1 (Or.inl rfl) hv1 hq1 k4
    have hP := hP2
    refine lv_aload_n hx hb dJ5_append_c97b9_48 rfl (lv_at hl 2 rfl) ?_
    refine lv_iload_n hx hb dJ5_append_c97b9_49 rfl (lv_at hl 0 rfl) ?_
    refine j_put (C := RJ4) (T := TJ4) (N := 4) (ty := tyJ4 3) (v := .int (nI (n + 1))) hx hb hts wi_J5_append_c97b9_J4 tyJ4 tyJ4_ok nmJ4 hown hK hP2 hS (κ := 0) (by decide) hc0 hh0 rfl 3 (by decide) (hts _ (List.mem_of_getElem? (i := 1) rfl)) (fun _ h => h) rfl (by decide +kernel) rfl rfl (Nat.le_of_ble_eq_true rfl) dJ5_append_c97b9_50 (fun H locs E3 hP3 hX3 hp3 hS => ?_)
    have hsb : sbAt D cy q v1 u1 (n + 1) (upd a1 n (sb_b (48 + d))) H := sbAt.of hP3 (κ := 1) (by decide) (by decide) hc0 hc1 hp3 ((hX3 1 (by decide)).trans hh1)
    have hlat : sb_Lat (sb_cat c1 n (fun _ => 48 + d)) (n + 1) (upd a1 n (sb_b (48 + d))) := sb_latPut hL (fun j hj => (pk_un (by omega)).trans (g6 j (by omega))) (fun j hj => ⟨by omega, by rw [show n + j = n by omega, pk_us]⟩)
    refine lv_aload_n hx hb dJ5_append_c97b9_53 rfl (lv_at hl 2 rfl) ?_
    exact W.aret (v := .ref q) (rt := .object "java/lang/AbstractStringBuilder") hx hb hr (Or.inl ⟨_, rfl⟩) (Or.inr ⟨_, rfl⟩) (fun T9 hT9 _ => ⟨_, rfl, ⟨rfl, v1, u1, _, g1, g2, g4, sb_fitU g5 (sb_fitB _), hlat, by rw [hT9]; exact hsb⟩, hS.F hT9⟩) hS.2.2 dJ5_append_c97b9_54

set_option maxHeartbeats 4000000 in
set_option maxRecDepth 100000 in
theorem t_appInt (l : Launch) (xq : Nat → Nat) (D : va_G) (cy : Nat → ClassId) (sz : Nat) (q v u n : Nat) (a : Nat → Int32) (d : Nat) (c1 : Nat → Nat) (hd : d < 10) (hF : sb_Fit a) (hL : sb_Lat c1 n a) (hn : n ≤ u) (hu : u ≤ 202) (hnw : n + 1 ≤ 100) : Met l yJ4_append_bf812 wsJ4_append_bf812 ({ frames := 5, cells := 1, slots := 202, locals := 133 } : Room) (tP xq D cy sz (sA q v sz) [.ref q, .int (nI d)] [] [] (sbAt D cy q v u n a)) (tQ (fun r H9 => r = some (.ref q) ∧ ∃ (v1 u1 : Nat) (a1 : Nat → Int32), (v1 = v ∨ sz ≤ v1) ∧ n + 1 ≤ u1 ∧ u1 ≤ 202 ∧ sb_Fit a1 ∧ sb_Lat (sb_cat c1 n (fun _ => 48 + d)) (n + 1) a1 ∧ sbAt D cy q v1 u1 (n + 1) a1 H9) (sA q v sz)) 1 202 (sA q v sz) := by
  refine Met.ofW (cc := cJ4_append_bf812) (maxL := 2) (ret := (some (.object "java/lang/StringBuilder"))) (by decide) rfl ?_
  intro p e s m args below meth c s₁ B hml hv
  obtain ⟨rfl, hsz, hZ, hK, hE, hT, hRw⟩ := hv
  have hx := B.exec
  have hb := B.bytes
  have hr := B.returns
  have hts := atoms_spec (ws := wsJ4_append_bf812) B.pre
  have hown : s.vm.findClass RJ4 = some m.cls := findClass_of_methodNamed B.named
  have hlocks := B.notSynchronized
  subst hsz
  have hS : va_S (sA q v s.heap.size) s.heap s.heap [] := va_S.rf
  have hl := lv_entry ([.ref q, .int (nI d)]) (n := 2) (Nat.le_of_ble_eq_true rfl)
  refine W.eq (lg_entry_eq _ ([.ref q, .int (nI d)]) _) ?_
  generalize (lg_sl ([.ref q, .int (nI d)]) ++ List.replicate (2 - (lg_sl ([.ref q, .int (nI d)])).length) Slot.unset).toArray = ls at hl ⊢
  have hl : lv_has ls 2 [(0, .ref q), (1, .int (nI d))] := hl
  refine lv_aload_n hx hb dJ4_append_bf812_0 rfl (lv_at hl 0 rfl) ?_
  refine lv_iload_n hx hb dJ4_append_bf812_1 rfl (lv_at hl 1 rfl) ?_
  refine t_call (va_runSU (As := [.int (nI d)]) (rest := []) (hK.1 1 _ rfl).2 ⟨hx, hb, hml, hown, hts⟩ (t_appInt5 l xq D cy _ q v u n a d c1 hd hF hL hn hu hnw) (va_cwSU 1 hts gJ4_append_bf812_J5_append_c97b9_s53 rfl rfl rfl (by decide +kernel) ⟨Nat.le_of_ble_eq_true rfl, Nat.le_of_ble_eq_true rfl⟩) (tPreV hK hE hS (fun _ h => h) (sbAt.recv hK hZ) hZ tNo tNo) rfl rfl hl.1 rfl (lv_room (Nat.le_of_ble_eq_true rfl)) dJ4_append_bf812_2 ⟨Nat.le_of_ble_eq_true rfl, Nat.le_of_ble_eq_true rfl⟩) hS (fun x _ h => h) (fun x h => h) (fun r H locs hB hle hfr hS => ?_)
  obtain ⟨rfl, hB⟩ := hB
  refine W.eq (g2 := F0 m 5 ls [.ref q]) rfl ?_
  refine lv_pop hx hb dJ4_append_bf812_5 rfl ?_
  refine lv_aload_n hx hb dJ4_append_bf812_6 rfl (lv_at hl 0 rfl) ?_
  exact W.aret (v := .ref q) (rt := .object "java/lang/StringBuilder") hx hb hr (Or.inl ⟨_, rfl⟩) (Or.inr ⟨_, rfl⟩) (fun T9 hT9 _ => ⟨_, rfl, ⟨rfl, by rw [hT9]; exact hB⟩, hS.F hT9⟩) hS.2.2 dJ4_append_bf812_7
