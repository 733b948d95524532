/-! BUILDERS -/
theorem wi_J5_isLatin1_aae02_J4 : ∀ w ∈ wsJ40, w ∈ wsJ5_isLatin1_aae02 := by decide +kernel
set_option maxHeartbeats 4000000 in
set_option maxRecDepth 100000 in
theorem t_sbLat (l : Launch) (xq : Nat → Nat) (D : va_G) (cy : Nat → ClassId) (sz : Nat) (q v u n : Nat) (a : Nat → Int32) : Met l yJ5_isLatin1_aae02 wsJ5_isLatin1_aae02 ({ frames := 0, cells := 0, slots := 0, locals := 0 } : Room) (tP xq D cy sz (sA q v sz) [.ref q] [] [] (sbAt D cy q v u n a)) (sp_S (some (.int 1))) 0 0 (fun _ => False) := by
  refine Met.ofW (cc := cJ5_isLatin1_aae02) (maxL := 1) (ret := (some .boolean)) (by decide) rfl ?_
  intro p e s m args below meth c s₁ B hml hv
  obtain ⟨rfl, hsz, hZ, hK, hE, hT, hRw⟩ := hv
  have hx := B.exec
  have hb := B.bytes
  have hr := B.returns
  have hts := atoms_spec (ws := wsJ5_isLatin1_aae02) B.pre
  have hown : s.vm.findClass RJ5 = some m.cls := findClass_of_methodNamed B.named
  have hlocks := B.notSynchronized
  subst hsz
  have hS : va_S (sA q v s.heap.size) s.heap s.heap [] := va_S.rf
  obtain ⟨ad, E, hP, ha0, ha1, he0, he1⟩ := hZ.pq (A := sA q v s.heap.size) (Or.inl rfl) (Or.inr (Or.inl rfl))
  have hl := lv_entry ([.ref q]) (n := 1) (Nat.le_of_ble_eq_true rfl)
  refine W.eq (lg_entry_eq _ ([.ref q]) _) ?_
  generalize (lg_sl ([.ref q]) ++ List.replicate (1 - (lg_sl ([.ref q])).length) Slot.unset).toArray = ls at hl ⊢
  have hl : lv_has ls 1 [(0, .ref q)] := hl
  refine va_gets hx hb hE.2.2.2.2.2.1 hS hown (hts _ (List.mem_of_getElem? (i := 1) rfl)) (fun _ h => h) dJ5_isLatin1_aae02_0 ?_
  refine lv_if_eq (tgt := 17) hx hb dJ5_isLatin1_aae02_3 (by decide) (fun c_1 => ?_) (fun c_1 => ?_)
  · exact absurd c_1 (by decide)
  · skip
    refine lv_aload_n hx hb dJ5_isLatin1_aae02_6 rfl (lv_at hl 0 rfl) ?_
    refine i_get (C := RJ4) (T := TJ4) (N := 4) hx hb hts wi_J5_isLatin1_aae02_J4 hown hK hP (κ := 0) (by decide) ha0 he0 rfl 1 (by decide) (hts _ (List.mem_of_getElem? (i := 2) rfl)) (fun _ h => h) rfl dJ5_isLatin1_aae02_7 ?_
    refine lv_if_ne (tgt := 17) hx hb dJ5_isLatin1_aae02_10 (by decide) (fun c_2 => ?_) (fun c_2 => ?_)
    · exact absurd rfl c_2
    · skip
      refine lv_iconst (v := 1) hx hb dJ5_isLatin1_aae02_13 (by decide) ?_
      refine lv_goto (tgt := 18) hx hb dJ5_isLatin1_aae02_14 (by decide) ?_
      exact W.zret (v := 1) hx hb hr (by decide) (fun T9 hT9 _ => ⟨rfl, hT9⟩) (fun _ h => by cases h) dJ5_isLatin1_aae02_18

theorem wi_J5_getValue_6d5f1_J4 : ∀ w ∈ wsJ40, w ∈ wsJ5_getValue_6d5f1 := by decide +kernel
set_option maxHeartbeats 4000000 in
set_option maxRecDepth 100000 in
theorem t_getValue (l : Launch) (xq : Nat → Nat) (D : va_G) (cy : Nat → ClassId) (sz : Nat) (q v u n : Nat) (a : Nat → Int32) : Met l yJ5_getValue_6d5f1 wsJ5_getValue_6d5f1 ({ frames := 0, cells := 0, slots := 0, locals := 0 } : Room) (tP xq D cy sz (sA q v sz) [.ref q] [] [] (sbAt D cy q v u n a)) (sp_S (some (.ref v))) 0 0 (fun _ => False) := by
  refine Met.ofW (cc := cJ5_getValue_6d5f1) (maxL := 1) (ret := (some (.array .byte))) (by decide) rfl ?_
  intro p e s m args below meth c s₁ B hml hv
  obtain ⟨rfl, hsz, hZ, hK, hE, hT, hRw⟩ := hv
  have hx := B.exec
  have hb := B.bytes
  have hr := B.returns
  have hts := atoms_spec (ws := wsJ5_getValue_6d5f1) B.pre
  have hown : s.vm.findClass RJ5 = some m.cls := findClass_of_methodNamed B.named
  have hlocks := B.notSynchronized
  subst hsz
  have hS : va_S (sA q v s.heap.size) s.heap s.heap [] := va_S.rf
  obtain ⟨ad, E, hP, ha0, ha1, he0, he1⟩ := hZ.pq (A := sA q v s.heap.size) (Or.inl rfl) (Or.inr (Or.inl rfl))
  have hl := lv_entry ([.ref q]) (n := 1) (Nat.le_of_ble_eq_true rfl)
  refine W.eq (lg_entry_eq _ ([.ref q]) _) ?_
  generalize (lg_sl ([.ref q]) ++ List.replicate (1 - (lg_sl ([.ref q])).length) Slot.unset).toArray = ls at hl ⊢
  have hl : lv_has ls 1 [(0, .ref q)] := hl
  refine lv_aload_n hx hb dJ5_getValue_6d5f1_0 rfl (lv_at hl 0 rfl) ?_
  refine i_get (C := RJ4) (T := TJ4) (N := 4) hx hb hts wi_J5_getValue_6d5f1_J4 hown hK hP (κ := 0) (by decide) ha0 he0 rfl 0 (by decide) (hts _ (List.mem_of_getElem? (i := 1) rfl)) (fun _ h => h) rfl dJ5_getValue_6d5f1_1 ?_
  exact W.aret (v := .ref v) (rt := .array .byte) hx hb hr (Or.inr ⟨_, rfl⟩) (Or.inr ⟨_, rfl⟩) (fun T9 hT9 _ => ⟨rfl, hT9⟩) (fun _ h => by cases h) dJ5_getValue_6d5f1_4

theorem wi_J5_length_8abf5_J4 : ∀ w ∈ wsJ40, w ∈ wsJ5_length_8abf5 := by decide +kernel
set_option maxHeartbeats 4000000 in
set_option maxRecDepth 100000 in
theorem t_sbLen5 (l : Launch) (xq : Nat → Nat) (D : va_G) (cy : Nat → ClassId) (sz : Nat) (q v u n : Nat) (a : Nat → Int32) : Met l yJ5_length_8abf5 wsJ5_length_8abf5 ({ frames := 0, cells := 0, slots := 0, locals := 0 } : Room) (tP xq D cy sz (sA q v sz) [.ref q] [] [] (sbAt D cy q v u n a)) (sp_S (some (.int (nI n)))) 0 0 (fun _ => False) := by
  refine Met.ofW (cc := cJ5_length_8abf5) (maxL := 1) (ret := (some .int)) (by decide) rfl ?_
  intro p e s m args below meth c s₁ B hml hv
  obtain ⟨rfl, hsz, hZ, hK, hE, hT, hRw⟩ := hv
  have hx := B.exec
  have hb := B.bytes
  have hr := B.returns
  have hts := atoms_spec (ws := wsJ5_length_8abf5) B.pre
  have hown : s.vm.findClass RJ5 = some m.cls := findClass_of_methodNamed B.named
  have hlocks := B.notSynchronized
  subst hsz
  have hS : va_S (sA q v s.heap.size) s.heap s.heap [] := va_S.rf
  obtain ⟨ad, E, hP, ha0, ha1, he0, he1⟩ := hZ.pq (A := sA q v s.heap.size) (Or.inl rfl) (Or.inr (Or.inl rfl))
  have hl := lv_entry ([.ref q]) (n := 1) (Nat.le_of_ble_eq_true rfl)
  refine W.eq (lg_entry_eq _ ([.ref q]) _) ?_
  generalize (lg_sl ([.ref q]) ++ List.replicate (1 - (lg_sl ([.ref q])).length) Slot.unset).toArray = ls at hl ⊢
  have hl : lv_has ls 1 [(0, .ref q)] := hl
  refine lv_aload_n hx hb dJ5_length_8abf5_0 rfl (lv_at hl 0 rfl) ?_
  refine i_get (C := RJ4) (T := TJ4) (N := 4) hx hb hts wi_J5_length_8abf5_J4 hown hK hP (κ := 0) (by decide) ha0 he0 rfl 3 (by decide) (hts _ (List.mem_of_getElem? (i := 1) rfl)) (fun _ h => h) rfl dJ5_length_8abf5_1 ?_
  exact W.iret (v := nI n) hx hb hr (fun T9 hT9 _ => ⟨rfl, hT9⟩) (fun _ h => by cases h) dJ5_length_8abf5_4

set_option maxHeartbeats 4000000 in
set_option maxRecDepth 100000 in
theorem t_sbLen4 (l : Launch) (xq : Nat → Nat) (D : va_G) (cy : Nat → ClassId) (sz : Nat) (q v u n : Nat) (a : Nat → Int32) : Met l yJ4_length_8abf5 wsJ4_length_8abf5 ({ frames := 1, cells := 0, slots := 0, locals := 20 } : Room) (tP xq D cy sz (sA q v sz) [.ref q] [] [] (sbAt D cy q v u n a)) (sp_S (some (.int (nI n)))) 0 0 (fun _ => False) := by
  refine Met.ofW (cc := cJ4_length_8abf5) (maxL := 1) (ret := (some .int)) (by decide) rfl ?_
  intro p e s m args below meth c s₁ B hml hv
  obtain ⟨rfl, hsz, hZ, hK, hE, hT, hRw⟩ := hv
  have hx := B.exec
  have hb := B.bytes
  have hr := B.returns
  have hts := atoms_spec (ws := wsJ4_length_8abf5) B.pre
  have hown : s.vm.findClass RJ4 = some m.cls := findClass_of_methodNamed B.named
  have hlocks := B.notSynchronized
  subst hsz
  have hS : va_S (sA q v s.heap.size) s.heap s.heap [] := va_S.rf
  have hl := lv_entry ([.ref q]) (n := 1) (Nat.le_of_ble_eq_true rfl)
  refine W.eq (lg_entry_eq _ ([.ref q]) _) ?_
  generalize (lg_sl ([.ref q]) ++ List.replicate (1 - (lg_sl ([.ref q])).length) Slot.unset).toArray = ls at hl ⊢
  have hl : lv_has ls 1 [(0, .ref q)] := hl
  refine lv_aload_n hx hb dJ4_length_8abf5_0 rfl (lv_at hl 0 rfl) ?_
  refine sp_callN (va_runSU (As := []) (rest := []) (hK.1 1 _ rfl).2 ⟨hx, hb, hml, hown, hts⟩ (t_sbLen5 l xq D cy _ q v u n a) (va_cwSU 0 hts gJ4_length_8abf5_J5_length_8abf5_s343 rfl rfl rfl (by decide +kernel) ⟨Nat.le_of_ble_eq_true rfl, Nat.le_of_ble_eq_true rfl⟩) (tPreV hK hE hS (fun _ h => h) (sbAt.recv hK hZ) hZ tNo tNo) rfl rfl hl.1 rfl (lv_room (Nat.le_of_ble_eq_true rfl)) dJ4_length_8abf5_1 ⟨Nat.le_of_ble_eq_true rfl, Nat.le_of_ble_eq_true rfl⟩) ?_
  refine W.eq (g2 := F0 m 4 ls [.int (nI n)]) rfl ?_
  exact W.iret (v := nI n) hx hb hr (fun T9 hT9 _ => ⟨rfl, hT9⟩) (fun _ h => by cases h) dJ4_length_8abf5_4

set_option maxHeartbeats 4000000 in
set_option maxRecDepth 100000 in
theorem t_newLength (l : Launch) (xq : Nat → Nat) (D : va_G) (cy : Nat → ClassId) (sz : Nat) (A : Nat → Prop) (u g r : Nat) (hu : u < 65536) (hg : g < 65536) (hr0 : r < 65536) (h0 : 0 < u + max g r) : Met l yJ8_newLength_cabcc wsJ8_newLength_cabcc ({ frames := 1, cells := 0, slots := 0, locals := 40 } : Room) (tP xq D cy sz (A) [.int (nI u), .int (nI g), .int (nI r)] [] [] (fun _ => True)) (sp_S (some (.int (nI (u + max g r))))) 0 0 (fun _ => False) := by
  refine Met.ofW (cc := cJ8_newLength_cabcc) (maxL := 4) (ret := (some .int)) (by decide) rfl ?_
  intro p e s m args below meth c s₁ B hml hv
  obtain ⟨rfl, hsz, hZ, hK, hE, hT, hRw⟩ := hv
  have hx := B.exec
  have hb := B.bytes
  have hr := B.returns
  have hts := atoms_spec (ws := wsJ8_newLength_cabcc) B.pre
  have hown : s.vm.findClass RJ8 = some m.cls := findClass_of_methodNamed B.named
  have hlocks := B.notSynchronized
  subst hsz
  have hS : va_S (A) s.heap s.heap [] := va_S.rf
  have hmx : max g r < 65536 := by omega
  have hl := lv_entry ([.int (nI u), .int (nI g), .int (nI r)]) (n := 4) (Nat.le_of_ble_eq_true rfl)
  refine W.eq (lg_entry_eq _ ([.int (nI u), .int (nI g), .int (nI r)]) _) ?_
  generalize (lg_sl ([.int (nI u), .int (nI g), .int (nI r)]) ++ List.replicate (4 - (lg_sl ([.int (nI u), .int (nI g), .int (nI r)])).length) Slot.unset).toArray = ls at hl ⊢
  have hl : lv_has ls 4 [(0, .int (nI u)), (1, .int (nI g)), (2, .int (nI r))] := hl
  refine lv_iload_n hx hb dJ8_newLength_cabcc_0 rfl (lv_at hl 0 rfl) ?_
  refine lv_iload_n hx hb dJ8_newLength_cabcc_1 rfl (lv_at hl 1 rfl) ?_
  refine lv_iload_n hx hb dJ8_newLength_cabcc_2 rfl (lv_at hl 2 rfl) ?_
  refine va_mmax hx hb (by rw [hml]; exact hl.1.symm) hown (hts _ (List.mem_of_getElem? (i := 1) rfl)) (hts _ (List.mem_of_getElem? (i := 2) rfl)) (hts _ (List.mem_of_getElem? (i := 3) rfl)) (hts _ (List.mem_of_getElem? (i := 4) rfl)) (Nat.le_of_ble_eq_true rfl) (Nat.le_of_ble_eq_true rfl) (Nat.le_of_ble_eq_true rfl) (Nat.le_of_ble_eq_true rfl) dJ8_newLength_cabcc_3 ?_
  refine W.eq (g2 := F0 m 6 ls [.int (nI (max g r)), .int (nI u)]) (by rw [nI_max (by omega) (by omega)]) ?_
  refine lv_iadd hx hb dJ8_newLength_cabcc_6 ?_
  refine W.eq (g2 := F0 m 7 ls [.int (nI (u + max g r))]) (by rw [nI_add]) ?_
  refine lv_istore_n (lv' := [(3, .int (nI (u + max g r))), (0, .int (nI u)), (1, .int (nI g)), (2, .int (nI r))]) hx hb dJ8_newLength_cabcc_7 rfl hl (by decide) rfl (fun ls hl => ?_)
  refine lv_iconst (v := 0) hx hb dJ8_newLength_cabcc_8 (by decide) ?_
  refine lv_iload_n hx hb dJ8_newLength_cabcc_9 rfl (lv_at hl 0 rfl) ?_
  refine lv_icmp_ge (tgt := 21) hx hb dJ8_newLength_cabcc_10 (by decide) (fun c_1 => ?_) (fun c_1 => ?_)
  · exact absurd c_1 (nI_nle h0 (by omega))
  · skip
    refine lv_iload_n hx hb dJ8_newLength_cabcc_13 rfl (lv_at hl 0 rfl) ?_
    refine lv_ldc (v := 2147483639) hx hb hown (hts _ (List.mem_of_getElem? (i := 5) rfl)) dJ8_newLength_cabcc_14 ?_
    refine lv_icmp_gt (tgt := 21) hx hb dJ8_newLength_cabcc_16 (by decide) (fun c_2 => ?_) (fun c_2 => ?_)
    · exact absurd c_2 (show ¬ nI 2147483639 < nI (u + max g r) from nI_nlt (by omega) (by decide))
    · skip
      refine lv_iload_n hx hb dJ8_newLength_cabcc_19 rfl (lv_at hl 0 rfl) ?_
      exact W.iret (v := nI (u + max g r)) hx hb hr (fun T9 hT9 _ => ⟨rfl, hT9⟩) (fun _ h => by cases h) dJ8_newLength_cabcc_20

theorem wi_J5_newCapacity_0f7a4_J4 : ∀ w ∈ wsJ40, w ∈ wsJ5_newCapacity_0f7a4 := by decide +kernel
set_option maxHeartbeats 4000000 in
set_option maxRecDepth 100000 in
theorem t_newCap (l : Launch) (xq : Nat → Nat) (D : va_G) (cy : Nat → ClassId) (sz : Nat) (q v u n : Nat) (a : Nat → Int32) (k : Nat) (hk : u < k) (hk1 : k ≤ 100) : Met l yJ5_newCapacity_0f7a4 wsJ5_newCapacity_0f7a4 ({ frames := 2, cells := 0, slots := 0, locals := 63 } : Room) (tP xq D cy sz (sA q v sz) [.ref q, .int (nI k)] [] [] (sbAt D cy q v u n a)) (sp_S (some (.int (nI (sb_cap k u))))) 0 0 (fun _ => False) := by
  refine Met.ofW (cc := cJ5_newCapacity_0f7a4) (maxL := 6) (ret := (some .int)) (by decide) rfl ?_
  intro p e s m args below meth c s₁ B hml hv
  obtain ⟨rfl, hsz, hZ, hK, hE, hT, hRw⟩ := hv
  have hx := B.exec
  have hb := B.bytes
  have hr := B.returns
  have hts := atoms_spec (ws := wsJ5_newCapacity_0f7a4) B.pre
  have hown : s.vm.findClass RJ5 = some m.cls := findClass_of_methodNamed B.named
  have hlocks := B.notSynchronized
  subst hsz
  have hS : va_S (sA q v s.heap.size) s.heap s.heap [] := va_S.rf
  obtain ⟨ad, E, hP, ha0, ha1, he0, he1⟩ := hZ.pq (A := sA q v s.heap.size) (Or.inl rfl) (Or.inr (Or.inl rfl))
  have hcap := cap_le hk hk1
  have hl := lv_entry ([.ref q, .int (nI k)]) (n := 6) (Nat.le_of_ble_eq_true rfl)
  refine W.eq (lg_entry_eq _ ([.ref q, .int (nI k)]) _) ?_
  generalize (lg_sl ([.ref q, .int (nI k)]) ++ List.replicate (6 - (lg_sl ([.ref q, .int (nI k)])).length) Slot.unset).toArray = ls at hl ⊢
  have hl : lv_has ls 6 [(0, .ref q), (1, .int (nI k))] := hl
  refine lv_aload_n hx hb dJ5_newCapacity_0f7a4_0 rfl (lv_at hl 0 rfl) ?_
  refine i_get (C := RJ4) (T := TJ4) (N := 4) hx hb hts wi_J5_newCapacity_0f7a4_J4 hown hK hP (κ := 0) (by decide) ha0 he0 rfl 0 (by decide) (hts _ (List.mem_of_getElem? (i := 1) rfl)) (fun _ h => h) rfl dJ5_newCapacity_0f7a4_1 ?_
  refine i_alen hx hb hK hP (κ := 1) (by decide) ha1 1 he1 rfl (v := nI u) rfl dJ5_newCapacity_0f7a4_4 ?_
  refine lv_istore_n (lv' := [(2, .int (nI u)), (0, .ref q), (1, .int (nI k))]) hx hb dJ5_newCapacity_0f7a4_5 rfl hl (by decide) rfl (fun ls hl => ?_)
  refine lv_iload_n hx hb dJ5_newCapacity_0f7a4_6 rfl (lv_at hl 2 rfl) ?_
  refine lv_aload_n hx hb dJ5_newCapacity_0f7a4_7 rfl (lv_at hl 1 rfl) ?_
  refine i_get (C := RJ4) (T := TJ4) (N := 4) hx hb hts wi_J5_newCapacity_0f7a4_J4 hown hK hP (κ := 0) (by decide) ha0 he0 rfl 1 (by decide) (hts _ (List.mem_of_getElem? (i := 2) rfl)) (fun _ h => h) rfl dJ5_newCapacity_0f7a4_8 ?_
  refine lv_ishl hx hb dJ5_newCapacity_0f7a4_11 ?_
  refine W.eq (g2 := F0 m 12 ls [.int (nI k)]) (by rw [sb_shl0]) ?_
  refine lv_istore_n (lv' := [(3, .int (nI k)), (2, .int (nI u)), (0, .ref q), (1, .int (nI k))]) hx hb dJ5_newCapacity_0f7a4_12 rfl hl (by decide) rfl (fun ls hl => ?_)
  refine lv_iload_n hx hb dJ5_newCapacity_0f7a4_13 rfl (lv_at hl 0 rfl) ?_
  refine lv_iload_n hx hb dJ5_newCapacity_0f7a4_14 rfl (lv_at hl 1 rfl) ?_
  refine lv_isub hx hb dJ5_newCapacity_0f7a4_15 ?_
  refine W.eq (g2 := F0 m 16 ls [.int (nI (k - u))]) (by rw [pk_sub (by omega)]) ?_
  refine lv_istore (lv' := [(4, .int (nI (k - u))), (3, .int (nI k)), (2, .int (nI u)), (0, .ref q), (1, .int (nI k))]) hx hb dJ5_newCapacity_0f7a4_16 hl (by decide) rfl (fun ls hl => ?_)
  refine lv_iload_n hx hb dJ5_newCapacity_0f7a4_18 rfl (lv_at hl 2 rfl) ?_
  refine lv_iload hx hb dJ5_newCapacity_0f7a4_19 (lv_at hl 0 rfl) ?_
  refine lv_iload_n hx hb dJ5_newCapacity_0f7a4_21 rfl (lv_at hl 2 rfl) ?_
  refine lv_iconst (v := 2) hx hb dJ5_newCapacity_0f7a4_22 (by decide) ?_
  refine lv_aload_n hx hb dJ5_newCapacity_0f7a4_23 rfl (lv_at hl 3 rfl) ?_
  refine i_get (C := RJ4) (T := TJ4) (N := 4) hx hb hts wi_J5_newCapacity_0f7a4_J4 hown hK hP (κ := 0) (by decide) ha0 he0 rfl 1 (by decide) (hts _ (List.mem_of_getElem? (i := 2) rfl)) (fun _ h => h) rfl dJ5_newCapacity_0f7a4_24 ?_
  refine lv_ishl hx hb dJ5_newCapacity_0f7a4_27 ?_
  refine W.eq (g2 := F0 m 28 ls [.int 2, .int (nI u), .int (nI (k - u)), .int (nI u)]) (by rw [sb_shl0]) ?_
  refine lv_iadd hx hb dJ5_newCapacity_0f7a4_28 ?_
  refine W.eq (g2 := F0 m 29 ls [.int (nI (u + 2)), .int (nI (k - u)), .int (nI u)]) (by rw [show nI u + 2 = nI (u + 2) from nI_add u 2]) ?_
  refine sp_callN (va_runS (As := [.int (nI u), .int (nI (k - u)), .int (nI (u + 2))]) (rest := []) ⟨hx, hb, hml, hown, hts⟩ (t_newLength l xq D cy _ (sA q v s.heap.size) u (k - u) (u + 2) (by omega) (by omega) (by omega) (by omega)) (va_cwS 3 hts gJ5_newCapacity_0f7a4_J8_newLength_cabcc rfl rfl rfl (by decide +kernel) ⟨Nat.le_of_ble_eq_true rfl, Nat.le_of_ble_eq_true rfl⟩) (tPre hK hE hS (fun _ h => h) trivial tNo tNo) rfl rfl hl.1 rfl (lv_room (Nat.le_of_ble_eq_true rfl)) dJ5_newCapacity_0f7a4_29 ⟨Nat.le_of_ble_eq_true rfl, Nat.le_of_ble_eq_true rfl⟩) ?_
  refine W.eq (g2 := F0 m 32 ls [.int (nI (u + max (k - u) (u + 2)))]) rfl ?_
  refine W.eq (g2 := F0 m 32 ls [.int (nI (sb_cap k u))]) (by rw [cap_eq hk]) ?_
  refine lv_istore (lv' := [(5, .int (nI (sb_cap k u))), (4, .int (nI (k - u))), (3, .int (nI k)), (2, .int (nI u)), (0, .ref q), (1, .int (nI k))]) hx hb dJ5_newCapacity_0f7a4_32 hl (by decide) rfl (fun ls hl => ?_)
  refine lv_iload hx hb dJ5_newCapacity_0f7a4_34 (lv_at hl 0 rfl) ?_
  refine lv_ldc (v := 2147483647) hx hb hown (hts _ (List.mem_of_getElem? (i := 3) rfl)) dJ5_newCapacity_0f7a4_36 ?_
  refine lv_icmp_ne (tgt := 51) hx hb dJ5_newCapacity_0f7a4_38 (by decide) (fun c_1 => ?_) (fun c_1 => ?_)
  · skip
    refine lv_iload hx hb dJ5_newCapacity_0f7a4_51 (lv_at hl 0 rfl) ?_
    refine lv_aload_n hx hb dJ5_newCapacity_0f7a4_53 rfl (lv_at hl 4 rfl) ?_
    refine i_get (C := RJ4) (T := TJ4) (N := 4) hx hb hts wi_J5_newCapacity_0f7a4_J4 hown hK hP (κ := 0) (by decide) ha0 he0 rfl 1 (by decide) (hts _ (List.mem_of_getElem? (i := 2) rfl)) (fun _ h => h) rfl dJ5_newCapacity_0f7a4_54 ?_
    refine lv_ishr hx hb dJ5_newCapacity_0f7a4_57 ?_
    exact W.iret (v := nI (sb_cap k u) >>> ((0 : Int32) &&& 31)) hx hb hr (fun T9 hT9 _ => ⟨by rw [sb_shr0], hT9⟩) (fun _ h => by cases h) dJ5_newCapacity_0f7a4_58
  · exact absurd c_1 (fun z => by have := (nI_eq (by omega) (by decide)).mp (show nI (sb_cap k u) = nI 2147483647 from z); omega)

set_option maxHeartbeats 4000000 in
set_option maxRecDepth 100000 in
theorem t_copyOf (l : Launch) (xq : Nat → Nat) (D : va_G) (cy : Nat → ClassId) (sz : Nat) (v u k : Nat) (a : Nat → Int32) (hF : sb_Fit a) (huk : u < k) (hk : k ≤ 202) : Met l yJ7_copyOf_9075b wsJ7_copyOf_9075b ({ frames := 1, cells := 1, slots := 202, locals := 60 } : Room) (tP xq D cy sz (iA v sz) [.ref v, .int (nI k)] [] [] (va_at D vwCl (v, (.inl (cy 1, u, .inl a) : va_E)))) (tQ (fun r H9 => ∃ z, r = some (.ref z) ∧ sz ≤ z ∧ va_at D vwCl (z, (.inl (cy 1, k, .inl (va_cpy a (fun _ => 0) 0 0 u)) : va_E)) H9) (iA v sz)) 1 202 (iA v sz) := by
  refine Met.ofW (cc := cJ7_copyOf_9075b) (maxL := 3) (ret := (some (.array .byte))) (by decide) rfl ?_
  intro p e s m args below meth c s₁ B hml hv
  obtain ⟨rfl, hsz, hZ, hK, hE, hT, hRw⟩ := hv
  have hx := B.exec
  have hb := B.bytes
  have hr := B.returns
  have hts := atoms_spec (ws := wsJ7_copyOf_9075b) B.pre
  have hown : s.vm.findClass RJ7 = some m.cls := findClass_of_methodNamed B.named
  have hlocks := B.notSynchronized
  subst hsz
  have hS : va_S (iA v s.heap.size) s.heap s.heap [] := va_S.rf
  obtain ⟨ad, E, hP, ha0, he0⟩ := arAt.pq (A := iA v s.heap.size) hZ (Or.inl rfl)
  have hAs : ∀ x, s.heap.size ≤ x → iA v s.heap.size x := fun x h => Or.inr h
  have hl := lv_entry ([.ref v, .int (nI k)]) (n := 3) (Nat.le_of_ble_eq_true rfl)
  refine W.eq (lg_entry_eq _ ([.ref v, .int (nI k)]) _) ?_
  generalize (lg_sl ([.ref v, .int (nI k)]) ++ List.replicate (3 - (lg_sl ([.ref v, .int (nI k)])).length) Slot.unset).toArray = ls at hl ⊢
  have hl : lv_has ls 3 [(0, .ref v), (1, .int (nI k))] := hl
  refine lv_iload_n hx hb dJ7_copyOf_9075b_0 rfl (lv_at hl 1 rfl) ?_
  refine lv_aload_n hx hb dJ7_copyOf_9075b_1 rfl (lv_at hl 0 rfl) ?_
  refine i_alen hx hb hK hP (κ := 0) (by decide) ha0 1 he0 rfl (v := nI u) rfl dJ7_copyOf_9075b_2 ?_
  refine lv_icmp_ne (tgt := 14) hx hb dJ7_copyOf_9075b_3 (by decide) (fun c_1 => ?_) (fun c_1 => ?_)
  · skip
    refine lv_iload_n hx hb dJ7_copyOf_9075b_14 rfl (lv_at hl 1 rfl) ?_
    refine j_newa (atype := .byte) hx hb (hts _ (List.mem_of_getElem? (i := 7) rfl)) hK hP hS hAs 1 rfl (fun h => h) (x := nI k) (N' := k) (a0 := (k, .inl (fun _ => 0))) (fun _ => rfl) (nI_pos (by omega)) (nI_clamp (by omega)) (by show k * 1 ≤ _; omega) (Nat.le_of_ble_eq_true rfl) (by show 0 + k ≤ 202; omega) dJ7_copyOf_9075b_15 (fun z H ad1 E1 hP hA1 hE1 ha1 he1 hz hS => ?_)
    have f0 : ad1 0 = v := (hA1 0 (by decide)).trans ha0
    have g0 : E1 0 = .inl (cy 1, u, .inl a) := (hE1 0 (by decide)).trans he0
    refine lv_astore_n (lv' := [(2, .ref z), (0, .ref v), (1, .int (nI k))]) hx hb dJ7_copyOf_9075b_17 rfl hl (by decide) rfl (fun ls hl => ?_)
    refine lv_aload_n hx hb dJ7_copyOf_9075b_18 rfl (lv_at hl 1 rfl) ?_
    refine lv_iconst (v := 0) hx hb dJ7_copyOf_9075b_19 (by decide) ?_
    refine lv_aload_n hx hb dJ7_copyOf_9075b_20 rfl (lv_at hl 0 rfl) ?_
    refine lv_iconst (v := 0) hx hb dJ7_copyOf_9075b_21 (by decide) ?_
    refine lv_aload_n hx hb dJ7_copyOf_9075b_22 rfl (lv_at hl 1 rfl) ?_
    refine i_alen hx hb hK hP (κ := 0) (by decide) f0 1 g0 rfl (v := nI u) rfl dJ7_copyOf_9075b_23 ?_
    refine lv_iload_n hx hb dJ7_copyOf_9075b_24 rfl (lv_at hl 2 rfl) ?_
    refine va_mmin hx hb (by rw [hml]; exact hl.1.symm) hown (hts _ (List.mem_of_getElem? (i := 8) rfl)) (hts _ (List.mem_of_getElem? (i := 9) rfl)) (hts _ (List.mem_of_getElem? (i := 10) rfl)) (hts _ (List.mem_of_getElem? (i := 11) rfl)) (Nat.le_of_ble_eq_true rfl) (Nat.le_of_ble_eq_true rfl) (Nat.le_of_ble_eq_true rfl) (by show 0 + k ≤ 202; omega) dJ7_copyOf_9075b_25 ?_
    refine W.eq (g2 := F0 m 28 ls [.int (nI u), .int 0, .ref z, .int 0, .ref v]) (by rw [if_neg (nI_nlt (by omega) (by omega))]) ?_
    refine va_copyi (sp := 0) (dp := 0) (n := nI u) hx hb (by rw [hml]; exact hl.1.symm) hown (hts _ (List.mem_of_getElem? (i := 12) rfl)) (hts _ (List.mem_of_getElem? (i := 13) rfl)) (hts _ (List.mem_of_getElem? (i := 14) rfl)) (hts _ (List.mem_of_getElem? (i := 15) rfl)) hK hP.P hP.D hS 0 1 1 1 (by rw [sp_W_at (by decide), f0, g0]) (by rw [sp_W_at (by decide), ha1, he1]) rfl rfl rfl (by decide) (by decide) (nI_pos (by omega)) (by rw [nI_clamp (by omega), sb_cl0]; omega) (by rw [nI_clamp (by omega), sb_cl0]; omega) (fun i _ => hF _) (Nat.le_of_ble_eq_true rfl) (by rw [nativeFrameWords_plain _ (by decide +kernel)]; exact Nat.le_of_ble_eq_true rfl) dJ7_copyOf_9075b_28 (fun H locs hP1 hD1 hS => ?_)
    rw [nI_clamp (by omega), sb_cl0] at hP1
    have hP2 := hP.set (κ := 1) (by decide) (by rw [ha1]; exact hP1)
    have h9 := hP2.2.2 1 (by decide)
    rw [ha1, eU_s] at h9
    refine lv_aload_n hx hb dJ7_copyOf_9075b_31 rfl (lv_at hl 0 rfl) ?_
    refine W.widen (k := 1) (n := 202) (by omega) (by omega) ?_
    exact W.aret (v := .ref z) (rt := .array .byte) hx hb hr (Or.inr ⟨_, rfl⟩) (Or.inr ⟨_, rfl⟩) (fun T9 hT9 _ => ⟨_, rfl, ⟨z, rfl, hz, by rw [hT9]; exact h9⟩, hS.F hT9⟩) hS.2.2 dJ7_copyOf_9075b_32
  · exact absurd c_1 (fun z => by have := (nI_eq (by omega) (by omega)).mp z; omega)

theorem wi_J5_ensureCapacityInternal_d00df_J4 : ∀ w ∈ wsJ40, w ∈ wsJ5_ensureCapacityInternal_d00df := by decide +kernel
set_option maxHeartbeats 4000000 in
set_option maxRecDepth 100000 in
theorem t_ensure (l : Launch) (xq : Nat → Nat) (D : va_G) (cy : Nat → ClassId) (sz : Nat) (q v u n : Nat) (a : Nat → Int32) (k : Nat) (hF : sb_Fit a) (hu : u ≤ 202) (hk : k ≤ 100) : Met l yJ5_ensureCapacityInternal_d00df wsJ5_ensureCapacityInternal_d00df ({ frames := 3, cells := 1, slots := 202, locals := 88 } : Room) (tP xq D cy sz (sA q v sz) [.ref q, .int (nI k)] [] [] (sbAt D cy q v u n a)) (tQ (fun r H9 => r = none ∧ ∃ (v1 u1 : Nat) (a1 : Nat → Int32), (v1 = v ∨ sz ≤ v1) ∧ k ≤ u1 ∧ u ≤ u1 ∧ u1 ≤ 202 ∧ sb_Fit a1 ∧ (∀ j, j < u → a1 j = a j) ∧ sbAt D cy q v1 u1 n a1 H9) (sA q v sz)) 1 202 (sA q v sz) := by
  refine Met.ofW (cc := cJ5_ensureCapacityInternal_d00df) (maxL := 3) (ret := none) (by decide) rfl ?_
  intro p e s m args below meth c s₁ B hml hv
  obtain ⟨rfl, hsz, hZ, hK, hE, hT, hRw⟩ := hv
  have hx := B.exec
  have hb := B.bytes
  have hr := B.returns
  have hts := atoms_spec (ws := wsJ5_ensureCapacityInternal_d00df) B.pre
  have hown : s.vm.findClass RJ5 = some m.cls := findClass_of_methodNamed B.named
  have hlocks := B.notSynchronized
  subst hsz
  have hS : va_S (sA q v s.heap.size) s.heap s.heap [] := va_S.rf
  obtain ⟨ad, E, hP, ha0, ha1, he0, he1⟩ := hZ.pq (A := sA q v s.heap.size) (Or.inl rfl) (Or.inr (Or.inl rfl))
  have hl := lv_entry ([.ref q, .int (nI k)]) (n := 3) (Nat.le_of_ble_eq_true rfl)
  refine W.eq (lg_entry_eq _ ([.ref q, .int (nI k)]) _) ?_
  generalize (lg_sl ([.ref q, .int (nI k)]) ++ List.replicate (3 - (lg_sl ([.ref q, .int (nI k)])).length) Slot.unset).toArray = ls at hl ⊢
  have hl : lv_has ls 3 [(0, .ref q), (1, .int (nI k))] := hl
  refine lv_aload_n hx hb dJ5_ensureCapacityInternal_d00df_0 rfl (lv_at hl 0 rfl) ?_
  refine i_get (C := RJ4) (T := TJ4) (N := 4) hx hb hts wi_J5_ensureCapacityInternal_d00df_J4 hown hK hP (κ := 0) (by decide) ha0 he0 rfl 0 (by decide) (hts _ (List.mem_of_getElem? (i := 1) rfl)) (fun _ h => h) rfl dJ5_ensureCapacityInternal_d00df_1 ?_
  refine i_alen hx hb hK hP (κ := 1) (by decide) ha1 1 he1 rfl (v := nI u) rfl dJ5_ensureCapacityInternal_d00df_4 ?_
  refine lv_aload_n hx hb dJ5_ensureCapacityInternal_d00df_5 rfl (lv_at hl 0 rfl) ?_
  refine i_get (C := RJ4) (T := TJ4) (N := 4) hx hb hts wi_J5_ensureCapacityInternal_d00df_J4 hown hK hP (κ := 0) (by decide) ha0 he0 rfl 1 (by decide) (hts _ (List.mem_of_getElem? (i := 2) rfl)) (fun _ h => h) rfl dJ5_ensureCapacityInternal_d00df_6 ?_
  refine lv_ishr hx hb dJ5_ensureCapacityInternal_d00df_9 ?_
  refine W.eq (g2 := F0 m 10 ls [.int (nI u)]) (by rw [sb_shr0]) ?_
  refine lv_istore_n (lv' := [(2, .int (nI u)), (0, .ref q), (1, .int (nI k))]) hx hb dJ5_ensureCapacityInternal_d00df_10 rfl hl (by decide) rfl (fun ls hl => ?_)
  refine lv_iload_n hx hb dJ5_ensureCapacityInternal_d00df_11 rfl (lv_at hl 2 rfl) ?_
  refine lv_iload_n hx hb dJ5_ensureCapacityInternal_d00df_12 rfl (lv_at hl 0 rfl) ?_
  refine lv_isub hx hb dJ5_ensureCapacityInternal_d00df_13 ?_
  refine lv_if_le (tgt := 38) hx hb dJ5_ensureCapacityInternal_d00df_14 (by decide) (fun c_1 => ?_) (fun c_1 => ?_)
  · have hku := (cmp_le (by omega) (by omega)).mp c_1
    refine W.widen (k := 1) (n := 202) (by omega) (by omega) ?_
    exact W.vret hx hb hr (fun T9 hT9 _ => ⟨_, rfl, ⟨rfl, v, u, a, Or.inl rfl, hku, Nat.le_refl _, hu, hF, fun _ _ => rfl, by rw [hT9]; exact hZ⟩, hS.F hT9⟩) hS.2.2 dJ5_ensureCapacityInternal_d00df_38
  · have hku : u < k := Nat.lt_of_not_le (fun z => c_1 ((cmp_le (by omega) (by omega)).mpr z))
    refine lv_aload_n hx hb dJ5_ensureCapacityInternal_d00df_17 rfl (lv_at hl 1 rfl) ?_
    refine lv_aload_n hx hb dJ5_ensureCapacityInternal_d00df_18 rfl (lv_at hl 1 rfl) ?_
    refine i_get (C := RJ4) (T := TJ4) (N := 4) hx hb hts wi_J5_ensureCapacityInternal_d00df_J4 hown hK hP (κ := 0) (by decide) ha0 he0 rfl 0 (by decide) (hts _ (List.mem_of_getElem? (i := 1) rfl)) (fun _ h => h) rfl dJ5_ensureCapacityInternal_d00df_19 ?_
    refine lv_aload_n hx hb dJ5_ensureCapacityInternal_d00df_22 rfl (lv_at hl 1 rfl) ?_
    refine lv_iload_n hx hb dJ5_ensureCapacityInternal_d00df_23 rfl (lv_at hl 2 rfl) ?_
    refine sp_callN (va_runU (As := [.int (nI k)]) (rest := [.ref v, .ref q]) ⟨hx, hb, hml, hown, hts⟩ (t_newCap l xq D cy _ q v u n a k hku hk) (va_cwU 1 hts gJ5_ensureCapacityInternal_d00df_J5_newCapacity_0f7a4_u104J4 rfl rfl rfl rfl (by decide +kernel) ⟨Nat.le_of_ble_eq_true rfl, Nat.le_of_ble_eq_true rfl⟩) (tPreV hK hE hS (fun _ h => h) (sbAt.recv hK hZ) hZ tNo tNo) rfl rfl hl.1 rfl (lv_room (Nat.le_of_ble_eq_true rfl)) dJ5_ensureCapacityInternal_d00df_24 ⟨Nat.le_of_ble_eq_true rfl, Nat.le_of_ble_eq_true rfl⟩) ?_
    refine W.eq (g2 := F0 m 27 ls [.int (nI (sb_cap k u)), .ref v, .ref q]) rfl ?_
    refine lv_aload_n hx hb dJ5_ensureCapacityInternal_d00df_27 rfl (lv_at hl 1 rfl) ?_
    refine i_get (C := RJ4) (T := TJ4) (N := 4) hx hb hts wi_J5_ensureCapacityInternal_d00df_J4 hown hK hP (κ := 0) (by decide) ha0 he0 rfl 1 (by decide) (hts _ (List.mem_of_getElem? (i := 2) rfl)) (fun _ h => h) rfl dJ5_ensureCapacityInternal_d00df_28 ?_
    refine lv_ishl hx hb dJ5_ensureCapacityInternal_d00df_31 ?_
    refine W.eq (g2 := F0 m 32 ls [.int (nI (sb_cap k u)), .ref v, .ref q]) (by rw [sb_shl0]) ?_
    have hcg := sb_cap_ge k u
    have hcm := sb_cap_gem k u
    have hcl := cap_le hku hk
    have hucap : u < sb_cap k u := by omega
    refine t_call (va_runS (As := [.ref v, .int (nI (sb_cap k u))]) (rest := [.ref q]) ⟨hx, hb, hml, hown, hts⟩ (t_copyOf l xq D cy _ v u (sb_cap k u) a hF hucap hcl) (va_cwS 2 hts gJ5_ensureCapacityInternal_d00df_J7_copyOf_9075b rfl rfl rfl (by decide +kernel) ⟨Nat.le_of_ble_eq_true rfl, Nat.le_of_ble_eq_true rfl⟩) (tPre hK hE hS (fun x h => Or.inr h) hZ.2.2 tNo tNo) rfl rfl hl.1 rfl (lv_room (Nat.le_of_ble_eq_true rfl)) dJ5_ensureCapacityInternal_d00df_32 ⟨Nat.le_of_ble_eq_true rfl, Nat.le_of_ble_eq_true rfl⟩) hS (fun x _ h => Or.inr h) (fun x h => Or.inr h) (fun r H locs hB hle hfr hS => ?_)
    obtain ⟨z, rfl, hz, hz1⟩ := hB
    refine W.eq (g2 := F0 m 35 ls [.ref z, .ref q]) rfl ?_
    have hqs : q < s.heap.size := hZ.2.1.lt
    have hq1 := hZ.2.1.kept (hfr q hqs (fun h => h.elim hZ.1 (fun h => by omega)))
    obtain ⟨ad2, E2, hP2, hb0, hb1, hf0, hf1⟩ := iP.two (A := sA q v s.heap.size) (show q ≠ z by omega) (Or.inl rfl) (Or.inr (Or.inr hz)) hq1 hz1
    refine j_put (C := RJ4) (T := TJ4) (N := 4) (ty := tyJ4 0) (v := .ref z) hx hb hts wi_J5_ensureCapacityInternal_d00df_J4 tyJ4 tyJ4_ok nmJ4 hown hK hP2 hS (κ := 0) (by decide) hb0 hf0 rfl 0 (by decide) (hts _ (List.mem_of_getElem? (i := 1) rfl)) (fun _ h => h) rfl (by decide +kernel) rfl rfl (Nat.le_of_ble_eq_true rfl) dJ5_ensureCapacityInternal_d00df_35 (fun H locs E3 hP3 hX3 hp3 hS => ?_)
    refine W.widen (k := 1) (n := 202) (by omega) (by omega) ?_
    have hsb : sbAt D cy q z (sb_cap k u) n (va_cpy a (fun _ => 0) 0 0 u) H := sbAt.of hP3 (κ := 1) (by decide) (by decide) hb0 hb1 hp3 ((hX3 1 (by decide)).trans hf1)
    exact W.vret hx hb hr (fun T9 hT9 _ => ⟨_, rfl, ⟨rfl, z, _, _, Or.inr hz, hcg, by omega, hcl, sb_fitC hF sb_fit0, fun j hj => sb_cpy0 hj, by rw [hT9]; exact hsb⟩, hS.F hT9⟩) hS.2.2 dJ5_ensureCapacityInternal_d00df_38

set_option maxHeartbeats 4000000 in
set_option maxRecDepth 100000 in
theorem t_getBytes (l : Launch) (xq : Nat → Nat) (D : va_G) (cy : Nat → ClassId) (sz : Nat) (t w : Nat) (c0 : Nat → Nat) (v u : Nat) (a : Nat → Int32) (i : Nat) (hF : sb_Fit a) (hi : i + w ≤ u) (hu : u ≤ 202) : Met l yJ0_getBytes_840e7 wsJ0_getBytes_840e7 ({ frames := 1, cells := 0, slots := 0, locals := 60 } : Room) (tP xq D cy sz (iA v sz) [.ref t, .ref v, .int (nI i), .int 0] [(t, w, c0)] [] (va_at D vwCl (v, (.inl (cy 1, u, .inl a) : va_E)))) (tQ (fun r H9 => r = none ∧ ∃ a1, sb_Fit a1 ∧ (∀ j, j < i → a1 j = a j) ∧ (∀ j, j < w → a1 (i + j) = sb_b (c0 j)) ∧ va_at D vwCl (v, (.inl (cy 1, u, .inl a1) : va_E)) H9) (iA v sz)) 0 0 (iA v sz) := by
  refine Met.ofW (cc := cJ0_getBytes_840e7) (maxL := 4) (ret := none) (by decide) rfl ?_
  intro p e s m args below meth c s₁ B hml hv
  obtain ⟨rfl, hsz, hZ, hK, hE, hT, hRw⟩ := hv
  have hx := B.exec
  have hb := B.bytes
  have hr := B.returns
  have hts := atoms_spec (ws := wsJ0_getBytes_840e7) B.pre
  have hown : s.vm.findClass RJ0 = some m.cls := findClass_of_methodNamed B.named
  have hlocks := B.notSynchronized
  subst hsz
  have hS : va_S (iA v s.heap.size) s.heap s.heap [] := va_S.rf
  have hT0 : TXs t w c0 (iA v s.heap.size) s s.heap := hT (t, w, c0) (List.mem_singleton.mpr rfl)
  have hrec := hT0.recv hS
  obtain ⟨tv, f, hO, hC, hV, hB, hL, hFf, hw⟩ := hT0
  obtain ⟨ad, E, hP, ha0, he0⟩ := arAt.pq (A := iA v s.heap.size) hZ (Or.inl rfl)
  have hl := lv_entry ([.ref t, .ref v, .int (nI i), .int 0]) (n := 4) (Nat.le_of_ble_eq_true rfl)
  refine W.eq (lg_entry_eq _ ([.ref t, .ref v, .int (nI i), .int 0]) _) ?_
  generalize (lg_sl ([.ref t, .ref v, .int (nI i), .int 0]) ++ List.replicate (4 - (lg_sl ([.ref t, .ref v, .int (nI i), .int 0])).length) Slot.unset).toArray = ls at hl ⊢
  have hl : lv_has ls 4 [(0, .ref t), (1, .ref v), (2, .int (nI i)), (3, .int 0)] := hl
  refine lv_aload_n hx hb dJ0_getBytes_840e7_0 rfl (lv_at hl 0 rfl) ?_
  refine sp_call (W.runV (As := []) (rest := []) ⟨hx, hb, hml, hown, hts⟩ (t_coder l xq D cy _ (iA v s.heap.size) t w c0) (cwV 0 hts gJ0_getBytes_840e7_J0_coder_7d493 rfl rfl rfl (by decide +kernel) ⟨Nat.le_of_ble_eq_true rfl, Nat.le_of_ble_eq_true rfl⟩) (tPreV hK hE hS (fun _ h => h) hrec trivial hT tNo) rfl rfl hl.1 rfl (lv_room (Nat.le_of_ble_eq_true rfl)) dJ0_getBytes_840e7_1 ⟨Nat.le_of_ble_eq_true rfl, Nat.le_of_ble_eq_true rfl⟩) ?_
  refine W.eq (g2 := F0 m 4 ls [.int 0]) rfl ?_
  refine lv_iload_n hx hb dJ0_getBytes_840e7_4 rfl (lv_at hl 3 rfl) ?_
  refine lv_icmp_ne (tgt := 28) hx hb dJ0_getBytes_840e7_5 (by decide) (fun c_1 => ?_) (fun c_1 => ?_)
  · exact absurd rfl c_1
  · skip
    refine lv_aload_n hx hb dJ0_getBytes_840e7_8 rfl (lv_at hl 0 rfl) ?_
    refine vk_getf hx hb hV hS hown (hts _ (List.mem_of_getElem? (i := 1) rfl)) (fun _ h => h) dJ0_getBytes_840e7_9 ?_
    refine lv_iconst (v := 0) hx hb dJ0_getBytes_840e7_12 (by decide) ?_
    refine lv_aload_n hx hb dJ0_getBytes_840e7_13 rfl (lv_at hl 1 rfl) ?_
    refine lv_iload_n hx hb dJ0_getBytes_840e7_14 rfl (lv_at hl 2 rfl) ?_
    refine lv_iload_n hx hb dJ0_getBytes_840e7_15 rfl (lv_at hl 3 rfl) ?_
    refine lv_ishl hx hb dJ0_getBytes_840e7_16 ?_
    refine W.eq (g2 := F0 m 17 ls [.int (nI i), .ref v, .int 0, .ref tv]) (by rw [sb_shl0]) ?_
    refine lv_aload_n hx hb dJ0_getBytes_840e7_17 rfl (lv_at hl 0 rfl) ?_
    refine vk_getf hx hb hV hS hown (hts _ (List.mem_of_getElem? (i := 1) rfl)) (fun _ h => h) dJ0_getBytes_840e7_18 ?_
    refine va_tlen hx hb hB hS (v := nI w) rfl dJ0_getBytes_840e7_21 ?_
    refine vk_copyt (sp := 0) (dp := nI i) (n := nI w) hx hb (by rw [hml]; exact hl.1.symm) hown (hts _ (List.mem_of_getElem? (i := 2) rfl)) (hts _ (List.mem_of_getElem? (i := 3) rfl)) (hts _ (List.mem_of_getElem? (i := 4) rfl)) (hts _ (List.mem_of_getElem? (i := 5) rfl)) hK hP.P hP.D hS hB 0 1 (by rw [sp_W_at (by decide), ha0, he0]) rfl (by decide) (nI_pos (by omega)) (nI_pos (by omega)) (by rw [nI_clamp (by omega), sb_cl0]; omega) (by rw [nI_clamp (n := w) (by omega), nI_clamp (n := i) (by omega)]; omega) (fun j _ => hFf _) (Nat.le_of_ble_eq_true rfl) (by rw [nativeFrameWords_plain _ (by decide +kernel)]; exact Nat.le_of_ble_eq_true rfl) dJ0_getBytes_840e7_22 (fun H locs hP1 hD1 hS => ?_)
    rw [nI_clamp (n := w) (by omega), nI_clamp (n := i) (by omega), sb_cl0] at hP1
    have hP2 := hP.set (κ := 0) (by decide) (by rw [ha0]; exact hP1)
    have h9 := hP2.2.2 0 (by decide)
    rw [ha0, eU_s] at h9
    refine lv_goto (tgt := 43) hx hb dJ0_getBytes_840e7_25 (by decide) ?_
    exact W.vret hx hb hr (fun T9 hT9 _ => ⟨_, rfl, ⟨rfl, _, sb_fitC hFf hF, fun j hj => pk_cpy_out (Or.inl hj), fun j hj => (pk_cpy_in (sp := 0) (dp := i) (n := w) (j := i + j) (by omega) (by omega)).trans (by rw [show 0 + (i + j - i) = j by omega]; exact (hL j hj).2), by rw [hT9]; exact h9⟩, hS.F hT9⟩) hS.2.2 dJ0_getBytes_840e7_43

theorem wi_J5_inflateIfNeededFor_a7421_J4 : ∀ w ∈ wsJ40, w ∈ wsJ5_inflateIfNeededFor_a7421 := by decide +kernel
set_option maxHeartbeats 4000000 in
set_option maxRecDepth 100000 in
theorem t_inflIf (l : Launch) (xq : Nat → Nat) (D : va_G) (cy : Nat → ClassId) (sz : Nat) (q v u n : Nat) (a : Nat → Int32) (t w : Nat) (c0 : Nat → Nat) : Met l yJ5_inflateIfNeededFor_a7421 wsJ5_inflateIfNeededFor_a7421 ({ frames := 1, cells := 0, slots := 0, locals := 20 } : Room) (tP xq D cy sz (sA q v sz) [.ref q, .ref t] [(t, w, c0)] [] (sbAt D cy q v u n a)) (sp_S none) 0 0 (fun _ => False) := by
  refine Met.ofW (cc := cJ5_inflateIfNeededFor_a7421) (maxL := 2) (ret := none) (by decide) rfl ?_
  intro p e s m args below meth c s₁ B hml hv
  obtain ⟨rfl, hsz, hZ, hK, hE, hT, hRw⟩ := hv
  have hx := B.exec
  have hb := B.bytes
  have hr := B.returns
  have hts := atoms_spec (ws := wsJ5_inflateIfNeededFor_a7421) B.pre
  have hown : s.vm.findClass RJ5 = some m.cls := findClass_of_methodNamed B.named
  have hlocks := B.notSynchronized
  subst hsz
  have hS : va_S (sA q v s.heap.size) s.heap s.heap [] := va_S.rf
  have hT0 : TXs t w c0 (sA q v s.heap.size) s s.heap := hT (t, w, c0) (List.mem_singleton.mpr rfl)
  have hrec := hT0.recv hS
  obtain ⟨tv, f, hO, hC, hV, hB, hL, hFf, hw⟩ := hT0
  obtain ⟨ad, E, hP, ha0, ha1, he0, he1⟩ := hZ.pq (A := sA q v s.heap.size) (Or.inl rfl) (Or.inr (Or.inl rfl))
  have hl := lv_entry ([.ref q, .ref t]) (n := 2) (Nat.le_of_ble_eq_true rfl)
  refine W.eq (lg_entry_eq _ ([.ref q, .ref t]) _) ?_
  generalize (lg_sl ([.ref q, .ref t]) ++ List.replicate (2 - (lg_sl ([.ref q, .ref t])).length) Slot.unset).toArray = ls at hl ⊢
  have hl : lv_has ls 2 [(0, .ref q), (1, .ref t)] := hl
  refine va_gets hx hb hE.2.2.2.2.2.1 hS hown (hts _ (List.mem_of_getElem? (i := 1) rfl)) (fun _ h => h) dJ5_inflateIfNeededFor_a7421_0 ?_
  refine lv_if_eq (tgt := 21) hx hb dJ5_inflateIfNeededFor_a7421_3 (by decide) (fun c_1 => ?_) (fun c_1 => ?_)
  · exact absurd c_1 (by decide)
  · skip
    refine lv_aload_n hx hb dJ5_inflateIfNeededFor_a7421_6 rfl (lv_at hl 0 rfl) ?_
    refine i_get (C := RJ4) (T := TJ4) (N := 4) hx hb hts wi_J5_inflateIfNeededFor_a7421_J4 hown hK hP (κ := 0) (by decide) ha0 he0 rfl 1 (by decide) (hts _ (List.mem_of_getElem? (i := 2) rfl)) (fun _ h => h) rfl dJ5_inflateIfNeededFor_a7421_7 ?_
    refine lv_aload_n hx hb dJ5_inflateIfNeededFor_a7421_10 rfl (lv_at hl 1 rfl) ?_
    refine sp_call (W.runV (As := []) (rest := [.int 0]) ⟨hx, hb, hml, hown, hts⟩ (t_coder l xq D cy _ (sA q v s.heap.size) t w c0) (cwV 0 hts gJ5_inflateIfNeededFor_a7421_J0_coder_7d493 rfl rfl rfl (by decide +kernel) ⟨Nat.le_of_ble_eq_true rfl, Nat.le_of_ble_eq_true rfl⟩) (tPreV hK hE hS (fun _ h => h) hrec trivial hT tNo) rfl rfl hl.1 rfl (lv_room (Nat.le_of_ble_eq_true rfl)) dJ5_inflateIfNeededFor_a7421_11 ⟨Nat.le_of_ble_eq_true rfl, Nat.le_of_ble_eq_true rfl⟩) ?_
    refine W.eq (g2 := F0 m 14 ls [.int 0, .int 0]) rfl ?_
    refine lv_icmp_eq (tgt := 21) hx hb dJ5_inflateIfNeededFor_a7421_14 (by decide) (fun c_2 => ?_) (fun c_2 => ?_)
    · exact W.vret hx hb hr (fun T9 hT9 _ => ⟨rfl, hT9⟩) (fun _ h => by cases h) dJ5_inflateIfNeededFor_a7421_21
    · exact absurd rfl c_2

theorem wi_J5_putStringAt_47b60_J4 : ∀ w ∈ wsJ40, w ∈ wsJ5_putStringAt_47b60 := by decide +kernel
set_option maxHeartbeats 4000000 in
set_option maxRecDepth 100000 in
theorem t_putStr (l : Launch) (xq : Nat → Nat) (D : va_G) (cy : Nat → ClassId) (sz : Nat) (q v u n : Nat) (a : Nat → Int32) (t w : Nat) (c0 : Nat → Nat) (i : Nat) (hF : sb_Fit a) (hi : i + w ≤ u) (hu : u ≤ 202) : Met l yJ5_putStringAt_47b60 wsJ5_putStringAt_47b60 ({ frames := 2, cells := 0, slots := 0, locals := 83 } : Room) (tP xq D cy sz (sA q v sz) [.ref q, .int (nI i), .ref t] [(t, w, c0)] [] (sbAt D cy q v u n a)) (tQ (fun r H9 => r = none ∧ ∃ a1, sb_Fit a1 ∧ (∀ j, j < i → a1 j = a j) ∧ (∀ j, j < w → a1 (i + j) = sb_b (c0 j)) ∧ sbAt D cy q v u n a1 H9) (sA q v sz)) 0 0 (sA q v sz) := by
  refine Met.ofW (cc := cJ5_putStringAt_47b60) (maxL := 3) (ret := none) (by decide) rfl ?_
  intro p e s m args below meth c s₁ B hml hv
  obtain ⟨rfl, hsz, hZ, hK, hE, hT, hRw⟩ := hv
  have hx := B.exec
  have hb := B.bytes
  have hr := B.returns
  have hts := atoms_spec (ws := wsJ5_putStringAt_47b60) B.pre
  have hown : s.vm.findClass RJ5 = some m.cls := findClass_of_methodNamed B.named
  have hlocks := B.notSynchronized
  subst hsz
  have hS : va_S (sA q v s.heap.size) s.heap s.heap [] := va_S.rf
  have hT0 : TXs t w c0 (sA q v s.heap.size) s s.heap := hT (t, w, c0) (List.mem_singleton.mpr rfl)
  have hrec := hT0.recv hS
  obtain ⟨ad, E, hP, ha0, ha1, he0, he1⟩ := hZ.pq (A := sA q v s.heap.size) (Or.inl rfl) (Or.inr (Or.inl rfl))
  have hl := lv_entry ([.ref q, .int (nI i), .ref t]) (n := 3) (Nat.le_of_ble_eq_true rfl)
  refine W.eq (lg_entry_eq _ ([.ref q, .int (nI i), .ref t]) _) ?_
  generalize (lg_sl ([.ref q, .int (nI i), .ref t]) ++ List.replicate (3 - (lg_sl ([.ref q, .int (nI i), .ref t])).length) Slot.unset).toArray = ls at hl ⊢
  have hl : lv_has ls 3 [(0, .ref q), (1, .int (nI i)), (2, .ref t)] := hl
  refine lv_aload_n hx hb dJ5_putStringAt_47b60_0 rfl (lv_at hl 0 rfl) ?_
  refine lv_aload_n hx hb dJ5_putStringAt_47b60_1 rfl (lv_at hl 2 rfl) ?_
  refine sp_callN (va_runU (As := [.ref t]) (rest := []) ⟨hx, hb, hml, hown, hts⟩ (t_inflIf l xq D cy _ q v u n a t w c0) (va_cwU 1 hts gJ5_putStringAt_47b60_J5_inflateIfNeededFor_a7421_u397J4 rfl rfl rfl rfl (by decide +kernel) ⟨Nat.le_of_ble_eq_true rfl, Nat.le_of_ble_eq_true rfl⟩) (tPreV hK hE hS (fun _ h => h) (sbAt.recv hK hZ) hZ hT tNo) rfl rfl hl.1 rfl (lv_room (Nat.le_of_ble_eq_true rfl)) dJ5_putStringAt_47b60_2 ⟨Nat.le_of_ble_eq_true rfl, Nat.le_of_ble_eq_true rfl⟩) ?_
  refine W.eq (g2 := F0 m 5 ls []) rfl ?_
  refine lv_aload_n hx hb dJ5_putStringAt_47b60_5 rfl (lv_at hl 2 rfl) ?_
  refine lv_aload_n hx hb dJ5_putStringAt_47b60_6 rfl (lv_at hl 0 rfl) ?_
  refine i_get (C := RJ4) (T := TJ4) (N := 4) hx hb hts wi_J5_putStringAt_47b60_J4 hown hK hP (κ := 0) (by decide) ha0 he0 rfl 0 (by decide) (hts _ (List.mem_of_getElem? (i := 1) rfl)) (fun _ h => h) rfl dJ5_putStringAt_47b60_7 ?_
  refine lv_iload_n hx hb dJ5_putStringAt_47b60_10 rfl (lv_at hl 1 rfl) ?_
  refine lv_aload_n hx hb dJ5_putStringAt_47b60_11 rfl (lv_at hl 0 rfl) ?_
  refine i_get (C := RJ4) (T := TJ4) (N := 4) hx hb hts wi_J5_putStringAt_47b60_J4 hown hK hP (κ := 0) (by decide) ha0 he0 rfl 1 (by decide) (hts _ (List.mem_of_getElem? (i := 2) rfl)) (fun _ h => h) rfl dJ5_putStringAt_47b60_12 ?_
  refine t_call (va_runV (As := [.ref v, .int (nI i), .int 0]) (rest := []) ⟨hx, hb, hml, hown, hts⟩ (t_getBytes l xq D cy _ t w c0 v u a i hF hi hu) (cwV 3 hts gJ5_putStringAt_47b60_J0_getBytes_840e7 rfl rfl rfl (by decide +kernel) ⟨Nat.le_of_ble_eq_true rfl, Nat.le_of_ble_eq_true rfl⟩) (tPreV hK hE hS (fun x h => Or.inr h) hrec hZ.2.2 hT tNo) rfl rfl hl.1 rfl (lv_room (Nat.le_of_ble_eq_true rfl)) dJ5_putStringAt_47b60_15 ⟨Nat.le_of_ble_eq_true rfl, Nat.le_of_ble_eq_true rfl⟩) hS (fun x _ h => Or.inr h) (fun x h => Or.inr h) (fun r H locs hB hle hfr hS => ?_)
  obtain ⟨rfl, a1, g1, g2, g3, g4⟩ := hB
  refine W.eq (g2 := F0 m 18 ls []) rfl ?_
  have hqs : q < s.heap.size := hZ.2.1.lt
  have hq1 := hZ.2.1.kept (hfr q hqs (fun h => h.elim hZ.1 (fun h => by omega)))
  exact W.vret hx hb hr (fun T9 hT9 _ => ⟨_, rfl, ⟨rfl, a1, g1, g2, g3, by rw [hT9]; exact ⟨hZ.1, hq1, g4⟩⟩, hS.F hT9⟩) hS.2.2 dJ5_putStringAt_47b60_18
