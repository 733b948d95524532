/-! BUILDERS: from and to -/
set_option maxHeartbeats 4000000 in
set_option maxRecDepth 100000 in
theorem t_chkLen (l : Launch) (xq : Nat → Nat) (D : va_G) (cy : Nat → ClassId) (sz : Nat) (A : Nat → Prop) (n : Nat) (hn : n ≤ 202) : Met l yJ7_checkLength_df160 wsJ7_checkLength_df160 ({ frames := 0, cells := 0, slots := 0, locals := 0 } : Room) (tP xq D cy sz (A) [.int 0, .int (nI n)] [] [] (fun _ => True)) (sp_S none) 0 0 (fun _ => False) := by
  refine Met.ofW (cc := cJ7_checkLength_df160) (maxL := 2) (ret := none) (by decide) rfl ?_
  intro p e s m args below meth c s₁ B hml hv
  obtain ⟨rfl, hsz, hZ, hK, hE, hT, hRw⟩ := hv
  have hx := B.exec
  have hb := B.bytes
  have hr := B.returns
  have hts := atoms_spec (ws := wsJ7_checkLength_df160) B.pre
  have hown : s.vm.findClass RJ7 = some m.cls := findClass_of_methodNamed B.named
  have hlocks := B.notSynchronized
  subst hsz
  have hS : va_S (A) s.heap s.heap [] := va_S.rf
  have hl := lv_entry ([.int 0, .int (nI n)]) (n := 2) (Nat.le_of_ble_eq_true rfl)
  refine W.eq (lg_entry_eq _ ([.int 0, .int (nI n)]) _) ?_
  generalize (lg_sl ([.int 0, .int (nI n)]) ++ List.replicate (2 - (lg_sl ([.int 0, .int (nI n)])).length) Slot.unset).toArray = ls at hl ⊢
  have hl : lv_has ls 2 [(0, .int 0), (1, .int (nI n))] := hl
  refine lv_iload_n hx hb dJ7_checkLength_df160_0 rfl (lv_at hl 1 rfl) ?_
  refine lv_iload_n hx hb dJ7_checkLength_df160_1 rfl (lv_at hl 0 rfl) ?_
  refine lv_icmp_ge (tgt := 37) hx hb dJ7_checkLength_df160_2 (by decide) (fun c_1 => ?_) (fun c_1 => ?_)
  · exact W.vret hx hb hr (fun T9 hT9 _ => ⟨rfl, hT9⟩) (fun _ h => by cases h) dJ7_checkLength_df160_37
  · exact absurd (nI_pos' (by omega)) c_1

set_option maxHeartbeats 4000000 in
set_option maxRecDepth 100000 in
theorem t_rangeB (l : Launch) (xq : Nat → Nat) (D : va_G) (cy : Nat → ClassId) (sz : Nat) (v u n : Nat) (a : Nat → Int32) (hF : sb_Fit a) (hn : n ≤ u) (hu : u ≤ 202) : Met l yJ7_copyOfRangeByte_39247 wsJ7_copyOfRangeByte_39247 ({ frames := 1, cells := 1, slots := 202, locals := 60 } : Room) (tP xq D cy sz (iA v sz) [.ref v, .int 0, .int (nI n)] [] [] (va_at D vwCl (v, (.inl (cy 1, u, .inl a) : va_E)))) (tQ (fun r H9 => ∃ (z : Nat) (a1 : Nat → Int32), r = some (.ref z) ∧ sz ≤ z ∧ sb_Fit a1 ∧ (∀ j, j < n → a1 j = a j) ∧ va_at D vwCl (z, (.inl (cy 1, n, .inl a1) : va_E)) H9) (iA v sz)) 1 202 (iA v sz) := by
  refine Met.ofW (cc := cJ7_copyOfRangeByte_39247) (maxL := 5) (ret := (some (.array .byte))) (by decide) rfl ?_
  intro p e s m args below meth c s₁ B hml hv
  obtain ⟨rfl, hsz, hZ, hK, hE, hT, hRw⟩ := hv
  have hx := B.exec
  have hb := B.bytes
  have hr := B.returns
  have hts := atoms_spec (ws := wsJ7_copyOfRangeByte_39247) B.pre
  have hown : s.vm.findClass RJ7 = some m.cls := findClass_of_methodNamed B.named
  have hlocks := B.notSynchronized
  subst hsz
  have hS : va_S (iA v s.heap.size) s.heap s.heap [] := va_S.rf
  obtain ⟨ad, E, hP, ha0, he0⟩ := arAt.pq (A := iA v s.heap.size) hZ (Or.inl rfl)
  have hAs : ∀ x, s.heap.size ≤ x → iA v s.heap.size x := fun x h => Or.inr h
  have hl := lv_entry ([.ref v, .int 0, .int (nI n)]) (n := 5) (Nat.le_of_ble_eq_true rfl)
  refine W.eq (lg_entry_eq _ ([.ref v, .int 0, .int (nI n)]) _) ?_
  generalize (lg_sl ([.ref v, .int 0, .int (nI n)]) ++ List.replicate (5 - (lg_sl ([.ref v, .int 0, .int (nI n)])).length) Slot.unset).toArray = ls at hl ⊢
  have hl : lv_has ls 5 [(0, .ref v), (1, .int 0), (2, .int (nI n))] := hl
  refine lv_iload_n hx hb dJ7_copyOfRangeByte_39247_0 rfl (lv_at hl 1 rfl) ?_
  refine lv_iload_n hx hb dJ7_copyOfRangeByte_39247_1 rfl (lv_at hl 2 rfl) ?_
  refine sp_callN (va_runS (As := [.int 0, .int (nI n)]) (rest := []) ⟨hx, hb, hml, hown, hts⟩ (t_chkLen l xq D cy _ (iA v s.heap.size) n (by omega)) (va_cwS 2 hts gJ7_copyOfRangeByte_39247_J7_checkLength_df160 rfl rfl rfl (by decide +kernel) ⟨Nat.le_of_ble_eq_true rfl, Nat.le_of_ble_eq_true rfl⟩) (tPre hK hE hS (fun _ h => h) trivial tNo tNo) rfl rfl hl.1 rfl (lv_room (Nat.le_of_ble_eq_true rfl)) dJ7_copyOfRangeByte_39247_2 ⟨Nat.le_of_ble_eq_true rfl, Nat.le_of_ble_eq_true rfl⟩) ?_
  refine W.eq (g2 := F0 m 5 ls []) rfl ?_
  refine lv_iload_n hx hb dJ7_copyOfRangeByte_39247_5 rfl (lv_at hl 2 rfl) ?_
  refine lv_iload_n hx hb dJ7_copyOfRangeByte_39247_6 rfl (lv_at hl 1 rfl) ?_
  refine lv_isub hx hb dJ7_copyOfRangeByte_39247_7 ?_
  refine W.eq (g2 := F0 m 8 ls [.int (nI n)]) (by rw [Int32.sub_zero]) ?_
  refine lv_istore_n (lv' := [(3, .int (nI n)), (0, .ref v), (1, .int 0), (2, .int (nI n))]) hx hb dJ7_copyOfRangeByte_39247_8 rfl hl (by decide) rfl (fun ls hl => ?_)
  refine lv_iload_n hx hb dJ7_copyOfRangeByte_39247_9 rfl (lv_at hl 0 rfl) ?_
  refine j_newa (atype := .byte) hx hb (hts _ (List.mem_of_getElem? (i := 1) rfl)) hK hP hS hAs 1 rfl (fun h => h) (x := nI n) (N' := n) (a0 := (n, .inl (fun _ => 0))) (fun _ => rfl) (nI_pos (by omega)) (nI_clamp (by omega)) (by show n * 1 ≤ _; omega) (Nat.le_of_ble_eq_true rfl) (by show 0 + n ≤ 202; omega) dJ7_copyOfRangeByte_39247_10 (fun z H ad1 E1 hP hA1 hE1 ha1 he1 hz hS => ?_)
  have f0 : ad1 0 = v := (hA1 0 (by decide)).trans ha0
  have g0 : E1 0 = .inl (cy 1, u, .inl a) := (hE1 0 (by decide)).trans he0
  refine lv_astore (lv' := [(4, .ref z), (3, .int (nI n)), (0, .ref v), (1, .int 0), (2, .int (nI n))]) hx hb dJ7_copyOfRangeByte_39247_12 hl (by decide) rfl (fun ls hl => ?_)
  refine lv_aload_n hx hb dJ7_copyOfRangeByte_39247_14 rfl (lv_at hl 2 rfl) ?_
  refine lv_iload_n hx hb dJ7_copyOfRangeByte_39247_15 rfl (lv_at hl 3 rfl) ?_
  refine lv_aload hx hb dJ7_copyOfRangeByte_39247_16 (lv_at hl 0 rfl) ?_
  refine lv_iconst (v := 0) hx hb dJ7_copyOfRangeByte_39247_18 (by decide) ?_
  refine lv_aload_n hx hb dJ7_copyOfRangeByte_39247_19 rfl (lv_at hl 2 rfl) ?_
  refine i_alen hx hb hK hP (κ := 0) (by decide) f0 1 g0 rfl (v := nI u) rfl dJ7_copyOfRangeByte_39247_20 ?_
  refine lv_iload_n hx hb dJ7_copyOfRangeByte_39247_21 rfl (lv_at hl 3 rfl) ?_
  refine lv_isub hx hb dJ7_copyOfRangeByte_39247_22 ?_
  refine W.eq (g2 := F0 m 23 ls [.int (nI u), .int 0, .ref z, .int 0, .ref v]) (by rw [Int32.sub_zero]) ?_
  refine lv_iload_n hx hb dJ7_copyOfRangeByte_39247_23 rfl (lv_at hl 1 rfl) ?_
  refine va_mmin hx hb (by rw [hml]; exact hl.1.symm) hown (hts _ (List.mem_of_getElem? (i := 2) rfl)) (hts _ (List.mem_of_getElem? (i := 3) rfl)) (hts _ (List.mem_of_getElem? (i := 4) rfl)) (hts _ (List.mem_of_getElem? (i := 5) rfl)) (Nat.le_of_ble_eq_true rfl) (Nat.le_of_ble_eq_true rfl) (Nat.le_of_ble_eq_true rfl) (by show 0 + n ≤ 202; omega) dJ7_copyOfRangeByte_39247_24 ?_
  refine W.eq (g2 := F0 m 27 ls [.int (nI n), .int 0, .ref z, .int 0, .ref v]) (by rw [nI_min (by omega) (by omega), Nat.min_eq_right hn]) ?_
  refine va_copyi (sp := 0) (dp := 0) (n := nI n) hx hb (by rw [hml]; exact hl.1.symm) hown (hts _ (List.mem_of_getElem? (i := 6) rfl)) (hts _ (List.mem_of_getElem? (i := 7) rfl)) (hts _ (List.mem_of_getElem? (i := 8) rfl)) (hts _ (List.mem_of_getElem? (i := 9) rfl)) hK hP.P hP.D hS 0 1 1 1 (by rw [sp_W_at (by decide), f0, g0]) (by rw [sp_W_at (by decide), ha1, he1]) rfl rfl rfl (by decide) (by decide) (nI_pos (by omega)) (by rw [nI_clamp (by omega), sb_cl0]; omega) (by rw [nI_clamp (by omega), sb_cl0]; omega) (fun i _ => hF _) (Nat.le_of_ble_eq_true rfl) (by rw [nativeFrameWords_plain _ (by decide +kernel)]; exact Nat.le_of_ble_eq_true rfl) dJ7_copyOfRangeByte_39247_27 (fun H locs hP1 hD1 hS => ?_)
  rw [nI_clamp (by omega), sb_cl0] at hP1
  have hP2 := hP.set (κ := 1) (by decide) (by rw [ha1]; exact hP1)
  have h9 := hP2.2.2 1 (by decide)
  rw [ha1, eU_s] at h9
  refine lv_aload hx hb dJ7_copyOfRangeByte_39247_30 (lv_at hl 0 rfl) ?_
  refine W.widen (k := 1) (n := 202) (by omega) (by omega) ?_
  exact W.aret (v := .ref z) (rt := .array .byte) hx hb hr (Or.inr ⟨_, rfl⟩) (Or.inr ⟨_, rfl⟩) (fun T9 hT9 _ => ⟨_, rfl, ⟨z, _, rfl, hz, sb_fitC hF sb_fit0, fun j hj => sb_cpy0 hj, by rw [hT9]; exact h9⟩, hS.F hT9⟩) hS.2.2 dJ7_copyOfRangeByte_39247_32

set_option maxHeartbeats 4000000 in
set_option maxRecDepth 100000 in
theorem t_range (l : Launch) (xq : Nat → Nat) (D : va_G) (cy : Nat → ClassId) (sz : Nat) (v u n : Nat) (a : Nat → Int32) (hF : sb_Fit a) (hn : n ≤ u) (hu : u ≤ 202) : Met l yJ7_copyOfRange_39247 wsJ7_copyOfRange_39247 ({ frames := 2, cells := 1, slots := 202, locals := 84 } : Room) (tP xq D cy sz (iA v sz) [.ref v, .int 0, .int (nI n)] [] [] (va_at D vwCl (v, (.inl (cy 1, u, .inl a) : va_E)))) (tQ (fun r H9 => ∃ (z : Nat) (a1 : Nat → Int32), r = some (.ref z) ∧ sz ≤ z ∧ sb_Fit a1 ∧ (∀ j, j < n → a1 j = a j) ∧ va_at D vwCl (z, (.inl (cy 1, n, .inl a1) : va_E)) H9) (iA v sz)) 1 202 (iA v sz) := by
  refine Met.ofW (cc := cJ7_copyOfRange_39247) (maxL := 3) (ret := (some (.array .byte))) (by decide) rfl ?_
  intro p e s m args below meth c s₁ B hml hv
  obtain ⟨rfl, hsz, hZ, hK, hE, hT, hRw⟩ := hv
  have hx := B.exec
  have hb := B.bytes
  have hr := B.returns
  have hts := atoms_spec (ws := wsJ7_copyOfRange_39247) B.pre
  have hown : s.vm.findClass RJ7 = some m.cls := findClass_of_methodNamed B.named
  have hlocks := B.notSynchronized
  subst hsz
  have hS : va_S (iA v s.heap.size) s.heap s.heap [] := va_S.rf
  obtain ⟨ad, E, hP, ha0, he0⟩ := arAt.pq (A := iA v s.heap.size) hZ (Or.inl rfl)
  have hAs : ∀ x, s.heap.size ≤ x → iA v s.heap.size x := fun x h => Or.inr h
  have hl := lv_entry ([.ref v, .int 0, .int (nI n)]) (n := 3) (Nat.le_of_ble_eq_true rfl)
  refine W.eq (lg_entry_eq _ ([.ref v, .int 0, .int (nI n)]) _) ?_
  generalize (lg_sl ([.ref v, .int 0, .int (nI n)]) ++ List.replicate (3 - (lg_sl ([.ref v, .int 0, .int (nI n)])).length) Slot.unset).toArray = ls at hl ⊢
  have hl : lv_has ls 3 [(0, .ref v), (1, .int 0), (2, .int (nI n))] := hl
  refine lv_iload_n hx hb dJ7_copyOfRange_39247_0 rfl (lv_at hl 1 rfl) ?_
  refine lv_if_ne (tgt := 10) hx hb dJ7_copyOfRange_39247_1 (by decide) (fun c_1 => ?_) (fun c_1 => ?_)
  · exact absurd rfl c_1
  · skip
    refine lv_iload_n hx hb dJ7_copyOfRange_39247_4 rfl (lv_at hl 2 rfl) ?_
    refine lv_aload_n hx hb dJ7_copyOfRange_39247_5 rfl (lv_at hl 0 rfl) ?_
    refine i_alen hx hb hK hP (κ := 0) (by decide) ha0 1 he0 rfl (v := nI u) rfl dJ7_copyOfRange_39247_6 ?_
    refine lv_icmp_eq (tgt := 17) hx hb dJ7_copyOfRange_39247_7 (by decide) (fun c_2 => ?_) (fun c_2 => ?_)
    · have hnu : n = u := (nI_eq (by omega) (by omega)).mp c_2
      subst hnu
      refine lv_aload_n hx hb dJ7_copyOfRange_39247_17 rfl (lv_at hl 0 rfl) ?_
      refine va_clone (x := (n, .inl a)) hx hb (by rw [hml]; exact hl.1.symm) hown (ad := "[B") (hts _ (List.mem_of_getElem? (i := 1) rfl)) (hts _ (List.mem_of_getElem? (i := 2) rfl)) (hts _ (List.mem_of_getElem? (i := 3) rfl)) (hts _ (List.mem_of_getElem? (i := 4) rfl)) (hts _ (List.mem_of_getElem? (i := 5) rfl)) hE.2.2.2.2.1.2.2.2.1 hK hP.P hP.D hS hAs 0 1 (by rw [sp_W_at (by decide), ha0, he0]) rfl (nm_B (hK.2 1 _ rfl).2) (fun i w hw => ?_) (Nat.le_of_ble_eq_true rfl) (Nat.le_of_ble_eq_true rfl) (Nat.le_of_ble_eq_true rfl) (by show 0 + n ≤ 202; omega) dJ7_copyOfRange_39247_18 (fun z H hK1 hP1 hD1 hS => ?_)
      · have hi : i < n := by
          have h8 := (Array.getElem?_eq_some_iff.mp hw).1
          have h7 : (vp_cell (cy 1) (n, .inl a)).slots.size = n := arrV_size _ _ _
          omega
        have h6 : (vp_cell (cy 1) (n, .inl a)).slots[i]? = some (.int (a i)) := arrV_read _ _ hi
        rw [h6] at hw
        cases hw
        exact hF i
      have h9 : va_at D vwCl (z, (.inl (cy 1, n, .inl a) : va_E)) H := hP1 1 _ rfl
      have hzA : iA v s.heap.size z := hD1.2 1 _ rfl
      have hz : s.heap.size ≤ z := hzA.elim (fun h => absurd (hD1.1 1 0 _ _ rfl rfl (by show z = ad 0; rw [ha0]; exact h)) (by decide)) id
      refine va_castA hx hb hown (hts _ (List.mem_of_getElem? (i := 6) rfl)) hP1 1 rfl (nm_B (hK.2 1 _ rfl).2) dJ7_copyOfRange_39247_21 ?_
      refine W.widen (k := 1) (n := 202) (by omega) (by omega) ?_
      exact W.aret (v := .ref z) (rt := .array .byte) hx hb hr (Or.inr ⟨_, rfl⟩) (Or.inr ⟨_, rfl⟩) (fun T9 hT9 _ => ⟨_, rfl, ⟨z, a, rfl, hz, hF, fun _ _ => rfl, by rw [hT9]; exact h9⟩, hS.F hT9⟩) hS.2.2 dJ7_copyOfRange_39247_24
    · skip
      refine lv_aload_n hx hb dJ7_copyOfRange_39247_10 rfl (lv_at hl 0 rfl) ?_
      refine lv_iload_n hx hb dJ7_copyOfRange_39247_11 rfl (lv_at hl 1 rfl) ?_
      refine lv_iload_n hx hb dJ7_copyOfRange_39247_12 rfl (lv_at hl 2 rfl) ?_
      refine t_call (va_runS (As := [.ref v, .int 0, .int (nI n)]) (rest := []) ⟨hx, hb, hml, hown, hts⟩ (t_rangeB l xq D cy _ v u n a hF hn hu) (va_cwS 3 hts gJ7_copyOfRange_39247_J7_copyOfRangeByte_39247 rfl rfl rfl (by decide +kernel) ⟨Nat.le_of_ble_eq_true rfl, Nat.le_of_ble_eq_true rfl⟩) (tPre hK hE hS (fun _ h => h) hZ tNo tNo) rfl rfl hl.1 rfl (lv_room (Nat.le_of_ble_eq_true rfl)) dJ7_copyOfRange_39247_13 ⟨Nat.le_of_ble_eq_true rfl, Nat.le_of_ble_eq_true rfl⟩) hS (fun x _ h => h) (fun x h => h) (fun r H locs hB hle hfr hS => ?_)
      obtain ⟨z, a1, rfl, g1, g2, g3, g4⟩ := hB
      refine W.eq (g2 := F0 m 16 ls [.ref z]) rfl ?_
      exact W.aret (v := .ref z) (rt := .array .byte) hx hb hr (Or.inr ⟨_, rfl⟩) (Or.inr ⟨_, rfl⟩) (fun T9 hT9 _ => ⟨_, rfl, ⟨z, a1, rfl, g1, g2, g3, by rw [hT9]; exact g4⟩, hS.F hT9⟩) hS.2.2 dJ7_copyOfRange_39247_16

theorem wi_J0_init_db425_J0 : ∀ w ∈ wsJ00, w ∈ wsJ0_init_db425 := by decide +kernel
set_option maxHeartbeats 4000000 in
set_option maxRecDepth 100000 in
theorem t_strInit2 (l : Launch) (xq : Nat → Nat) (D : va_G) (cy : Nat → ClassId) (sz : Nat) (y : Nat) (q v u n : Nat) (a : Nat → Int32) (c1 : Nat → Nat) (hF : sb_Fit a) (hL : sb_Lat c1 n a) (hn : n ≤ u) (hu : u ≤ 202) : Met l yJ0_init_db425 wsJ0_init_db425 ({ frames := 3, cells := 1, slots := 202, locals := 106 } : Room) (tP xq D cy sz (fun x => x = y ∨ sA q v sz x) [.ref y, .ref q, .null] [] [] (fun H9 => va_at D vwCl (y, (.inr (0, [.null, .int 0, .int 0, .int 0]) : va_E)) H9 ∧ y ≠ q ∧ y ≠ v ∧ sbAt D cy q v u n a H9)) (tQ (fun r H9 => r = none ∧ ∃ (z : Nat) (a1 : Nat → Int32), sz ≤ z ∧ sb_Fit a1 ∧ sb_Lat c1 n a1 ∧ va_at D vwCl (y, (.inr (0, [.ref z, .int 0, .int 0, .int 0]) : va_E)) H9 ∧ va_at D vwCl (z, (.inl (cy 1, n, .inl a1) : va_E)) H9) (fun x => x = y ∨ sA q v sz x)) 1 202 (fun x => x = y ∨ sA q v sz x) := by
  refine Met.ofW (cc := cJ0_init_db425) (maxL := 5) (ret := none) (by decide) rfl ?_
  intro p e s m args below meth c s₁ B hml hv
  obtain ⟨rfl, hsz, hZ, hK, hE, hT, hRw⟩ := hv
  have hx := B.exec
  have hb := B.bytes
  have hr := B.returns
  have hts := atoms_spec (ws := wsJ0_init_db425) B.pre
  have hown : s.vm.findClass RJ0 = some m.cls := findClass_of_methodNamed B.named
  have hlocks := B.notSynchronized
  subst hsz
  have hS : va_S (fun x => x = y ∨ sA q v s.heap.size x) s.heap s.heap [] := va_S.rf
  obtain ⟨hy, hyq, hyv, hZ⟩ := hZ
  obtain ⟨ad, E, hP, ha0, ha1, ha2, he0, he1, he2⟩ := iP.three (A := fun x => x = y ∨ sA q v s.heap.size x) hyq hyv hZ.1 (Or.inl rfl) (Or.inr (Or.inl rfl)) (Or.inr (Or.inr (Or.inl rfl))) hy hZ.2.1 hZ.2.2
  have hin : meth.name = "<init>" := (name_of_methodNamed B.named B.method).1
  have hl := lv_entry ([.ref y, .ref q, .null]) (n := 5) (Nat.le_of_ble_eq_true rfl)
  refine W.eq (lg_entry_eq _ ([.ref y, .ref q, .null]) _) ?_
  generalize (lg_sl ([.ref y, .ref q, .null]) ++ List.replicate (5 - (lg_sl ([.ref y, .ref q, .null])).length) Slot.unset).toArray = ls at hl ⊢
  have hl : lv_has ls 5 [(0, .ref y), (1, .ref q), (2, .null)] := hl
  refine lv_aload_n hx hb dJ0_init_db425_0 rfl (lv_at hl 0 rfl) ?_
  refine W.objInit hx hb hown (hts _ (List.mem_of_getElem? (i := 1) rfl)) (hts _ (List.mem_of_getElem? (i := 2) rfl)) (hts _ (List.mem_of_getElem? (i := 3) rfl)) rfl (by rw [hml]; exact hl.1) rfl dJ0_init_db425_1 (Nat.le_of_ble_eq_true rfl) (Nat.le_of_ble_eq_true rfl) ?_
  refine W.eq (g2 := F0 m 4 ls []) rfl ?_
  refine lv_aload_n hx hb dJ0_init_db425_4 rfl (lv_at hl 1 rfl) ?_
  refine sp_callN (va_runU (As := []) (rest := []) ⟨hx, hb, hml, hown, hts⟩ (t_getValue l xq D cy _ q v u n a) (va_cwU 0 hts gJ0_init_db425_J5_getValue_6d5f1_u552J4 rfl rfl rfl rfl (by decide +kernel) ⟨Nat.le_of_ble_eq_true rfl, Nat.le_of_ble_eq_true rfl⟩) (tPreV hK hE hS (fun x h => Or.inr h) (sbAt.recv hK hZ) hZ tNo tNo) rfl rfl hl.1 rfl (lv_room (Nat.le_of_ble_eq_true rfl)) dJ0_init_db425_5 ⟨Nat.le_of_ble_eq_true rfl, Nat.le_of_ble_eq_true rfl⟩) ?_
  refine W.eq (g2 := F0 m 8 ls [.ref v]) rfl ?_
  refine lv_astore_n (lv' := [(3, .ref v), (0, .ref y), (1, .ref q), (2, .null)]) hx hb dJ0_init_db425_8 rfl hl (by decide) rfl (fun ls hl => ?_)
  refine lv_aload_n hx hb dJ0_init_db425_9 rfl (lv_at hl 2 rfl) ?_
  refine sp_callN (va_runU (As := []) (rest := []) ⟨hx, hb, hml, hown, hts⟩ (t_sbLen4 l xq D cy _ q v u n a) (va_cwO 0 hts gJ0_init_db425_J4_length_8abf5_u549J4 rfl rfl rfl (List.mem_of_getElem? (i := 25) rfl) (by decide +kernel) ⟨Nat.le_of_ble_eq_true rfl, Nat.le_of_ble_eq_true rfl⟩) (tPreV hK hE hS (fun x h => Or.inr h) (sbAt.recv hK hZ) hZ tNo tNo) rfl rfl hl.1 rfl (lv_room (Nat.le_of_ble_eq_true rfl)) dJ0_init_db425_10 ⟨Nat.le_of_ble_eq_true rfl, Nat.le_of_ble_eq_true rfl⟩) ?_
  refine W.eq (g2 := F0 m 13 ls [.int (nI n)]) rfl ?_
  refine lv_istore (lv' := [(4, .int (nI n)), (3, .ref v), (0, .ref y), (1, .ref q), (2, .null)]) hx hb dJ0_init_db425_13 hl (by decide) rfl (fun ls hl => ?_)
  refine lv_aload_n hx hb dJ0_init_db425_15 rfl (lv_at hl 3 rfl) ?_
  refine sp_callN (va_runU (As := []) (rest := []) ⟨hx, hb, hml, hown, hts⟩ (t_sbLat l xq D cy _ q v u n a) (va_cwU 0 hts gJ0_init_db425_J5_isLatin1_aae02_u1047J4 rfl rfl rfl rfl (by decide +kernel) ⟨Nat.le_of_ble_eq_true rfl, Nat.le_of_ble_eq_true rfl⟩) (tPreV hK hE hS (fun x h => Or.inr h) (sbAt.recv hK hZ) hZ tNo tNo) rfl rfl hl.1 rfl (lv_room (Nat.le_of_ble_eq_true rfl)) dJ0_init_db425_16 ⟨Nat.le_of_ble_eq_true rfl, Nat.le_of_ble_eq_true rfl⟩) ?_
  refine W.eq (g2 := F0 m 19 ls [.int 1]) rfl ?_
  refine lv_if_eq (tgt := 41) hx hb dJ0_init_db425_19 (by decide) (fun c_1 => ?_) (fun c_1 => ?_)
  · exact absurd c_1 (by decide)
  · skip
    refine lv_aload_n hx hb dJ0_init_db425_22 rfl (lv_at hl 2 rfl) ?_
    refine lv_iconst (v := 0) hx hb dJ0_init_db425_23 (by decide) ?_
    refine j_putF (C := RJ0) (T := TJ0) (N := 4) (ty := tyJ0 1) (v := .int 0) hx hb hts wi_J0_init_db425_J0 tyJ0 tyJ0_ok nmJ0 hown hK hP hS (κ := 0) (by decide) ha0 he0 rfl 1 (by decide) (hts _ (List.mem_of_getElem? (i := 4) rfl)) (fun _ h => h) rfl hin rfl (by decide +kernel) rfl rfl (Nat.le_of_ble_eq_true rfl) dJ0_init_db425_24 (fun H locs E5 hP5 hX5 hp5 hS => ?_)
    have hS5 := hS
    have hv5 : va_at D vwCl (v, (.inl (cy 1, u, .inl a) : va_E)) H := by have h9 := hP5.2.2 2 (by decide); rw [ha2, hX5 2 (by decide), he2] at h9; exact h9
    have hy5 : va_at D vwCl (y, (.inr (0, [.null, .int 0, .int 0, .int 0]) : va_E)) H := by have h9 := hP5.2.2 0 (by decide); rw [ha0, hp5] at h9; exact h9
    have hiA : ∀ x, iA v H.size x → (x = y ∨ sA q v s.heap.size x) := fun x h => Or.inr (Or.inr (h.elim Or.inl (fun h => Or.inr (Nat.le_trans hS.1 h))))
    refine lv_aload_n hx hb dJ0_init_db425_27 rfl (lv_at hl 2 rfl) ?_
    refine lv_aload_n hx hb dJ0_init_db425_28 rfl (lv_at hl 1 rfl) ?_
    refine lv_iconst (v := 0) hx hb dJ0_init_db425_29 (by decide) ?_
    refine lv_iload hx hb dJ0_init_db425_30 (lv_at hl 0 rfl) ?_
    refine t_call (va_runS (As := [.ref v, .int 0, .int (nI n)]) (rest := [.ref y]) ⟨hx, hb, hml, hown, hts⟩ (t_range l xq D cy _ v u n a hF hn hu) (va_cwS 3 hts gJ0_init_db425_J7_copyOfRange_39247 rfl rfl rfl (by decide +kernel) ⟨Nat.le_of_ble_eq_true rfl, Nat.le_of_ble_eq_true rfl⟩) (tPre hK hE hS hiA hv5 tNo tNo) rfl rfl hl.1 rfl (lv_room (Nat.le_of_ble_eq_true rfl)) dJ0_init_db425_32 ⟨Nat.le_of_ble_eq_true rfl, Nat.le_of_ble_eq_true rfl⟩) hS (fun x _ h => hiA x h) (fun x h => hiA x h) (fun r H locs hB hle hfr hS => ?_)
    obtain ⟨z, a1, rfl, g1, g2, g3, g4⟩ := hB
    refine W.eq (g2 := F0 m 35 ls [.ref z, .ref y]) rfl ?_
    have hyl := hy5.lt
    have hy6 := hy5.kept (hfr y hyl (fun h => h.elim hyv (fun h => by have h9 : y < _ := hyl; omega)))
    have hz0 : s.heap.size ≤ z := Nat.le_trans (Nat.le_trans hS5.1 (Nat.le_refl _)) g1
    obtain ⟨ad2, E2, hP2, hc0, hc1, hh0, hh1⟩ := iP.two (A := fun x => x = y ∨ sA q v s.heap.size x) (show y ≠ z by have h9 : y < _ := hyl; omega) (Or.inl rfl) (Or.inr (Or.inr (Or.inr hz0))) hy6 g4
    refine j_putF (C := RJ0) (T := TJ0) (N := 4) (ty := tyJ0 0) (v := .ref z) hx hb hts wi_J0_init_db425_J0 tyJ0 tyJ0_ok nmJ0 hown hK hP2 hS (κ := 0) (by decide) hc0 hh0 rfl 0 (by decide) (hts _ (List.mem_of_getElem? (i := 5) rfl)) (fun _ h => h) rfl hin rfl (by decide +kernel) rfl rfl (Nat.le_of_ble_eq_true rfl) dJ0_init_db425_35 (fun H locs E6 hP6 hX6 hp6 hS => ?_)
    have hy7 : va_at D vwCl (y, (.inr (0, [.ref z, .int 0, .int 0, .int 0]) : va_E)) H := by have h9 := hP6.2.2 0 (by decide); rw [hc0, hp6] at h9; exact h9
    have hz7 : va_at D vwCl (z, (.inl (cy 1, n, .inl a1) : va_E)) H := by have h9 := hP6.2.2 1 (by decide); rw [hc1, hX6 1 (by decide), hh1] at h9; exact h9
    refine lv_goto (tgt := 97) hx hb dJ0_init_db425_38 (by decide) ?_
    exact W.vret hx hb hr (fun T9 hT9 _ => ⟨_, rfl, ⟨rfl, z, a1, hz0, g2, sb_latKeep hL g3, by rw [hT9]; exact hy7, by rw [hT9]; exact hz7⟩, hS.F hT9⟩) hS.2.2 dJ0_init_db425_97

set_option maxHeartbeats 4000000 in
set_option maxRecDepth 100000 in
theorem t_strInit1 (l : Launch) (xq : Nat → Nat) (D : va_G) (cy : Nat → ClassId) (sz : Nat) (y : Nat) (q v u n : Nat) (a : Nat → Int32) (c1 : Nat → Nat) (hF : sb_Fit a) (hL : sb_Lat c1 n a) (hn : n ≤ u) (hu : u ≤ 202) : Met l yJ0_init_81219 wsJ0_init_81219 ({ frames := 4, cells := 1, slots := 202, locals := 130 } : Room) (tP xq D cy sz (fun x => x = y ∨ sA q v sz x) [.ref y, .ref q] [] [] (fun H9 => va_at D vwCl (y, (.inr (0, [.null, .int 0, .int 0, .int 0]) : va_E)) H9 ∧ y ≠ q ∧ y ≠ v ∧ sbAt D cy q v u n a H9)) (tQ (fun r H9 => r = none ∧ ∃ (z : Nat) (a1 : Nat → Int32), sz ≤ z ∧ sb_Fit a1 ∧ sb_Lat c1 n a1 ∧ va_at D vwCl (y, (.inr (0, [.ref z, .int 0, .int 0, .int 0]) : va_E)) H9 ∧ va_at D vwCl (z, (.inl (cy 1, n, .inl a1) : va_E)) H9) (fun x => x = y ∨ sA q v sz x)) 1 202 (fun x => x = y ∨ sA q v sz x) := by
  refine Met.ofW (cc := cJ0_init_81219) (maxL := 2) (ret := none) (by decide) rfl ?_
  intro p e s m args below meth c s₁ B hml hv
  obtain ⟨rfl, hsz, hZ, hK, hE, hT, hRw⟩ := hv
  have hx := B.exec
  have hb := B.bytes
  have hr := B.returns
  have hts := atoms_spec (ws := wsJ0_init_81219) B.pre
  have hown : s.vm.findClass RJ0 = some m.cls := findClass_of_methodNamed B.named
  have hlocks := B.notSynchronized
  subst hsz
  have hS : va_S (fun x => x = y ∨ sA q v s.heap.size x) s.heap s.heap [] := va_S.rf
  have hl := lv_entry ([.ref y, .ref q]) (n := 2) (Nat.le_of_ble_eq_true rfl)
  refine W.eq (lg_entry_eq _ ([.ref y, .ref q]) _) ?_
  generalize (lg_sl ([.ref y, .ref q]) ++ List.replicate (2 - (lg_sl ([.ref y, .ref q])).length) Slot.unset).toArray = ls at hl ⊢
  have hl : lv_has ls 2 [(0, .ref y), (1, .ref q)] := hl
  refine lv_aload_n hx hb dJ0_init_81219_0 rfl (lv_at hl 0 rfl) ?_
  refine lv_aload_n hx hb dJ0_init_81219_1 rfl (lv_at hl 1 rfl) ?_
  refine lv_null hx hb dJ0_init_81219_2 ?_
  refine t_call (va_runI (As := [.ref q, .null]) (rest := []) ⟨hx, hb, hml, hown, hts⟩ (t_strInit2 l xq D cy _ y q v u n a c1 hF hL hn hu) (cwI 2 hts gJ0_init_81219_J0_init_db425 rfl rfl rfl (hts _ (List.mem_of_getElem? (i := 3) rfl)) (hts _ (List.mem_of_getElem? (i := 1) rfl)) (hts _ (List.mem_of_getElem? (i := 2) rfl)) rfl (by decide +kernel) ⟨Nat.le_of_ble_eq_true rfl, Nat.le_of_ble_eq_true rfl⟩) (tPre hK hE hS (fun _ h => h) hZ tNo tNo) rfl rfl hl.1 rfl (lv_room (Nat.le_of_ble_eq_true rfl)) dJ0_init_81219_3 ⟨Nat.le_of_ble_eq_true rfl, Nat.le_of_ble_eq_true rfl⟩) hS (fun x _ h => h) (fun x h => h) (fun r H locs hB hle hfr hS => ?_)
  obtain ⟨rfl, hB⟩ := hB
  refine W.eq (g2 := F0 m 6 ls []) rfl ?_
  exact W.vret hx hb hr (fun T9 hT9 _ => ⟨_, rfl, ⟨rfl, by rw [hT9]; exact hB⟩, hS.F hT9⟩) hS.2.2 dJ0_init_81219_6

theorem wi_J4_toString_0e30d_J0 : ∀ w ∈ wsJ00, w ∈ wsJ4_toString_0e30d := by decide +kernel
set_option maxHeartbeats 4000000 in
set_option maxRecDepth 100000 in
theorem t_toString (l : Launch) (xq : Nat → Nat) (D : va_G) (cy : Nat → ClassId) (sz : Nat) (q v u n : Nat) (a : Nat → Int32) (c1 : Nat → Nat) (hF : sb_Fit a) (hL : sb_Lat c1 n a) (hn : n ≤ u) (hu : u ≤ 202) : Met l yJ4_toString_0e30d wsJ4_toString_0e30d ({ frames := 5, cells := 2, slots := 206, locals := 151 } : Room) (tP xq D cy sz (sA q v sz) [.ref q] [] [] (sbAt D cy q v u n a)) (tQ (fun r H9 => ∃ (y z : Nat) (a1 : Nat → Int32), r = some (.ref y) ∧ sz ≤ y ∧ sz ≤ z ∧ sb_Fit a1 ∧ sb_Lat c1 n a1 ∧ va_at D vwCl (y, (.inr (0, [.ref z, .int 0, .int 0, .int 0]) : va_E)) H9 ∧ va_at D vwCl (z, (.inl (cy 1, n, .inl a1) : va_E)) H9) (sA q v sz)) 2 206 (sA q v sz) := by
  refine Met.ofW (cc := cJ4_toString_0e30d) (maxL := 1) (ret := (some (.object "java/lang/String"))) (by decide) rfl ?_
  intro p e s m args below meth c s₁ B hml hv
  obtain ⟨rfl, hsz, hZ, hK, hE, hT, hRw⟩ := hv
  have hx := B.exec
  have hb := B.bytes
  have hr := B.returns
  have hts := atoms_spec (ws := wsJ4_toString_0e30d) B.pre
  have hown : s.vm.findClass RJ4 = some m.cls := findClass_of_methodNamed B.named
  have hlocks := B.notSynchronized
  subst hsz
  have hS : va_S (sA q v s.heap.size) s.heap s.heap [] := va_S.rf
  have hl := lv_entry ([.ref q]) (n := 1) (Nat.le_of_ble_eq_true rfl)
  refine W.eq (lg_entry_eq _ ([.ref q]) _) ?_
  generalize (lg_sl ([.ref q]) ++ List.replicate (1 - (lg_sl ([.ref q])).length) Slot.unset).toArray = ls at hl ⊢
  have hl : lv_has ls 1 [(0, .ref q)] := hl
  have hqv := hZ.1
  have hql := hZ.2.1.lt
  have hvl := hZ.2.2.lt
  refine sp_new (fs := [.null, .int 0, .int 0, .int 0]) (ci := 0) (C := RJ0) (T := TJ0) (N := 4) hx hb hts wi_J4_toString_0e30d_J0 tyJ0 tyJ0_ok hown (hts _ (List.mem_of_getElem? (i := 1) rfl)) (hts _ (List.mem_of_getElem? (i := 2) rfl)) (hts _ (List.mem_of_getElem? (i := 3) rfl)) hK hS rfl (fun j hj => by rcases (show j = 0 ∨ j = 1 ∨ j = 2 ∨ j = 3 by omega) with rfl | rfl | rfl | rfl <;> rfl) (Nat.le_of_ble_eq_true rfl) (Nat.le_of_ble_eq_true rfl) dJ4_toString_0e30d_0 (fun y H hy0 hy1 hk hat hS => ?_)
  have hq1 : q < s.heap.size := hql
  have hv1 : v < s.heap.size := hvl
  have hZ1 : sbAt D cy q v u n a H := ⟨hqv, hZ.2.1.kept (hk q hq1), hZ.2.2.kept (hk v hv1)⟩
  have hsub : ∀ x, (x = y ∨ sA q v H.size x) → sA q v s.heap.size x := fun x h => h.elim (fun h => Or.inr (Or.inr (by omega))) (fun h => h.elim Or.inl (fun h => h.elim (fun h => Or.inr (Or.inl h)) (fun h => Or.inr (Or.inr (by omega)))))
  refine lv_dup hx hb dJ4_toString_0e30d_3 rfl ?_
  refine lv_aload_n hx hb dJ4_toString_0e30d_4 rfl (lv_at hl 0 rfl) ?_
  refine t_call (va_runI (As := [.ref q]) (rest := [.ref y]) ⟨hx, hb, hml, hown, hts⟩ (t_strInit1 l xq D cy _ y q v u n a c1 hF hL hn hu) (cwI 1 hts gJ4_toString_0e30d_J0_init_81219 rfl rfl rfl (hts _ (List.mem_of_getElem? (i := 3) rfl)) (hts _ (List.mem_of_getElem? (i := 4) rfl)) (hts _ (List.mem_of_getElem? (i := 5) rfl)) rfl (by decide +kernel) ⟨Nat.le_of_ble_eq_true rfl, Nat.le_of_ble_eq_true rfl⟩) (tPre hK hE hS hsub ⟨hat, by omega, by omega, hZ1⟩ tNo tNo) rfl rfl hl.1 rfl (lv_room (Nat.le_of_ble_eq_true rfl)) dJ4_toString_0e30d_5 ⟨Nat.le_of_ble_eq_true rfl, Nat.le_of_ble_eq_true rfl⟩) hS (fun x _ h => hsub x h) (fun x h => hsub x h) (fun r H2 locs hB hle hfr hS => ?_)
  obtain ⟨rfl, z, a1, g1, g2, g3, g4, g5⟩ := hB
  refine W.eq (g2 := F0 m 8 ls [.ref y]) rfl ?_
  refine W.widen (k := 2) (n := 206) (by omega) (by omega) ?_
  exact W.aret (v := .ref y) (rt := .object "java/lang/String") hx hb hr (Or.inl ⟨_, rfl⟩) (Or.inr ⟨_, rfl⟩) (fun T9 hT9 _ => ⟨_, rfl, ⟨y, z, a1, rfl, by omega, by omega, g2, g3, by rw [hT9]; exact g4, by rw [hT9]; exact g5⟩, hS.F hT9⟩) hS.2.2 dJ4_toString_0e30d_8

theorem wi_J5_init_d00df_J4 : ∀ w ∈ wsJ40, w ∈ wsJ5_init_d00df := by decide +kernel
set_option maxHeartbeats 4000000 in
set_option maxRecDepth 100000 in
theorem t_sbInit5 (l : Launch) (xq : Nat → Nat) (D : va_G) (cy : Nat → ClassId) (sz : Nat) (q : Nat) : Met l yJ5_init_d00df wsJ5_init_d00df ({ frames := 1, cells := 1, slots := 16, locals := 30 } : Room) (tP xq D cy sz (iA q sz) [.ref q, .int 16] [] [] (fun H9 => va_at D vwCl (q, (.inr (1, [.null, .int 0, .int 0, .int 0]) : va_E)) H9)) (tQ (fun r H9 => r = none ∧ ∃ v, sz ≤ v ∧ sbAt D cy q v 16 0 (fun _ => 0) H9) (iA q sz)) 1 16 (iA q sz) := by
  refine Met.ofW (cc := cJ5_init_d00df) (maxL := 2) (ret := none) (by decide) rfl ?_
  intro p e s m args below meth c s₁ B hml hv
  obtain ⟨rfl, hsz, hZ, hK, hE, hT, hRw⟩ := hv
  have hx := B.exec
  have hb := B.bytes
  have hr := B.returns
  have hts := atoms_spec (ws := wsJ5_init_d00df) B.pre
  have hown : s.vm.findClass RJ5 = some m.cls := findClass_of_methodNamed B.named
  have hlocks := B.notSynchronized
  subst hsz
  have hS : va_S (iA q s.heap.size) s.heap s.heap [] := va_S.rf
  have hP := iP_first (A := iA q s.heap.size) hZ (Or.inl rfl)
  have hAs : ∀ x, s.heap.size ≤ x → iA q s.heap.size x := fun x h => Or.inr h
  have hl := lv_entry ([.ref q, .int 16]) (n := 2) (Nat.le_of_ble_eq_true rfl)
  refine W.eq (lg_entry_eq _ ([.ref q, .int 16]) _) ?_
  generalize (lg_sl ([.ref q, .int 16]) ++ List.replicate (2 - (lg_sl ([.ref q, .int 16])).length) Slot.unset).toArray = ls at hl ⊢
  have hl : lv_has ls 2 [(0, .ref q), (1, .int 16)] := hl
  refine lv_aload_n hx hb dJ5_init_d00df_0 rfl (lv_at hl 0 rfl) ?_
  refine W.objInit hx hb hown (hts _ (List.mem_of_getElem? (i := 1) rfl)) (hts _ (List.mem_of_getElem? (i := 2) rfl)) (hts _ (List.mem_of_getElem? (i := 3) rfl)) rfl (by rw [hml]; exact hl.1) rfl dJ5_init_d00df_1 (Nat.le_of_ble_eq_true rfl) (Nat.le_of_ble_eq_true rfl) ?_
  refine W.eq (g2 := F0 m 4 ls []) rfl ?_
  refine va_gets hx hb hE.2.2.2.2.2.1 hS hown (hts _ (List.mem_of_getElem? (i := 4) rfl)) (fun _ h => h) dJ5_init_d00df_4 ?_
  refine lv_if_eq (tgt := 25) hx hb dJ5_init_d00df_7 (by decide) (fun c_1 => ?_) (fun c_1 => ?_)
  · exact absurd c_1 (by decide)
  · skip
    refine lv_aload_n hx hb dJ5_init_d00df_10 rfl (lv_at hl 0 rfl) ?_
    refine lv_iload_n hx hb dJ5_init_d00df_11 rfl (lv_at hl 1 rfl) ?_
    refine j_newa (atype := .byte) hx hb (hts _ (List.mem_of_getElem? (i := 5) rfl)) hK hP hS hAs 1 rfl (fun h => h) (x := 16) (N' := 16) (a0 := (16, .inl (fun _ => 0))) (fun _ => rfl) (by decide) rfl (Nat.le_of_ble_eq_true rfl) (Nat.le_of_ble_eq_true rfl) (Nat.le_of_ble_eq_true rfl) dJ5_init_d00df_12 (fun v H ad1 E1 hP hA1 hE1 ha1 he1 hz hS => ?_)
    have f0 : ad1 0 = q := hA1 0 (by decide)
    have g0 : E1 0 = .inr (1, [.null, .int 0, .int 0, .int 0]) := hE1 0 (by decide)
    refine j_put (C := RJ4) (T := TJ4) (N := 4) (ty := tyJ4 0) (v := .ref v) hx hb hts wi_J5_init_d00df_J4 tyJ4 tyJ4_ok nmJ4 hown hK hP hS (κ := 0) (by decide) f0 g0 rfl 0 (by decide) (hts _ (List.mem_of_getElem? (i := 6) rfl)) (fun _ h => h) rfl (by decide +kernel) rfl rfl (Nat.le_of_ble_eq_true rfl) dJ5_init_d00df_14 (fun H locs E3 hP3 hX3 hp3 hS => ?_)
    refine lv_aload_n hx hb dJ5_init_d00df_17 rfl (lv_at hl 0 rfl) ?_
    refine lv_iconst (v := 0) hx hb dJ5_init_d00df_18 (by decide) ?_
    have e3 : E3 1 = .inl (cy 1, 16, .inl (fun _ => 0)) := (hX3 1 (by decide)).trans he1
    refine j_put (C := RJ4) (T := TJ4) (N := 4) (ty := tyJ4 1) (v := .int 0) hx hb hts wi_J5_init_d00df_J4 tyJ4 tyJ4_ok nmJ4 hown hK hP3 hS (κ := 0) (by decide) f0 hp3 rfl 1 (by decide) (hts _ (List.mem_of_getElem? (i := 7) rfl)) (fun _ h => h) rfl (by decide +kernel) rfl rfl (Nat.le_of_ble_eq_true rfl) dJ5_init_d00df_19 (fun H locs E4 hP4 hX4 hp4 hS => ?_)
    have hsb : sbAt D cy q v 16 0 (fun _ => 0) H := sbAt.of hP4 (κ := 1) (by decide) (by decide) f0 ha1 hp4 ((hX4 1 (by decide)).trans e3)
    refine lv_goto (tgt := 38) hx hb dJ5_init_d00df_22 (by decide) ?_
    exact W.vret hx hb hr (fun T9 hT9 _ => ⟨_, rfl, ⟨rfl, v, hz, by rw [hT9]; exact hsb⟩, hS.F hT9⟩) hS.2.2 dJ5_init_d00df_38

set_option maxHeartbeats 4000000 in
set_option maxRecDepth 100000 in
theorem t_sbInit (l : Launch) (xq : Nat → Nat) (D : va_G) (cy : Nat → ClassId) (sz : Nat) (q : Nat) : Met l yJ4_init_da8c8 wsJ4_init_da8c8 ({ frames := 2, cells := 1, slots := 16, locals := 51 } : Room) (tP xq D cy sz (iA q sz) [.ref q] [] [] (fun H9 => va_at D vwCl (q, (.inr (1, [.null, .int 0, .int 0, .int 0]) : va_E)) H9)) (tQ (fun r H9 => r = none ∧ ∃ v, sz ≤ v ∧ sbAt D cy q v 16 0 (fun _ => 0) H9) (iA q sz)) 1 16 (iA q sz) := by
  refine Met.ofW (cc := cJ4_init_da8c8) (maxL := 1) (ret := none) (by decide) rfl ?_
  intro p e s m args below meth c s₁ B hml hv
  obtain ⟨rfl, hsz, hZ, hK, hE, hT, hRw⟩ := hv
  have hx := B.exec
  have hb := B.bytes
  have hr := B.returns
  have hts := atoms_spec (ws := wsJ4_init_da8c8) B.pre
  have hown : s.vm.findClass RJ4 = some m.cls := findClass_of_methodNamed B.named
  have hlocks := B.notSynchronized
  subst hsz
  have hS : va_S (iA q s.heap.size) s.heap s.heap [] := va_S.rf
  have hl := lv_entry ([.ref q]) (n := 1) (Nat.le_of_ble_eq_true rfl)
  refine W.eq (lg_entry_eq _ ([.ref q]) _) ?_
  generalize (lg_sl ([.ref q]) ++ List.replicate (1 - (lg_sl ([.ref q])).length) Slot.unset).toArray = ls at hl ⊢
  have hl : lv_has ls 1 [(0, .ref q)] := hl
  refine lv_aload_n hx hb dJ4_init_da8c8_0 rfl (lv_at hl 0 rfl) ?_
  refine lv_bipush (v := 16) hx hb dJ4_init_da8c8_1 (by decide) ?_
  refine t_call (va_runI (As := [.int 16]) (rest := []) ⟨hx, hb, hml, hown, hts⟩ (t_sbInit5 l xq D cy _ q) (cwI 1 hts gJ4_init_da8c8_J5_init_d00df rfl rfl rfl (hts _ (List.mem_of_getElem? (i := 3) rfl)) (hts _ (List.mem_of_getElem? (i := 1) rfl)) (hts _ (List.mem_of_getElem? (i := 2) rfl)) rfl (by decide +kernel) ⟨Nat.le_of_ble_eq_true rfl, Nat.le_of_ble_eq_true rfl⟩) (tPre hK hE hS (fun _ h => h) hZ tNo tNo) rfl rfl hl.1 rfl (lv_room (Nat.le_of_ble_eq_true rfl)) dJ4_init_da8c8_3 ⟨Nat.le_of_ble_eq_true rfl, Nat.le_of_ble_eq_true rfl⟩) hS (fun x _ h => h) (fun x h => h) (fun r H locs hB hle hfr hS => ?_)
  obtain ⟨rfl, hB⟩ := hB
  refine W.eq (g2 := F0 m 6 ls []) rfl ?_
  exact W.vret hx hb hr (fun T9 hT9 _ => ⟨_, rfl, ⟨rfl, by rw [hT9]; exact hB⟩, hS.F hT9⟩) hS.2.2 dJ4_init_da8c8_6

def bc3 (k : Nat) : Int32 := nI (k % 2 + k / 2 % 2 + k / 4 % 2)
def bq1 (k : Nat) : Int32 := nI k - ((((nI k).toUInt32 >>> ((1 : Int32).toUInt32 &&& Int32.toUInt32 31)).toInt32) &&& 1431655765)
def bq2 (k : Nat) : Int32 := (bq1 k &&& 858993459) + ((((bq1 k).toUInt32 >>> ((2 : Int32).toUInt32 &&& Int32.toUInt32 31)).toInt32) &&& 858993459)
def bq3 (k : Nat) : Int32 := (bq2 k + ((bq2 k).toUInt32 >>> ((4 : Int32).toUInt32 &&& Int32.toUInt32 31)).toInt32) &&& 252645135
def bq4 (k : Nat) : Int32 := bq3 k + ((bq3 k).toUInt32 >>> ((8 : Int32).toUInt32 &&& Int32.toUInt32 31)).toInt32
def bq5 (k : Nat) : Int32 := bq4 k + ((bq4 k).toUInt32 >>> ((16 : Int32).toUInt32 &&& Int32.toUInt32 31)).toInt32
theorem bq_ok : ∀ k, k < 8 → bq5 k &&& 63 = bc3 k := by decide +kernel
set_option maxHeartbeats 4000000 in
set_option maxRecDepth 100000 in
theorem t_bitCount (l : Launch) (xq : Nat → Nat) (D : va_G) (cy : Nat → ClassId) (sz : Nat) (A : Nat → Prop) (k : Nat) (hk : k < 8) : Met l yJ6_bitCount_0f7a4 wsJ6_bitCount_0f7a4 ({ frames := 0, cells := 0, slots := 0, locals := 0 } : Room) (tP xq D cy sz (A) [.int (nI k)] [] [] (fun _ => True)) (sp_S (some (.int (bc3 k)))) 0 0 (fun _ => False) := by
  refine Met.ofW (cc := cJ6_bitCount_0f7a4) (maxL := 1) (ret := (some .int)) (by decide) rfl ?_
  intro p e s m args below meth c s₁ B hml hv
  obtain ⟨rfl, hsz, hZ, hK, hE, hT, hRw⟩ := hv
  have hx := B.exec
  have hb := B.bytes
  have hr := B.returns
  have hts := atoms_spec (ws := wsJ6_bitCount_0f7a4) B.pre
  have hown : s.vm.findClass RJ6 = some m.cls := findClass_of_methodNamed B.named
  have hlocks := B.notSynchronized
  subst hsz
  have hS : va_S (A) s.heap s.heap [] := va_S.rf
  have hl := lv_entry ([.int (nI k)]) (n := 1) (Nat.le_of_ble_eq_true rfl)
  refine W.eq (lg_entry_eq _ ([.int (nI k)]) _) ?_
  generalize (lg_sl ([.int (nI k)]) ++ List.replicate (1 - (lg_sl ([.int (nI k)])).length) Slot.unset).toArray = ls at hl ⊢
  have hl : lv_has ls 1 [(0, .int (nI k))] := hl
  refine lv_iload_n hx hb dJ6_bitCount_0f7a4_0 rfl (lv_at hl 0 rfl) ?_
  refine lv_iload_n hx hb dJ6_bitCount_0f7a4_1 rfl (lv_at hl 0 rfl) ?_
  refine lv_iconst (v := 1) hx hb dJ6_bitCount_0f7a4_2 (by decide) ?_
  refine lv_iushr hx hb dJ6_bitCount_0f7a4_3 (v := ((nI k).toUInt32 >>> ((1 : Int32).toUInt32 &&& Int32.toUInt32 31)).toInt32) rfl ?_
  refine lv_ldcw (v := 1431655765) hx hb hown (hts _ (List.mem_of_getElem? (i := 1) rfl)) dJ6_bitCount_0f7a4_4 ?_
  refine lv_iand hx hb dJ6_bitCount_0f7a4_7 ?_
  refine lv_isub hx hb dJ6_bitCount_0f7a4_8 ?_
  refine W.eq (g2 := F0 m 9 ls [.int (bq1 k)]) rfl ?_
  refine lv_istore_n (lv' := [(0, .int (bq1 k))]) hx hb dJ6_bitCount_0f7a4_9 rfl hl (by decide) rfl (fun ls hl => ?_)
  refine lv_iload_n hx hb dJ6_bitCount_0f7a4_10 rfl (lv_at hl 0 rfl) ?_
  refine lv_ldcw (v := 858993459) hx hb hown (hts _ (List.mem_of_getElem? (i := 2) rfl)) dJ6_bitCount_0f7a4_11 ?_
  refine lv_iand hx hb dJ6_bitCount_0f7a4_14 ?_
  refine lv_iload_n hx hb dJ6_bitCount_0f7a4_15 rfl (lv_at hl 0 rfl) ?_
  refine lv_iconst (v := 2) hx hb dJ6_bitCount_0f7a4_16 (by decide) ?_
  refine lv_iushr hx hb dJ6_bitCount_0f7a4_17 (v := ((bq1 k).toUInt32 >>> ((2 : Int32).toUInt32 &&& Int32.toUInt32 31)).toInt32) rfl ?_
  refine lv_ldcw (v := 858993459) hx hb hown (hts _ (List.mem_of_getElem? (i := 2) rfl)) dJ6_bitCount_0f7a4_18 ?_
  refine lv_iand hx hb dJ6_bitCount_0f7a4_21 ?_
  refine lv_iadd hx hb dJ6_bitCount_0f7a4_22 ?_
  refine W.eq (g2 := F0 m 23 ls [.int (bq2 k)]) rfl ?_
  refine lv_istore_n (lv' := [(0, .int (bq2 k))]) hx hb dJ6_bitCount_0f7a4_23 rfl hl (by decide) rfl (fun ls hl => ?_)
  refine lv_iload_n hx hb dJ6_bitCount_0f7a4_24 rfl (lv_at hl 0 rfl) ?_
  refine lv_iload_n hx hb dJ6_bitCount_0f7a4_25 rfl (lv_at hl 0 rfl) ?_
  refine lv_iconst (v := 4) hx hb dJ6_bitCount_0f7a4_26 (by decide) ?_
  refine lv_iushr hx hb dJ6_bitCount_0f7a4_27 (v := ((bq2 k).toUInt32 >>> ((4 : Int32).toUInt32 &&& Int32.toUInt32 31)).toInt32) rfl ?_
  refine lv_iadd hx hb dJ6_bitCount_0f7a4_28 ?_
  refine lv_ldcw (v := 252645135) hx hb hown (hts _ (List.mem_of_getElem? (i := 3) rfl)) dJ6_bitCount_0f7a4_29 ?_
  refine lv_iand hx hb dJ6_bitCount_0f7a4_32 ?_
  refine W.eq (g2 := F0 m 33 ls [.int (bq3 k)]) rfl ?_
  refine lv_istore_n (lv' := [(0, .int (bq3 k))]) hx hb dJ6_bitCount_0f7a4_33 rfl hl (by decide) rfl (fun ls hl => ?_)
  refine lv_iload_n hx hb dJ6_bitCount_0f7a4_34 rfl (lv_at hl 0 rfl) ?_
  refine lv_iload_n hx hb dJ6_bitCount_0f7a4_35 rfl (lv_at hl 0 rfl) ?_
  refine lv_bipush (v := 8) hx hb dJ6_bitCount_0f7a4_36 (by decide) ?_
  refine lv_iushr hx hb dJ6_bitCount_0f7a4_38 (v := ((bq3 k).toUInt32 >>> ((8 : Int32).toUInt32 &&& Int32.toUInt32 31)).toInt32) rfl ?_
  refine lv_iadd hx hb dJ6_bitCount_0f7a4_39 ?_
  refine W.eq (g2 := F0 m 40 ls [.int (bq4 k)]) rfl ?_
  refine lv_istore_n (lv' := [(0, .int (bq4 k))]) hx hb dJ6_bitCount_0f7a4_40 rfl hl (by decide) rfl (fun ls hl => ?_)
  refine lv_iload_n hx hb dJ6_bitCount_0f7a4_41 rfl (lv_at hl 0 rfl) ?_
  refine lv_iload_n hx hb dJ6_bitCount_0f7a4_42 rfl (lv_at hl 0 rfl) ?_
  refine lv_bipush (v := 16) hx hb dJ6_bitCount_0f7a4_43 (by decide) ?_
  refine lv_iushr hx hb dJ6_bitCount_0f7a4_45 (v := ((bq4 k).toUInt32 >>> ((16 : Int32).toUInt32 &&& Int32.toUInt32 31)).toInt32) rfl ?_
  refine lv_iadd hx hb dJ6_bitCount_0f7a4_46 ?_
  refine W.eq (g2 := F0 m 47 ls [.int (bq5 k)]) rfl ?_
  refine lv_istore_n (lv' := [(0, .int (bq5 k))]) hx hb dJ6_bitCount_0f7a4_47 rfl hl (by decide) rfl (fun ls hl => ?_)
  refine lv_iload_n hx hb dJ6_bitCount_0f7a4_48 rfl (lv_at hl 0 rfl) ?_
  refine lv_bipush (v := 63) hx hb dJ6_bitCount_0f7a4_49 (by decide) ?_
  refine lv_iand hx hb dJ6_bitCount_0f7a4_51 ?_
  exact W.iret (v := bq5 k &&& 63) hx hb hr (fun T9 hT9 _ => ⟨by rw [bq_ok k hk], hT9⟩) (fun _ h => by cases h) dJ6_bitCount_0f7a4_52
