/-! acts, build -/
set_option maxHeartbeats 4000000 in
set_option maxRecDepth 100000 in
theorem k_L_acts (l : Launch) (D : va_G) (ad : Nat → Nat) (cy : Nat → ClassId) (pm : Nat → Nat) (rj : Option Nat) (σ : Nat → Nat → Int32) (xq : Nat → Nat) (hst : l.stackTraces = false) (sz : Nat) (hi : sp_inj ad 459) {B : Nat} (hG : GS B σ pm) (hB9 : B + 1 < 1000000) (b L : Nat) (xs : Nat → Int32) (hL : L < 2 ^ 31) (k : Nat) (hk : k ≤ 200) : Met l yL_acts wsL_acts ({ frames := 9, cells := 12, slots := 72, locals := 165 } : Room) (bP xq ad D cy sz b L xs [.ref (ad (429)), .ref b, .int (nI k)] (cW ad cy pm rj σ)) (lV D ad cy (B + 1) (sp_A ad 459 sz)) 12 72 (sp_A ad 459 sz) := by
  refine Met.ofW (cc := cL_acts) (maxL := 8) (ret := none) (by decide) rfl ?_
  intro p e s m args below meth c s₁ B9 hml hv
  obtain ⟨rfl, hsz, hP, hK, hE, hX, hbl, hnb⟩ := hv
  have hx := B9.exec
  have hb := B9.bytes
  have hr := B9.returns
  have hts := atoms_spec (ws := wsL_acts) B9.pre
  have hown : s.vm.findClass RL = some m.cls := findClass_of_methodNamed B9.named
  have hlocks := B9.notSynchronized
  subst hsz
  have hS : va_S (sp_A ad 459 s.heap.size) s.heap s.heap [] := va_S.rf
  have hbA : ¬ sp_A ad 459 s.heap.size b := fun z => z.elim (fun ⟨k9, h1, h2⟩ => hnb k9 h1 h2.symm) (fun z => by omega)
  obtain ⟨f, n, t, pi, ro, hbr⟩ := hG.be
  have hB : B < 1000000 := by omega
  have h30 := hbr.n30
  have h6 := hbr.t6
  have hG0 := hG
  have hl := lv_entry ([.ref (ad (429)), .ref b, .int (nI k)]) (n := 8) (Nat.le_of_ble_eq_true rfl)
  refine W.eq (lg_entry_eq _ ([.ref (ad (429)), .ref b, .int (nI k)]) _) ?_
  generalize (lg_sl ([.ref (ad (429)), .ref b, .int (nI k)]) ++ List.replicate (8 - (lg_sl ([.ref (ad (429)), .ref b, .int (nI k)])).length) Slot.unset).toArray = ls at hl ⊢
  have hl : lv_has ls 8 [(0, .ref (ad (429))), (1, .ref b), (2, .int (nI k))] := hl
  refine lv_aload_n hx hb dL_acts_0 rfl (lv_at hl 1 rfl) ?_
  refine lv_iload_n hx hb dL_acts_1 rfl (lv_at hl 2 rfl) ?_
  refine lv_iconst (v := 1) hx hb dL_acts_2 (by decide) ?_
  refine lv_iadd hx hb dL_acts_3 ?_
  refine W.eq (g2 := F0 m 4 ls [.int (nI (k + 1)), .ref b]) (by rw [show nI k + 1 = nI (k + 1) from nI_addE (a := k) (b := 1) rfl rfl]) ?_
  refine lv_sipush (v := 900) hx hb dL_acts_4 (by decide) ?_
  refine W.eq (g2 := F0 m 7 ls [.int (nI 900), .int (nI (k + 1)), .ref b]) rfl ?_
  refine sp_call (W.runS (As := [.ref b, .int (nI (k + 1)), .int (nI 900)]) (rest := []) ⟨hx, hb, hml, hown, hts⟩ (c_L_some l b L xs (k + 1) 900 (by omega) hL (by decide) (by decide)) (va_cwS 3 hts gL_acts_L_some rfl rfl rfl (by decide +kernel) ⟨Nat.le_of_ble_eq_true rfl, Nat.le_of_ble_eq_true rfl⟩) (cPre hX hbl hbA hS) rfl rfl hl.1 rfl (lv_room (Nat.le_of_ble_eq_true rfl)) dL_acts_7 ⟨Nat.le_of_ble_eq_true rfl, Nat.le_of_ble_eq_true rfl⟩) ?_
  refine W.eq (g2 := F0 m 10 ls [.int (nI (sv9 L xs (k + 1) 900))]) rfl ?_
  obtain ⟨v, ev, hv⟩ : ∃ v, sv9 L xs (k + 1) 900 = v ∧ v < 900 := ⟨_, rfl, sv_lt (by decide)⟩
  refine W.eq (g2 := F0 m 10 ls [.int (nI v)]) (by rw [ev]) ?_
  refine lv_istore_n (lv' := [(3, .int (nI v)), (0, .ref (ad (429))), (1, .ref b), (2, .int (nI k))]) hx hb dL_acts_10 rfl hl (by decide) rfl (fun ls hl => ?_)
  refine lv_aload_n hx hb dL_acts_11 rfl (lv_at hl 2 rfl) ?_
  refine lv_iload_n hx hb dL_acts_12 rfl (lv_at hl 3 rfl) ?_
  refine lv_iconst (v := 2) hx hb dL_acts_13 (by decide) ?_
  refine lv_iadd hx hb dL_acts_14 ?_
  refine W.eq (g2 := F0 m 15 ls [.int (nI (k + 2)), .ref b]) (by rw [show nI k + 2 = nI (k + 2) from nI_addE (a := k) (b := 2) rfl rfl]) ?_
  refine lv_iconst (v := 5) hx hb dL_acts_15 (by decide) ?_
  refine W.eq (g2 := F0 m 16 ls [.int (nI 5), .int (nI (k + 2)), .ref b]) rfl ?_
  refine sp_call (W.runS (As := [.ref b, .int (nI (k + 2)), .int (nI 5)]) (rest := []) ⟨hx, hb, hml, hown, hts⟩ (c_L_some l b L xs (k + 2) 5 (by omega) hL (by decide) (by decide)) (va_cwS 3 hts gL_acts_L_some rfl rfl rfl (by decide +kernel) ⟨Nat.le_of_ble_eq_true rfl, Nat.le_of_ble_eq_true rfl⟩) (cPre hX hbl hbA hS) rfl rfl hl.1 rfl (lv_room (Nat.le_of_ble_eq_true rfl)) dL_acts_16 ⟨Nat.le_of_ble_eq_true rfl, Nat.le_of_ble_eq_true rfl⟩) ?_
  refine W.eq (g2 := F0 m 19 ls [.int (nI (sv9 L xs (k + 2) 5))]) rfl ?_
  obtain ⟨w, ew, hw⟩ : ∃ w, sv9 L xs (k + 2) 5 = w ∧ w < 5 := ⟨_, rfl, sv_lt (by decide)⟩
  refine W.eq (g2 := F0 m 19 ls [.int (nI w)]) (by rw [ew]) ?_
  refine lv_istore (lv' := [(4, .int (nI w)), (3, .int (nI v)), (0, .ref (ad (429))), (1, .ref b), (2, .int (nI k))]) hx hb dL_acts_19 hl (by decide) rfl (fun ls hl => ?_)
  refine lv_aload_n hx hb dL_acts_21 rfl (lv_at hl 2 rfl) ?_
  refine lv_aload_n hx hb dL_acts_22 rfl (lv_at hl 3 rfl) ?_
  refine lv_iload_n hx hb dL_acts_23 rfl (lv_at hl 4 rfl) ?_
  refine lv_iconst (v := 3) hx hb dL_acts_24 (by decide) ?_
  refine lv_iadd hx hb dL_acts_25 ?_
  refine W.eq (g2 := F0 m 26 ls [.int (nI (k + 3)), .ref b, .ref (ad (429))]) (by rw [show nI k + 3 = nI (k + 3) from nI_addE (a := k) (b := 3) rfl rfl]) ?_
  refine lv_bipush (v := 60) hx hb dL_acts_26 (by decide) ?_
  refine W.eq (g2 := F0 m 28 ls [.int (nI 60), .int (nI (k + 3)), .ref b, .ref (ad (429))]) rfl ?_
  refine sp_call (W.runS (As := [.ref b, .int (nI (k + 3)), .int (nI 60)]) (rest := [.ref (ad (429))]) ⟨hx, hb, hml, hown, hts⟩ (c_L_some l b L xs (k + 3) 60 (by omega) hL (by decide) (by decide)) (va_cwS 3 hts gL_acts_L_some rfl rfl rfl (by decide +kernel) ⟨Nat.le_of_ble_eq_true rfl, Nat.le_of_ble_eq_true rfl⟩) (cPre hX hbl hbA hS) rfl rfl hl.1 rfl (lv_room (Nat.le_of_ble_eq_true rfl)) dL_acts_28 ⟨Nat.le_of_ble_eq_true rfl, Nat.le_of_ble_eq_true rfl⟩) ?_
  refine W.eq (g2 := F0 m 31 ls [.int (nI (sv9 L xs (k + 3) 60)), .ref (ad (429))]) rfl ?_
  obtain ⟨q, eq, hq⟩ : ∃ q, sv9 L xs (k + 3) 60 = q ∧ q < 60 := ⟨_, rfl, sv_lt (by decide)⟩
  refine W.eq (g2 := F0 m 31 ls [.int (nI q), .ref (ad (429))]) (by rw [eq]) ?_
  refine sp_callm (va_runS (As := [.ref (ad (429)), .int (nI q)]) (rest := []) ⟨hx, hb, hml, hown, hts⟩ (k_L_print l D ad cy pm rj σ xq hst _ hi hbr q (by omega)) (va_cwS 2 hts gL_acts_L_print rfl rfl rfl (by decide +kernel) ⟨Nat.le_of_ble_eq_true rfl, Nat.le_of_ble_eq_true rfl⟩) (sp_preSmx hK hP (hE.go hS)) rfl rfl hl.1 rfl (lv_room (Nat.le_of_ble_eq_true rfl)) dL_acts_31 ⟨Nat.le_of_ble_eq_true rfl, Nat.le_of_ble_eq_true rfl⟩) hS (fun q h1 h2 => sp_Alt h1 h2) (sp_Ale hS.1) (fun H locs hP hle hfr hS => ?_)
  refine W.eq (g2 := F0 m 34 ls [.int (pA f n q)]) rfl ?_
  refine lv_istore (lv' := [(5, .int (pA f n q)), (4, .int (nI w)), (3, .int (nI v)), (0, .ref (ad (429))), (1, .ref b), (2, .int (nI k))]) hx hb dL_acts_34 hl (by decide) rfl (fun ls hl => ?_)
  refine lv_aload_n hx hb dL_acts_36 rfl (lv_at hl 3 rfl) ?_
  refine sp_call (W.runV (As := []) (rest := []) ⟨hx, hb, hml, hown, hts⟩ (k_trackCount l D ad cy pm rj σ hbr ) (cwV 0 hts gL_acts_X9_trackCount rfl rfl rfl (by decide +kernel) ⟨Nat.le_of_ble_eq_true rfl, Nat.le_of_ble_eq_true rfl⟩) (sp_preV hK hP (κ := 429) (by decide) cE_sp rfl) rfl rfl hl.1 rfl (lv_room (Nat.le_of_ble_eq_true rfl)) dL_acts_37 ⟨Nat.le_of_ble_eq_true rfl, Nat.le_of_ble_eq_true rfl⟩) ?_
  refine W.eq (g2 := F0 m 40 ls [.int (nI t)]) rfl ?_
  refine lv_istore (lv' := [(6, .int (nI t)), (5, .int (pA f n q)), (4, .int (nI w)), (3, .int (nI v)), (0, .ref (ad (429))), (1, .ref b), (2, .int (nI k))]) hx hb dL_acts_40 hl (by decide) rfl (fun ls hl => ?_)
  refine lv_aload_n hx hb dL_acts_42 rfl (lv_at hl 5 rfl) ?_
  refine lv_iload_n hx hb dL_acts_43 rfl (lv_at hl 6 rfl) ?_
  refine lv_bipush (v := 14) hx hb dL_acts_44 (by decide) ?_
  refine W.eq (g2 := F0 m 46 ls [.int (nI 14), .int (nI k), .ref b]) rfl ?_
  refine sp_call (W.runS (As := [.ref b, .int (nI k), .int (nI 14)]) (rest := []) ⟨hx, hb, hml, hown, hts⟩ (c_L_some l b L xs k 14 (by omega) hL (by decide) (by decide)) (va_cwS 3 hts gL_acts_L_some rfl rfl rfl (by decide +kernel) ⟨Nat.le_of_ble_eq_true rfl, Nat.le_of_ble_eq_true rfl⟩) (cPre hX hbl hbA hS) rfl rfl hl.1 rfl (lv_room (Nat.le_of_ble_eq_true rfl)) dL_acts_46 ⟨Nat.le_of_ble_eq_true rfl, Nat.le_of_ble_eq_true rfl⟩) ?_
  refine W.eq (g2 := F0 m 49 ls [.int (nI (sv9 L xs k 14))]) rfl ?_
  obtain ⟨z, ez, hz⟩ : ∃ z, sv9 L xs k 14 = z ∧ z < 14 := ⟨_, rfl, sv_lt (by decide)⟩
  refine W.eq (g2 := F0 m 49 ls [.int (nI z)]) (by rw [ez]) ?_
  rcases (show z = 0 ∨ z = 1 ∨ (z = 2 ∨ z = 3 ∨ z = 4) ∨ z = 5 ∨ z = 6 ∨ (z = 7 ∨ z = 8) ∨ z = 9 ∨ z = 10 ∨ 11 ≤ z by omega) with rfl | rfl | hz2 | rfl | rfl | hz2 | rfl | rfl | hz2
  · refine lv_tableIn (off := 59) (tgt := 108) hx hb dL_acts_49 (by decide +kernel) (by decide +kernel) (by decide +kernel) (by decide) ?_
    refine lv_iload hx hb dL_acts_108 (lv_at hl 0 rfl) ?_
    refine lv_iconst (v := 5) hx hb dL_acts_110 (by decide) ?_
    refine lv_icmp_ge (tgt := 127) hx hb dL_acts_111 (by decide) (fun c_1 => ?_) (fun c_1 => ?_)
    · skip
      refine lv_iconst (v := 0) hx hb dL_acts_127 (by decide) ?_
      refine lv_istore (lv' := [(7, .int (0)), (6, .int (nI t)), (5, .int (pA f n q)), (4, .int (nI w)), (3, .int (nI v)), (0, .ref (ad (429))), (1, .ref b), (2, .int (nI k))]) hx hb dL_acts_128 hl (by decide) rfl (fun ls hl => ?_)
      refine lv_goto (tgt := 371) hx hb dL_acts_130 (by decide) ?_
      refine W.widen (k := 12) (n := 72) (by omega) (by omega) ?_
      exact W.vret hx hb hr (fun T9 hT9 _ => ⟨_, rfl, ⟨pm, rj, σ, rfl, hG0.mono (Nat.le_succ _) hB9, by rw [hT9]; exact hP⟩, hS.F hT9⟩) hS.2.2 dL_acts_371
    · skip
      refine lv_aload_n hx hb dL_acts_114 rfl (lv_at hl 4 rfl) ?_
      refine lv_iconst (v := 1) hx hb dL_acts_115 (by decide) ?_
      refine lv_iload_n hx hb dL_acts_116 rfl (lv_at hl 3 rfl) ?_
      refine lv_bipush (v := 9) hx hb dL_acts_117 (by decide) ?_
      refine lv_irem hx hb dL_acts_119 (by decide) ?_
      refine lv_iadd hx hb dL_acts_120 ?_
      refine t_call (vx_runSW (As := [.ref (ad (429)), .int (1 + ((nI v) - (nI v) / 9 * 9))]) (rest := []) ⟨hx, hb, hml, hown, hts⟩ (k_L_addTrack l D ad cy pm rj σ xq hst _ hi hG hB9 (1 + ((nI v) - (nI v) / 9 * 9))) (vx_cwSW 2 hts gL_acts_L_addTrack rfl rfl rfl (by decide +kernel) ⟨Nat.le_of_ble_eq_true rfl, Nat.le_of_ble_eq_true rfl⟩) (sp_preSmx hK hP (hE.go hS)) rfl rfl hl.1 rfl (lv_room (Nat.le_of_ble_eq_true rfl)) dL_acts_121 ⟨Nat.le_of_ble_eq_true rfl, Nat.le_of_ble_eq_true rfl⟩) hS (fun q h1 h2 => sp_Alt h1 h2) (sp_Ale hS.1) (fun vr H locs hBv hle hfr hS => ?_)
      obtain ⟨w2, pm, rj, σ, rfl, hG, hP⟩ := hBv
      refine W.eq (g2 := F0 m 124 ls [.int (w2)]) rfl ?_
      refine lv_goto (tgt := 128) hx hb dL_acts_124 (by decide) ?_
      refine lv_istore (lv' := [(7, .int (w2)), (6, .int (nI t)), (5, .int (pA f n q)), (4, .int (nI w)), (3, .int (nI v)), (0, .ref (ad (429))), (1, .ref b), (2, .int (nI k))]) hx hb dL_acts_128 hl (by decide) rfl (fun ls hl => ?_)
      refine lv_goto (tgt := 371) hx hb dL_acts_130 (by decide) ?_
      refine W.widen (k := 12) (n := 72) (by omega) (by omega) ?_
      exact W.vret hx hb hr (fun T9 hT9 _ => ⟨_, rfl, ⟨pm, rj, σ, rfl, hG, by rw [hT9]; exact hP⟩, hS.F hT9⟩) hS.2.2 dL_acts_371
  · refine lv_tableIn (off := 84) (tgt := 133) hx hb dL_acts_49 (by decide +kernel) (by decide +kernel) (by decide +kernel) (by decide) ?_
    refine lv_aload_n hx hb dL_acts_133 rfl (lv_at hl 4 rfl) ?_
    refine lv_iload_n hx hb dL_acts_134 rfl (lv_at hl 3 rfl) ?_
    refine lv_iconst (v := 4) hx hb dL_acts_135 (by decide) ?_
    refine lv_irem hx hb dL_acts_136 (by decide) ?_
    refine t_call (vx_runSW (As := [.ref (ad (429)), .int ((nI v) - (nI v) / 4 * 4)]) (rest := []) ⟨hx, hb, hml, hown, hts⟩ (k_L_setTide l D ad cy pm rj σ xq hst _ hi hG hB9 ((nI v) - (nI v) / 4 * 4)) (vx_cwSW 2 hts gL_acts_L_setTide rfl rfl rfl (by decide +kernel) ⟨Nat.le_of_ble_eq_true rfl, Nat.le_of_ble_eq_true rfl⟩) (sp_preSmx hK hP (hE.go hS)) rfl rfl hl.1 rfl (lv_room (Nat.le_of_ble_eq_true rfl)) dL_acts_137 ⟨Nat.le_of_ble_eq_true rfl, Nat.le_of_ble_eq_true rfl⟩) hS (fun q h1 h2 => sp_Alt h1 h2) (sp_Ale hS.1) (fun vr H locs hBv hle hfr hS => ?_)
    obtain ⟨w3, pm, rj, σ, rfl, hG, hP⟩ := hBv
    refine W.eq (g2 := F0 m 140 ls [.int (w3)]) rfl ?_
    refine lv_istore (lv' := [(7, .int (w3)), (6, .int (nI t)), (5, .int (pA f n q)), (4, .int (nI w)), (3, .int (nI v)), (0, .ref (ad (429))), (1, .ref b), (2, .int (nI k))]) hx hb dL_acts_140 hl (by decide) rfl (fun ls hl => ?_)
    refine lv_goto (tgt := 371) hx hb dL_acts_142 (by decide) ?_
    refine W.widen (k := 12) (n := 72) (by omega) (by omega) ?_
    exact W.vret hx hb hr (fun T9 hT9 _ => ⟨_, rfl, ⟨pm, rj, σ, rfl, hG, by rw [hT9]; exact hP⟩, hS.F hT9⟩) hS.2.2 dL_acts_371
  · refine w_two (g1 := F0 m 145 ls []) (fun K => ?_) ?_
    · rcases hz2 with rfl | rfl | rfl
      · exact lv_tableIn (off := 96) (tgt := 145) hx hb dL_acts_49 (by decide +kernel) (by decide +kernel) (by decide +kernel) (by decide) K
      · exact lv_tableIn (off := 96) (tgt := 145) hx hb dL_acts_49 (by decide +kernel) (by decide +kernel) (by decide +kernel) (by decide) K
      · exact lv_tableIn (off := 96) (tgt := 145) hx hb dL_acts_49 (by decide +kernel) (by decide +kernel) (by decide +kernel) (by decide) K
    · skip
      refine lv_iload hx hb dL_acts_145 (lv_at hl 0 rfl) ?_
      refine lv_if_le (tgt := 205) hx hb dL_acts_147 (by decide) (fun c_4 => ?_) (fun c_4 => ?_)
      · skip
        refine lv_iconst (v := 0) hx hb dL_acts_205 (by decide) ?_
        refine lv_istore (lv' := [(7, .int (0)), (6, .int (nI t)), (5, .int (pA f n q)), (4, .int (nI w)), (3, .int (nI v)), (0, .ref (ad (429))), (1, .ref b), (2, .int (nI k))]) hx hb dL_acts_206 hl (by decide) rfl (fun ls hl => ?_)
        refine lv_goto (tgt := 371) hx hb dL_acts_208 (by decide) ?_
        refine W.widen (k := 12) (n := 72) (by omega) (by omega) ?_
        exact W.vret hx hb hr (fun T9 hT9 _ => ⟨_, rfl, ⟨pm, rj, σ, rfl, hG0.mono (Nat.le_succ _) hB9, by rw [hT9]; exact hP⟩, hS.F hT9⟩) hS.2.2 dL_acts_371
      · skip
        have ht0 : 0 < t := by
          rcases Nat.eq_zero_or_pos t with z9 | z9
          · exact absurd (by rw [z9]; decide) c_4
          · exact z9
        refine lv_aload_n hx hb dL_acts_150 rfl (lv_at hl 4 rfl) ?_
        refine sp_call (W.runV (As := []) (rest := []) ⟨hx, hb, hml, hown, hts⟩ (k_totalPrints l D ad cy pm rj σ hbr ) (cwV 0 hts gL_acts_X9_totalPrints rfl rfl rfl (by decide +kernel) ⟨Nat.le_of_ble_eq_true rfl, Nat.le_of_ble_eq_true rfl⟩) (sp_preV hK hP (κ := 429) (by decide) cE_sp rfl) rfl rfl hl.1 rfl (lv_room (Nat.le_of_ble_eq_true rfl)) dL_acts_151 ⟨Nat.le_of_ble_eq_true rfl, Nat.le_of_ble_eq_true rfl⟩) ?_
        refine W.eq (g2 := F0 m 154 ls [.int (nI n)]) rfl ?_
        refine lv_bipush (v := 14) hx hb dL_acts_154 (by decide) ?_
        refine lv_icmp_ge (tgt := 205) hx hb dL_acts_156 (by decide) (fun c_5 => ?_) (fun c_5 => ?_)
        · skip
          refine lv_iconst (v := 0) hx hb dL_acts_205 (by decide) ?_
          refine lv_istore (lv' := [(7, .int (0)), (6, .int (nI t)), (5, .int (pA f n q)), (4, .int (nI w)), (3, .int (nI v)), (0, .ref (ad (429))), (1, .ref b), (2, .int (nI k))]) hx hb dL_acts_206 hl (by decide) rfl (fun ls hl => ?_)
          refine lv_goto (tgt := 371) hx hb dL_acts_208 (by decide) ?_
          refine W.widen (k := 12) (n := 72) (by omega) (by omega) ?_
          exact W.vret hx hb hr (fun T9 hT9 _ => ⟨_, rfl, ⟨pm, rj, σ, rfl, hG0.mono (Nat.le_succ _) hB9, by rw [hT9]; exact hP⟩, hS.F hT9⟩) hS.2.2 dL_acts_371
        · skip
          refine lv_aload_n hx hb dL_acts_159 rfl (lv_at hl 4 rfl) ?_
          refine lv_aload_n hx hb dL_acts_160 rfl (lv_at hl 4 rfl) ?_
          refine lv_iload_n hx hb dL_acts_161 rfl (lv_at hl 3 rfl) ?_
          refine lv_iload hx hb dL_acts_162 (lv_at hl 0 rfl) ?_
          refine lv_irem hx hb dL_acts_164 (fun z9 => by have := (nI_eq (a := t) (b := 0) (by omega) (by decide)).mp z9; omega) ?_
          refine W.eq (g2 := F0 m 165 ls [.int (nI (v % t)), .ref (ad (429)), .ref (ad (429))]) (by rw [rem_nI (by omega) (by omega)]) ?_
          refine sp_callm (va_runV (As := [.int (nI (v % t))]) (rest := [.ref (ad (429))]) ⟨hx, hb, hml, hown, hts⟩ (k_trackByErrors l D ad cy pm rj σ xq hst _ hi hbr (Nat.mod_lt v ht0)) (cwV 1 hts gL_acts_X9_trackByErrors rfl rfl rfl (by decide +kernel) ⟨Nat.le_of_ble_eq_true rfl, Nat.le_of_ble_eq_true rfl⟩) (sp_preVmx hK hP (hE.go hS) (κ := 429) (by decide) cE_sp rfl) rfl rfl hl.1 rfl (lv_room (Nat.le_of_ble_eq_true rfl)) dL_acts_165 ⟨Nat.le_of_ble_eq_true rfl, Nat.le_of_ble_eq_true rfl⟩) hS (fun q h1 h2 => sp_Alt h1 h2) (sp_Ale hS.1) (fun H locs hP hle hfr hS => ?_)
          refine W.eq (g2 := F0 m 168 ls [.int (gT f (plT f n t (v % t))), .ref (ad (429))]) rfl ?_
          refine lv_iload_n hx hb dL_acts_168 rfl (lv_at hl 3 rfl) ?_
          refine lv_bipush (v := 60) hx hb dL_acts_169 (by decide) ?_
          refine lv_irem hx hb dL_acts_171 (by decide) ?_
          refine lv_iconst (v := 1) hx hb dL_acts_172 (by decide) ?_
          refine lv_iload_n hx hb dL_acts_173 rfl (lv_at hl 3 rfl) ?_
          refine lv_bipush (v := 8) hx hb dL_acts_174 (by decide) ?_
          refine lv_irem hx hb dL_acts_176 (by decide) ?_
          refine lv_iadd hx hb dL_acts_177 ?_
          refine lv_iload_n hx hb dL_acts_178 rfl (lv_at hl 3 rfl) ?_
          refine lv_bipush (v := 20) hx hb dL_acts_179 (by decide) ?_
          refine lv_irem hx hb dL_acts_181 (by decide) ?_
          refine lv_iload hx hb dL_acts_182 (lv_at hl 2 rfl) ?_
          refine lv_iconst (v := 3) hx hb dL_acts_184 (by decide) ?_
          refine lv_icmp_ge (tgt := 192) hx hb dL_acts_185 (by decide) (fun c_6 => ?_) (fun c_6 => ?_)
          · skip
            refine lv_iconst (v := 0) hx hb dL_acts_192 (by decide) ?_
            refine W.eq (g2 := F0 m 193 ls [.int (b2i false), .int ((nI v) - (nI v) / 20 * 20), .int (1 + ((nI v) - (nI v) / 8 * 8)), .int ((nI v) - (nI v) / 60 * 60), .int (gT f (plT f n t (v % t))), .ref (ad (429))]) rfl ?_
            refine lv_iconst (v := 1) hx hb dL_acts_193 (by decide) ?_
            refine lv_iload_n hx hb dL_acts_194 rfl (lv_at hl 3 rfl) ?_
            refine lv_bipush (v := 9) hx hb dL_acts_195 (by decide) ?_
            refine lv_irem hx hb dL_acts_197 (by decide) ?_
            refine lv_iadd hx hb dL_acts_198 ?_
            refine t_call (vx_runSW (As := [.ref (ad (429)), .int (gT f (plT f n t (v % t))), .int ((nI v) - (nI v) / 60 * 60), .int (1 + ((nI v) - (nI v) / 8 * 8)), .int ((nI v) - (nI v) / 20 * 20), .int (b2i false), .int (1 + ((nI v) - (nI v) / 9 * 9))]) (rest := []) ⟨hx, hb, hml, hown, hts⟩ (k_L_addPrint l D ad cy pm rj σ xq hst _ hi hG hB9 (gT f (plT f n t (v % t))) ((nI v) - (nI v) / 60 * 60) (1 + ((nI v) - (nI v) / 8 * 8)) ((nI v) - (nI v) / 20 * 20) false (1 + ((nI v) - (nI v) / 9 * 9))) (vx_cwSW 7 hts gL_acts_L_addPrint rfl rfl rfl (by decide +kernel) ⟨Nat.le_of_ble_eq_true rfl, Nat.le_of_ble_eq_true rfl⟩) (sp_preSmx hK hP (hE.go hS)) rfl rfl hl.1 rfl (lv_room (Nat.le_of_ble_eq_true rfl)) dL_acts_199 ⟨Nat.le_of_ble_eq_true rfl, Nat.le_of_ble_eq_true rfl⟩) hS (fun q h1 h2 => sp_Alt h1 h2) (sp_Ale hS.1) (fun vr H locs hBv hle hfr hS => ?_)
            obtain ⟨w7, pm, rj, σ, rfl, hG, hP⟩ := hBv
            refine W.eq (g2 := F0 m 202 ls [.int (w7)]) rfl ?_
            refine lv_goto (tgt := 206) hx hb dL_acts_202 (by decide) ?_
            refine lv_istore (lv' := [(7, .int (w7)), (6, .int (nI t)), (5, .int (pA f n q)), (4, .int (nI w)), (3, .int (nI v)), (0, .ref (ad (429))), (1, .ref b), (2, .int (nI k))]) hx hb dL_acts_206 hl (by decide) rfl (fun ls hl => ?_)
            refine lv_goto (tgt := 371) hx hb dL_acts_208 (by decide) ?_
            refine W.widen (k := 12) (n := 72) (by omega) (by omega) ?_
            exact W.vret hx hb hr (fun T9 hT9 _ => ⟨_, rfl, ⟨pm, rj, σ, rfl, hG, by rw [hT9]; exact hP⟩, hS.F hT9⟩) hS.2.2 dL_acts_371
          · skip
            refine lv_iconst (v := 1) hx hb dL_acts_188 (by decide) ?_
            refine lv_goto (tgt := 193) hx hb dL_acts_189 (by decide) ?_
            refine W.eq (g2 := F0 m 193 ls [.int (b2i true), .int ((nI v) - (nI v) / 20 * 20), .int (1 + ((nI v) - (nI v) / 8 * 8)), .int ((nI v) - (nI v) / 60 * 60), .int (gT f (plT f n t (v % t))), .ref (ad (429))]) rfl ?_
            refine lv_iconst (v := 1) hx hb dL_acts_193 (by decide) ?_
            refine lv_iload_n hx hb dL_acts_194 rfl (lv_at hl 3 rfl) ?_
            refine lv_bipush (v := 9) hx hb dL_acts_195 (by decide) ?_
            refine lv_irem hx hb dL_acts_197 (by decide) ?_
            refine lv_iadd hx hb dL_acts_198 ?_
            refine t_call (vx_runSW (As := [.ref (ad (429)), .int (gT f (plT f n t (v % t))), .int ((nI v) - (nI v) / 60 * 60), .int (1 + ((nI v) - (nI v) / 8 * 8)), .int ((nI v) - (nI v) / 20 * 20), .int (b2i true), .int (1 + ((nI v) - (nI v) / 9 * 9))]) (rest := []) ⟨hx, hb, hml, hown, hts⟩ (k_L_addPrint l D ad cy pm rj σ xq hst _ hi hG hB9 (gT f (plT f n t (v % t))) ((nI v) - (nI v) / 60 * 60) (1 + ((nI v) - (nI v) / 8 * 8)) ((nI v) - (nI v) / 20 * 20) true (1 + ((nI v) - (nI v) / 9 * 9))) (vx_cwSW 7 hts gL_acts_L_addPrint rfl rfl rfl (by decide +kernel) ⟨Nat.le_of_ble_eq_true rfl, Nat.le_of_ble_eq_true rfl⟩) (sp_preSmx hK hP (hE.go hS)) rfl rfl hl.1 rfl (lv_room (Nat.le_of_ble_eq_true rfl)) dL_acts_199 ⟨Nat.le_of_ble_eq_true rfl, Nat.le_of_ble_eq_true rfl⟩) hS (fun q h1 h2 => sp_Alt h1 h2) (sp_Ale hS.1) (fun vr H locs hBv hle hfr hS => ?_)
            obtain ⟨w8, pm, rj, σ, rfl, hG, hP⟩ := hBv
            refine W.eq (g2 := F0 m 202 ls [.int (w8)]) rfl ?_
            refine lv_goto (tgt := 206) hx hb dL_acts_202 (by decide) ?_
            refine lv_istore (lv' := [(7, .int (w8)), (6, .int (nI t)), (5, .int (pA f n q)), (4, .int (nI w)), (3, .int (nI v)), (0, .ref (ad (429))), (1, .ref b), (2, .int (nI k))]) hx hb dL_acts_206 hl (by decide) rfl (fun ls hl => ?_)
            refine lv_goto (tgt := 371) hx hb dL_acts_208 (by decide) ?_
            refine W.widen (k := 12) (n := 72) (by omega) (by omega) ?_
            exact W.vret hx hb hr (fun T9 hT9 _ => ⟨_, rfl, ⟨pm, rj, σ, rfl, hG, by rw [hT9]; exact hP⟩, hS.F hT9⟩) hS.2.2 dL_acts_371
  · refine lv_tableIn (off := 162) (tgt := 211) hx hb dL_acts_49 (by decide +kernel) (by decide +kernel) (by decide +kernel) (by decide) ?_
    refine lv_iload hx hb dL_acts_211 (lv_at hl 1 rfl) ?_
    refine lv_if_ge (tgt := 220) hx hb dL_acts_213 (by decide) (fun c_9 => ?_) (fun c_9 => ?_)
    · skip
      refine lv_aload_n hx hb dL_acts_220 rfl (lv_at hl 4 rfl) ?_
      refine lv_iload hx hb dL_acts_221 (lv_at hl 1 rfl) ?_
      refine t_call (vx_runSW (As := [.ref (ad (429)), .int (pA f n q)]) (rest := []) ⟨hx, hb, hml, hown, hts⟩ (k_L_removePrint l D ad cy pm rj σ xq hst _ hi hG hB9 (pA f n q)) (vx_cwSW 2 hts gL_acts_L_removePrint rfl rfl rfl (by decide +kernel) ⟨Nat.le_of_ble_eq_true rfl, Nat.le_of_ble_eq_true rfl⟩) (sp_preSmx hK hP (hE.go hS)) rfl rfl hl.1 rfl (lv_room (Nat.le_of_ble_eq_true rfl)) dL_acts_223 ⟨Nat.le_of_ble_eq_true rfl, Nat.le_of_ble_eq_true rfl⟩) hS (fun q h1 h2 => sp_Alt h1 h2) (sp_Ale hS.1) (fun vr H locs hBv hle hfr hS => ?_)
      obtain ⟨w10, pm, rj, σ, rfl, hG, hP⟩ := hBv
      refine W.eq (g2 := F0 m 226 ls [.int (w10)]) rfl ?_
      refine lv_istore (lv' := [(7, .int (w10)), (6, .int (nI t)), (5, .int (pA f n q)), (4, .int (nI w)), (3, .int (nI v)), (0, .ref (ad (429))), (1, .ref b), (2, .int (nI k))]) hx hb dL_acts_226 hl (by decide) rfl (fun ls hl => ?_)
      refine lv_goto (tgt := 371) hx hb dL_acts_228 (by decide) ?_
      refine W.widen (k := 12) (n := 72) (by omega) (by omega) ?_
      exact W.vret hx hb hr (fun T9 hT9 _ => ⟨_, rfl, ⟨pm, rj, σ, rfl, hG, by rw [hT9]; exact hP⟩, hS.F hT9⟩) hS.2.2 dL_acts_371
    · skip
      refine lv_iconst (v := 0) hx hb dL_acts_216 (by decide) ?_
      refine lv_goto (tgt := 226) hx hb dL_acts_217 (by decide) ?_
      refine lv_istore (lv' := [(7, .int (0)), (6, .int (nI t)), (5, .int (pA f n q)), (4, .int (nI w)), (3, .int (nI v)), (0, .ref (ad (429))), (1, .ref b), (2, .int (nI k))]) hx hb dL_acts_226 hl (by decide) rfl (fun ls hl => ?_)
      refine lv_goto (tgt := 371) hx hb dL_acts_228 (by decide) ?_
      refine W.widen (k := 12) (n := 72) (by omega) (by omega) ?_
      exact W.vret hx hb hr (fun T9 hT9 _ => ⟨_, rfl, ⟨pm, rj, σ, rfl, hG0.mono (Nat.le_succ _) hB9, by rw [hT9]; exact hP⟩, hS.F hT9⟩) hS.2.2 dL_acts_371
  · refine lv_tableIn (off := 182) (tgt := 231) hx hb dL_acts_49 (by decide +kernel) (by decide +kernel) (by decide +kernel) (by decide) ?_
    refine lv_iload hx hb dL_acts_231 (lv_at hl 1 rfl) ?_
    refine lv_if_lt (tgt := 245) hx hb dL_acts_233 (by decide) (fun c_11 => ?_) (fun c_11 => ?_)
    · skip
      refine lv_iconst (v := 0) hx hb dL_acts_245 (by decide) ?_
      refine lv_goto (tgt := 250) hx hb dL_acts_246 (by decide) ?_
      refine lv_istore (lv' := [(7, .int (0)), (6, .int (nI t)), (5, .int (pA f n q)), (4, .int (nI w)), (3, .int (nI v)), (0, .ref (ad (429))), (1, .ref b), (2, .int (nI k))]) hx hb dL_acts_250 hl (by decide) rfl (fun ls hl => ?_)
      refine lv_goto (tgt := 371) hx hb dL_acts_252 (by decide) ?_
      refine W.widen (k := 12) (n := 72) (by omega) (by omega) ?_
      exact W.vret hx hb hr (fun T9 hT9 _ => ⟨_, rfl, ⟨pm, rj, σ, rfl, hG0.mono (Nat.le_succ _) hB9, by rw [hT9]; exact hP⟩, hS.F hT9⟩) hS.2.2 dL_acts_371
    · skip
      obtain ⟨hn0, ea⟩ := pA_pos (f := f) (n := n) (q := q) (c_11)
      have hk9 := (plD_ok hbr.vx hbr.n30 (Nat.mod_lt q hn0)).2.1
      refine lv_aload_n hx hb dL_acts_236 rfl (lv_at hl 4 rfl) ?_
      refine lv_iload hx hb dL_acts_237 (lv_at hl 1 rfl) ?_
      refine W.eq (g2 := F0 m 239 ls [.int (gP f (plD f n (q % n)) 0), .ref (ad (429))]) (by rw [ea]) ?_
      refine sp_callm (va_runV (As := [.int (gP f (plD f n (q % n)) 0)]) (rest := []) ⟨hx, hb, hml, hown, hts⟩ (vx_quiet (c_X9_swapFoot l D ad cy pm rj σ xq hst _ hi (gP f (plD f n (q % n)) 0) hG0.hpm) (hbr.xp hk9)) (cwV 1 hts gL_acts_X9_swapFoot rfl rfl rfl (by decide +kernel) ⟨Nat.le_of_ble_eq_true rfl, Nat.le_of_ble_eq_true rfl⟩) (sp_preVmx hK hP (hE.go hS) (κ := 429) (by decide) cE_sp rfl) rfl rfl hl.1 rfl (lv_room (Nat.le_of_ble_eq_true rfl)) dL_acts_239 ⟨Nat.le_of_ble_eq_true rfl, Nat.le_of_ble_eq_true rfl⟩) hS (fun q h1 h2 => sp_Alt h1 h2) (sp_Ale hS.1) (fun H locs hP hle hfr hS => ?_)
      have hG := hG0.swapFoot hB9 (gP f (plD f n (q % n)) 0) (hbr.xp hk9)
      generalize atO (f_findPrint σ (gP f (plD f n (q % n)) 0)) (f_push σ pm 0) _ = σ8 at hP hG
      generalize b2i _ = w9
      refine W.eq (g2 := F0 m 242 ls [.int (w9)]) rfl ?_
      refine lv_if_ne (tgt := 249) hx hb dL_acts_242 (by decide) (fun c_12 => ?_) (fun c_12 => ?_)
      · skip
        refine lv_iconst (v := 1) hx hb dL_acts_249 (by decide) ?_
        refine lv_istore (lv' := [(7, .int (1)), (6, .int (nI t)), (5, .int (pA f n q)), (4, .int (nI w)), (3, .int (nI v)), (0, .ref (ad (429))), (1, .ref b), (2, .int (nI k))]) hx hb dL_acts_250 hl (by decide) rfl (fun ls hl => ?_)
        refine lv_goto (tgt := 371) hx hb dL_acts_252 (by decide) ?_
        refine W.widen (k := 12) (n := 72) (by omega) (by omega) ?_
        exact W.vret hx hb hr (fun T9 hT9 _ => ⟨_, rfl, ⟨(pm_push pm), rj, σ8, rfl, hG, by rw [hT9]; exact hP⟩, hS.F hT9⟩) hS.2.2 dL_acts_371
      · skip
        refine lv_iconst (v := 0) hx hb dL_acts_245 (by decide) ?_
        refine lv_goto (tgt := 250) hx hb dL_acts_246 (by decide) ?_
        refine lv_istore (lv' := [(7, .int (0)), (6, .int (nI t)), (5, .int (pA f n q)), (4, .int (nI w)), (3, .int (nI v)), (0, .ref (ad (429))), (1, .ref b), (2, .int (nI k))]) hx hb dL_acts_250 hl (by decide) rfl (fun ls hl => ?_)
        refine lv_goto (tgt := 371) hx hb dL_acts_252 (by decide) ?_
        refine W.widen (k := 12) (n := 72) (by omega) (by omega) ?_
        exact W.vret hx hb hr (fun T9 hT9 _ => ⟨_, rfl, ⟨(pm_push pm), rj, σ8, rfl, hG, by rw [hT9]; exact hP⟩, hS.F hT9⟩) hS.2.2 dL_acts_371
  · refine w_two (g1 := F0 m 255 ls []) (fun K => ?_) ?_
    · rcases hz2 with rfl | rfl
      · exact lv_tableIn (off := 206) (tgt := 255) hx hb dL_acts_49 (by decide +kernel) (by decide +kernel) (by decide +kernel) (by decide) K
      · exact lv_tableIn (off := 206) (tgt := 255) hx hb dL_acts_49 (by decide +kernel) (by decide +kernel) (by decide +kernel) (by decide) K
    · skip
      refine lv_aload_n hx hb dL_acts_255 rfl (lv_at hl 4 rfl) ?_
      refine lv_iload hx hb dL_acts_256 (lv_at hl 1 rfl) ?_
      refine t_call (vx_runSW (As := [.ref (ad (429)), .int (pA f n q)]) (rest := []) ⟨hx, hb, hml, hown, hts⟩ (k_L_doubtToes l D ad cy pm rj σ xq hst _ hi hG hB9 (pA f n q)) (vx_cwSW 2 hts gL_acts_L_doubtToes rfl rfl rfl (by decide +kernel) ⟨Nat.le_of_ble_eq_true rfl, Nat.le_of_ble_eq_true rfl⟩) (sp_preSmx hK hP (hE.go hS)) rfl rfl hl.1 rfl (lv_room (Nat.le_of_ble_eq_true rfl)) dL_acts_258 ⟨Nat.le_of_ble_eq_true rfl, Nat.le_of_ble_eq_true rfl⟩) hS (fun q h1 h2 => sp_Alt h1 h2) (sp_Ale hS.1) (fun vr H locs hBv hle hfr hS => ?_)
      obtain ⟨w13, pm, rj, σ, rfl, hG, hP⟩ := hBv
      refine W.eq (g2 := F0 m 261 ls [.int (w13)]) rfl ?_
      refine lv_istore (lv' := [(7, .int (w13)), (6, .int (nI t)), (5, .int (pA f n q)), (4, .int (nI w)), (3, .int (nI v)), (0, .ref (ad (429))), (1, .ref b), (2, .int (nI k))]) hx hb dL_acts_261 hl (by decide) rfl (fun ls hl => ?_)
      refine lv_goto (tgt := 371) hx hb dL_acts_263 (by decide) ?_
      refine W.widen (k := 12) (n := 72) (by omega) (by omega) ?_
      exact W.vret hx hb hr (fun T9 hT9 _ => ⟨_, rfl, ⟨pm, rj, σ, rfl, hG, by rw [hT9]; exact hP⟩, hS.F hT9⟩) hS.2.2 dL_acts_371
  · refine lv_tableIn (off := 217) (tgt := 266) hx hb dL_acts_49 (by decide +kernel) (by decide +kernel) (by decide +kernel) (by decide) ?_
    refine lv_aload_n hx hb dL_acts_266 rfl (lv_at hl 4 rfl) ?_
    refine lv_iload hx hb dL_acts_267 (lv_at hl 1 rfl) ?_
    refine t_call (vx_runSW (As := [.ref (ad (429)), .int (pA f n q)]) (rest := []) ⟨hx, hb, hml, hown, hts⟩ (k_L_confirmToes l D ad cy pm rj σ xq hst _ hi hG hB9 (pA f n q)) (vx_cwSW 2 hts gL_acts_L_confirmToes rfl rfl rfl (by decide +kernel) ⟨Nat.le_of_ble_eq_true rfl, Nat.le_of_ble_eq_true rfl⟩) (sp_preSmx hK hP (hE.go hS)) rfl rfl hl.1 rfl (lv_room (Nat.le_of_ble_eq_true rfl)) dL_acts_269 ⟨Nat.le_of_ble_eq_true rfl, Nat.le_of_ble_eq_true rfl⟩) hS (fun q h1 h2 => sp_Alt h1 h2) (sp_Ale hS.1) (fun vr H locs hBv hle hfr hS => ?_)
    obtain ⟨w14, pm, rj, σ, rfl, hG, hP⟩ := hBv
    refine W.eq (g2 := F0 m 272 ls [.int (w14)]) rfl ?_
    refine lv_istore (lv' := [(7, .int (w14)), (6, .int (nI t)), (5, .int (pA f n q)), (4, .int (nI w)), (3, .int (nI v)), (0, .ref (ad (429))), (1, .ref b), (2, .int (nI k))]) hx hb dL_acts_272 hl (by decide) rfl (fun ls hl => ?_)
    refine lv_goto (tgt := 371) hx hb dL_acts_274 (by decide) ?_
    refine W.widen (k := 12) (n := 72) (by omega) (by omega) ?_
    exact W.vret hx hb hr (fun T9 hT9 _ => ⟨_, rfl, ⟨pm, rj, σ, rfl, hG, by rw [hT9]; exact hP⟩, hS.F hT9⟩) hS.2.2 dL_acts_371
  · refine lv_tableIn (off := 228) (tgt := 277) hx hb dL_acts_49 (by decide +kernel) (by decide +kernel) (by decide +kernel) (by decide) ?_
    refine lv_iload hx hb dL_acts_277 (lv_at hl 0 rfl) ?_
    refine lv_iconst (v := 2) hx hb dL_acts_279 (by decide) ?_
    refine lv_icmp_le (tgt := 304) hx hb dL_acts_280 (by decide) (fun c_15 => ?_) (fun c_15 => ?_)
    · skip
      refine lv_iconst (v := 0) hx hb dL_acts_304 (by decide) ?_
      refine lv_istore (lv' := [(7, .int (0)), (6, .int (nI t)), (5, .int (pA f n q)), (4, .int (nI w)), (3, .int (nI v)), (0, .ref (ad (429))), (1, .ref b), (2, .int (nI k))]) hx hb dL_acts_305 hl (by decide) rfl (fun ls hl => ?_)
      refine lv_goto (tgt := 371) hx hb dL_acts_307 (by decide) ?_
      refine W.widen (k := 12) (n := 72) (by omega) (by omega) ?_
      exact W.vret hx hb hr (fun T9 hT9 _ => ⟨_, rfl, ⟨pm, rj, σ, rfl, hG0.mono (Nat.le_succ _) hB9, by rw [hT9]; exact hP⟩, hS.F hT9⟩) hS.2.2 dL_acts_371
    · skip
      have ht0 : 0 < t := by
        rcases Nat.eq_zero_or_pos t with z9 | z9
        · exact absurd (by rw [z9]; decide) c_15
        · exact z9
      refine lv_iload_n hx hb dL_acts_283 rfl (lv_at hl 3 rfl) ?_
      refine lv_iconst (v := 5) hx hb dL_acts_284 (by decide) ?_
      refine lv_irem hx hb dL_acts_285 (by decide) ?_
      refine lv_if_ne (tgt := 304) hx hb dL_acts_286 (by decide) (fun c_16 => ?_) (fun c_16 => ?_)
      · skip
        refine lv_iconst (v := 0) hx hb dL_acts_304 (by decide) ?_
        refine lv_istore (lv' := [(7, .int (0)), (6, .int (nI t)), (5, .int (pA f n q)), (4, .int (nI w)), (3, .int (nI v)), (0, .ref (ad (429))), (1, .ref b), (2, .int (nI k))]) hx hb dL_acts_305 hl (by decide) rfl (fun ls hl => ?_)
        refine lv_goto (tgt := 371) hx hb dL_acts_307 (by decide) ?_
        refine W.widen (k := 12) (n := 72) (by omega) (by omega) ?_
        exact W.vret hx hb hr (fun T9 hT9 _ => ⟨_, rfl, ⟨pm, rj, σ, rfl, hG0.mono (Nat.le_succ _) hB9, by rw [hT9]; exact hP⟩, hS.F hT9⟩) hS.2.2 dL_acts_371
      · skip
        refine lv_aload_n hx hb dL_acts_289 rfl (lv_at hl 4 rfl) ?_
        refine lv_aload_n hx hb dL_acts_290 rfl (lv_at hl 4 rfl) ?_
        refine lv_iload_n hx hb dL_acts_291 rfl (lv_at hl 3 rfl) ?_
        refine lv_iload hx hb dL_acts_292 (lv_at hl 0 rfl) ?_
        refine lv_irem hx hb dL_acts_294 (fun z9 => by have := (nI_eq (a := t) (b := 0) (by omega) (by decide)).mp z9; omega) ?_
        refine W.eq (g2 := F0 m 295 ls [.int (nI (v % t)), .ref (ad (429)), .ref (ad (429))]) (by rw [rem_nI (by omega) (by omega)]) ?_
        refine sp_callm (va_runV (As := [.int (nI (v % t))]) (rest := [.ref (ad (429))]) ⟨hx, hb, hml, hown, hts⟩ (k_trackByErrors l D ad cy pm rj σ xq hst _ hi hbr (Nat.mod_lt v ht0)) (cwV 1 hts gL_acts_X9_trackByErrors rfl rfl rfl (by decide +kernel) ⟨Nat.le_of_ble_eq_true rfl, Nat.le_of_ble_eq_true rfl⟩) (sp_preVmx hK hP (hE.go hS) (κ := 429) (by decide) cE_sp rfl) rfl rfl hl.1 rfl (lv_room (Nat.le_of_ble_eq_true rfl)) dL_acts_295 ⟨Nat.le_of_ble_eq_true rfl, Nat.le_of_ble_eq_true rfl⟩) hS (fun q h1 h2 => sp_Alt h1 h2) (sp_Ale hS.1) (fun H locs hP hle hfr hS => ?_)
        refine W.eq (g2 := F0 m 298 ls [.int (gT f (plT f n t (v % t))), .ref (ad (429))]) rfl ?_
        refine t_call (vx_runSW (As := [.ref (ad (429)), .int (gT f (plT f n t (v % t)))]) (rest := []) ⟨hx, hb, hml, hown, hts⟩ (k_L_removeTrack l D ad cy pm rj σ xq hst _ hi hG hB9 (gT f (plT f n t (v % t)))) (vx_cwSW 2 hts gL_acts_L_removeTrack rfl rfl rfl (by decide +kernel) ⟨Nat.le_of_ble_eq_true rfl, Nat.le_of_ble_eq_true rfl⟩) (sp_preSmx hK hP (hE.go hS)) rfl rfl hl.1 rfl (lv_room (Nat.le_of_ble_eq_true rfl)) dL_acts_298 ⟨Nat.le_of_ble_eq_true rfl, Nat.le_of_ble_eq_true rfl⟩) hS (fun q h1 h2 => sp_Alt h1 h2) (sp_Ale hS.1) (fun vr H locs hBv hle hfr hS => ?_)
        obtain ⟨w17, pm, rj, σ, rfl, hG, hP⟩ := hBv
        refine W.eq (g2 := F0 m 301 ls [.int (w17)]) rfl ?_
        refine lv_goto (tgt := 305) hx hb dL_acts_301 (by decide) ?_
        refine lv_istore (lv' := [(7, .int (w17)), (6, .int (nI t)), (5, .int (pA f n q)), (4, .int (nI w)), (3, .int (nI v)), (0, .ref (ad (429))), (1, .ref b), (2, .int (nI k))]) hx hb dL_acts_305 hl (by decide) rfl (fun ls hl => ?_)
        refine lv_goto (tgt := 371) hx hb dL_acts_307 (by decide) ?_
        refine W.widen (k := 12) (n := 72) (by omega) (by omega) ?_
        exact W.vret hx hb hr (fun T9 hT9 _ => ⟨_, rfl, ⟨pm, rj, σ, rfl, hG, by rw [hT9]; exact hP⟩, hS.F hT9⟩) hS.2.2 dL_acts_371
  · refine lv_tableOut (tgt := 310) hx hb dL_acts_49 (Or.inr (by rw [nI_toInt (by omega)]; omega)) (by decide) ?_
    refine lv_iload hx hb dL_acts_310 (lv_at hl 1 rfl) ?_
    refine lv_if_ge (tgt := 319) hx hb dL_acts_312 (by decide) (fun c_18 => ?_) (fun c_18 => ?_)
    · skip
      obtain ⟨hn0, ea⟩ := pA_pos (f := f) (n := n) (q := q) (Int32.not_lt.mpr c_18)
      have hk9 := (plD_ok hbr.vx hbr.n30 (Nat.mod_lt q hn0)).2.1
      have hl : lv_has ls 8 [(6, .int (nI t)), (5, .int (gP f (plD f n (q % n)) 0)), (4, .int (nI w)), (3, .int (nI v)), (0, .ref (ad (429))), (1, .ref b), (2, .int (nI k))] := by rw [ea] at hl; exact hl
      refine lv_aload_n hx hb dL_acts_319 rfl (lv_at hl 4 rfl) ?_
      refine lv_iload hx hb dL_acts_320 (lv_at hl 1 rfl) ?_
      refine lv_iconst (v := 0) hx hb dL_acts_322 (by decide) ?_
      refine lv_bipush (v := 9) hx hb dL_acts_323 (by decide) ?_
      refine lv_aload_n hx hb dL_acts_325 rfl (lv_at hl 4 rfl) ?_
      refine lv_iload hx hb dL_acts_326 (lv_at hl 1 rfl) ?_
      refine sp_callm (va_runV (As := [.int (gP f (plD f n (q % n)) 0)]) (rest := [.int (9), .int (0), .int (gP f (plD f n (q % n)) 0), .ref (ad (429))]) ⟨hx, hb, hml, hown, hts⟩ (k_rowOf l D ad cy pm rj σ xq hst _ hi hbr hk9) (cwV 1 hts gL_acts_X9_rowOf rfl rfl rfl (by decide +kernel) ⟨Nat.le_of_ble_eq_true rfl, Nat.le_of_ble_eq_true rfl⟩) (sp_preVmx hK hP (hE.go hS) (κ := 429) (by decide) cE_sp rfl) rfl rfl hl.1 rfl (lv_room (Nat.le_of_ble_eq_true rfl)) dL_acts_328 ⟨Nat.le_of_ble_eq_true rfl, Nat.le_of_ble_eq_true rfl⟩) hS (fun q h1 h2 => sp_Alt h1 h2) (sp_Ale hS.1) (fun H locs hP hle hfr hS => ?_)
      refine W.eq (g2 := F0 m 331 ls [.int (gP f (plD f n (q % n)) 3), .int (9), .int (0), .int (gP f (plD f n (q % n)) 0), .ref (ad (429))]) rfl ?_
      refine lv_iload hx hb dL_acts_331 (lv_at hl 2 rfl) ?_
      refine lv_iconst (v := 3) hx hb dL_acts_333 (by decide) ?_
      refine lv_irem hx hb dL_acts_334 (by decide) ?_
      refine lv_iadd hx hb dL_acts_335 ?_
      refine lv_iconst (v := 1) hx hb dL_acts_336 (by decide) ?_
      refine lv_isub hx hb dL_acts_337 ?_
      refine va_mmin hx hb (by rw [hml]; exact hl.1.symm) hown (hts _ (List.mem_of_getElem? (i := 1) rfl)) (hts _ (List.mem_of_getElem? (i := 2) rfl)) (hts _ (List.mem_of_getElem? (i := 3) rfl)) (hts _ (List.mem_of_getElem? (i := 4) rfl)) (Nat.le_of_ble_eq_true rfl) (Nat.le_of_ble_eq_true rfl) (Nat.le_of_ble_eq_true rfl) (Nat.le_of_ble_eq_true rfl) dL_acts_338 ?_
      refine W.eq (g2 := F0 m 341 ls [.int (imin 9 (((gP f (plD f n (q % n)) 3) + ((nI w) - (nI w) / 3 * 3)) - 1)), .int (0), .int (gP f (plD f n (q % n)) 0), .ref (ad (429))]) rfl ?_
      refine va_mmax hx hb (by rw [hml]; exact hl.1.symm) hown (hts _ (List.mem_of_getElem? (i := 5) rfl)) (hts _ (List.mem_of_getElem? (i := 6) rfl)) (hts _ (List.mem_of_getElem? (i := 3) rfl)) (hts _ (List.mem_of_getElem? (i := 7) rfl)) (Nat.le_of_ble_eq_true rfl) (Nat.le_of_ble_eq_true rfl) (Nat.le_of_ble_eq_true rfl) (Nat.le_of_ble_eq_true rfl) dL_acts_341 ?_
      refine W.eq (g2 := F0 m 344 ls [.int (imax 0 (imin 9 (((gP f (plD f n (q % n)) 3) + ((nI w) - (nI w) / 3 * 3)) - 1))), .int (gP f (plD f n (q % n)) 0), .ref (ad (429))]) rfl ?_
      refine lv_iconst (v := 0) hx hb dL_acts_344 (by decide) ?_
      refine lv_bipush (v := 19) hx hb dL_acts_345 (by decide) ?_
      refine lv_aload_n hx hb dL_acts_347 rfl (lv_at hl 4 rfl) ?_
      refine lv_iload hx hb dL_acts_348 (lv_at hl 1 rfl) ?_
      refine sp_callm (va_runV (As := [.int (gP f (plD f n (q % n)) 0)]) (rest := [.int (19), .int (0), .int (imax 0 (imin 9 (((gP f (plD f n (q % n)) 3) + ((nI w) - (nI w) / 3 * 3)) - 1))), .int (gP f (plD f n (q % n)) 0), .ref (ad (429))]) ⟨hx, hb, hml, hown, hts⟩ (k_columnOf l D ad cy pm rj σ xq hst _ hi hbr hk9) (cwV 1 hts gL_acts_X9_columnOf rfl rfl rfl (by decide +kernel) ⟨Nat.le_of_ble_eq_true rfl, Nat.le_of_ble_eq_true rfl⟩) (sp_preVmx hK hP (hE.go hS) (κ := 429) (by decide) cE_sp rfl) rfl rfl hl.1 rfl (lv_room (Nat.le_of_ble_eq_true rfl)) dL_acts_350 ⟨Nat.le_of_ble_eq_true rfl, Nat.le_of_ble_eq_true rfl⟩) hS (fun q h1 h2 => sp_Alt h1 h2) (sp_Ale hS.1) (fun H locs hP hle hfr hS => ?_)
      refine W.eq (g2 := F0 m 353 ls [.int (gP f (plD f n (q % n)) 4), .int (19), .int (0), .int (imax 0 (imin 9 (((gP f (plD f n (q % n)) 3) + ((nI w) - (nI w) / 3 * 3)) - 1))), .int (gP f (plD f n (q % n)) 0), .ref (ad (429))]) rfl ?_
      refine lv_iload hx hb dL_acts_353 (lv_at hl 2 rfl) ?_
      refine lv_iconst (v := 2) hx hb dL_acts_355 (by decide) ?_
      refine lv_idiv hx hb dL_acts_356 (by decide) ?_
      refine lv_iadd hx hb dL_acts_357 ?_
      refine lv_iconst (v := 1) hx hb dL_acts_358 (by decide) ?_
      refine lv_isub hx hb dL_acts_359 ?_
      refine va_mmin hx hb (by rw [hml]; exact hl.1.symm) hown (hts _ (List.mem_of_getElem? (i := 1) rfl)) (hts _ (List.mem_of_getElem? (i := 2) rfl)) (hts _ (List.mem_of_getElem? (i := 3) rfl)) (hts _ (List.mem_of_getElem? (i := 4) rfl)) (Nat.le_of_ble_eq_true rfl) (Nat.le_of_ble_eq_true rfl) (Nat.le_of_ble_eq_true rfl) (Nat.le_of_ble_eq_true rfl) dL_acts_360 ?_
      refine W.eq (g2 := F0 m 363 ls [.int (imin 19 (((gP f (plD f n (q % n)) 4) + ((nI w) / 2)) - 1)), .int (0), .int (imax 0 (imin 9 (((gP f (plD f n (q % n)) 3) + ((nI w) - (nI w) / 3 * 3)) - 1))), .int (gP f (plD f n (q % n)) 0), .ref (ad (429))]) rfl ?_
      refine va_mmax hx hb (by rw [hml]; exact hl.1.symm) hown (hts _ (List.mem_of_getElem? (i := 5) rfl)) (hts _ (List.mem_of_getElem? (i := 6) rfl)) (hts _ (List.mem_of_getElem? (i := 3) rfl)) (hts _ (List.mem_of_getElem? (i := 7) rfl)) (Nat.le_of_ble_eq_true rfl) (Nat.le_of_ble_eq_true rfl) (Nat.le_of_ble_eq_true rfl) (Nat.le_of_ble_eq_true rfl) dL_acts_363 ?_
      refine W.eq (g2 := F0 m 366 ls [.int (imax 0 (imin 19 (((gP f (plD f n (q % n)) 4) + ((nI w) / 2)) - 1))), .int (imax 0 (imin 9 (((gP f (plD f n (q % n)) 3) + ((nI w) - (nI w) / 3 * 3)) - 1))), .int (gP f (plD f n (q % n)) 0), .ref (ad (429))]) rfl ?_
      refine t_call (vx_runSW (As := [.ref (ad (429)), .int (gP f (plD f n (q % n)) 0), .int (imax 0 (imin 9 (((gP f (plD f n (q % n)) 3) + ((nI w) - (nI w) / 3 * 3)) - 1))), .int (imax 0 (imin 19 (((gP f (plD f n (q % n)) 4) + ((nI w) / 2)) - 1)))]) (rest := []) ⟨hx, hb, hml, hown, hts⟩ (k_L_correctHeel l D ad cy pm rj σ xq hst _ hi hG hB9 (gP f (plD f n (q % n)) 0) (imax 0 (imin 9 (((gP f (plD f n (q % n)) 3) + ((nI w) - (nI w) / 3 * 3)) - 1))) (imax 0 (imin 19 (((gP f (plD f n (q % n)) 4) + ((nI w) / 2)) - 1)))) (vx_cwSW 4 hts gL_acts_L_correctHeel rfl rfl rfl (by decide +kernel) ⟨Nat.le_of_ble_eq_true rfl, Nat.le_of_ble_eq_true rfl⟩) (sp_preSmx hK hP (hE.go hS)) rfl rfl hl.1 rfl (lv_room (Nat.le_of_ble_eq_true rfl)) dL_acts_366 ⟨Nat.le_of_ble_eq_true rfl, Nat.le_of_ble_eq_true rfl⟩) hS (fun q h1 h2 => sp_Alt h1 h2) (sp_Ale hS.1) (fun vr H locs hBv hle hfr hS => ?_)
      obtain ⟨w19, pm, rj, σ, rfl, hG, hP⟩ := hBv
      refine W.eq (g2 := F0 m 369 ls [.int (w19)]) rfl ?_
      refine lv_istore (lv' := [(7, .int (w19)), (6, .int (nI t)), (5, .int (gP f (plD f n (q % n)) 0)), (4, .int (nI w)), (3, .int (nI v)), (0, .ref (ad (429))), (1, .ref b), (2, .int (nI k))]) hx hb dL_acts_369 hl (by decide) rfl (fun ls hl => ?_)
      refine W.widen (k := 12) (n := 72) (by omega) (by omega) ?_
      exact W.vret hx hb hr (fun T9 hT9 _ => ⟨_, rfl, ⟨pm, rj, σ, rfl, hG, by rw [hT9]; exact hP⟩, hS.F hT9⟩) hS.2.2 dL_acts_371
    · skip
      refine lv_iconst (v := 0) hx hb dL_acts_315 (by decide) ?_
      refine lv_goto (tgt := 369) hx hb dL_acts_316 (by decide) ?_
      refine lv_istore (lv' := [(7, .int (0)), (6, .int (nI t)), (5, .int (pA f n q)), (4, .int (nI w)), (3, .int (nI v)), (0, .ref (ad (429))), (1, .ref b), (2, .int (nI k))]) hx hb dL_acts_369 hl (by decide) rfl (fun ls hl => ?_)
      refine W.widen (k := 12) (n := 72) (by omega) (by omega) ?_
      exact W.vret hx hb hr (fun T9 hT9 _ => ⟨_, rfl, ⟨pm, rj, σ, rfl, hG0.mono (Nat.le_succ _) hB9, by rw [hT9]; exact hP⟩, hS.F hT9⟩) hS.2.2 dL_acts_371
set_option maxHeartbeats 4000000 in
set_option maxRecDepth 100000 in
theorem k_L_build (l : Launch) (D : va_G) (ad : Nat → Nat) (cy : Nat → ClassId) (pm : Nat → Nat) (rj : Option Nat) (σ : Nat → Nat → Int32) (xq : Nat → Nat) (hst : l.stackTraces = false) (sz : Nat) (hi : sp_inj ad 459) {B : Nat} (hG : GS B σ pm) (hB21 : B + 21 < 1000000) (b L : Nat) (xs : Nat → Int32) (hL : L < 2 ^ 31) : Met l yL_build wsL_build ({ frames := 10, cells := 162, slots := 936, locals := 192 } : Room) (bP xq ad D cy sz b L xs [.ref (ad (429)), .ref b] (cW ad cy pm rj σ)) (lV D ad cy (B + 21) (sp_A ad 459 sz)) 162 936 (sp_A ad 459 sz) := by
  refine Met.ofW (cc := cL_build) (maxL := 5) (ret := none) (by decide) rfl ?_
  intro p e s m args below meth c s₁ B9 hml hv
  obtain ⟨rfl, hsz, hP, hK, hE, hX, hbl, hnb⟩ := hv
  have hx := B9.exec
  have hb := B9.bytes
  have hr := B9.returns
  have hts := atoms_spec (ws := wsL_build) B9.pre
  have hown : s.vm.findClass RL = some m.cls := findClass_of_methodNamed B9.named
  have hlocks := B9.notSynchronized
  subst hsz
  have hS : va_S (sp_A ad 459 s.heap.size) s.heap s.heap [] := va_S.rf
  have hbA : ¬ sp_A ad 459 s.heap.size b := fun z => z.elim (fun ⟨k9, h1, h2⟩ => hnb k9 h1 h2.symm) (fun z => by omega)
  have hG0 := hG
  have hl := lv_entry ([.ref (ad (429)), .ref b]) (n := 5) (Nat.le_of_ble_eq_true rfl)
  refine W.eq (lg_entry_eq _ ([.ref (ad (429)), .ref b]) _) ?_
  generalize (lg_sl ([.ref (ad (429)), .ref b]) ++ List.replicate (5 - (lg_sl ([.ref (ad (429)), .ref b])).length) Slot.unset).toArray = ls at hl ⊢
  have hl : lv_has ls 5 [(0, .ref (ad (429))), (1, .ref b)] := hl
  refine lv_iconst (v := 1) hx hb dL_build_0 (by decide) ?_
  refine lv_aload_n hx hb dL_build_1 rfl (lv_at hl 1 rfl) ?_
  refine lv_iconst (v := 0) hx hb dL_build_2 (by decide) ?_
  refine W.eq (g2 := F0 m 3 ls [.int (nI 0), .ref b, .int (1)]) rfl ?_
  refine lv_iconst (v := 3) hx hb dL_build_3 (by decide) ?_
  refine W.eq (g2 := F0 m 4 ls [.int (nI 3), .int (nI 0), .ref b, .int (1)]) rfl ?_
  refine sp_call (W.runS (As := [.ref b, .int (nI 0), .int (nI 3)]) (rest := [.int (1)]) ⟨hx, hb, hml, hown, hts⟩ (c_L_some l b L xs 0 3 (by omega) hL (by omega) (by omega)) (va_cwS 3 hts gL_build_L_some rfl rfl rfl (by decide +kernel) ⟨Nat.le_of_ble_eq_true rfl, Nat.le_of_ble_eq_true rfl⟩) (cPre hX hbl hbA hS) rfl rfl hl.1 rfl (lv_room (Nat.le_of_ble_eq_true rfl)) dL_build_4 ⟨by show _ ≤ 162; omega, by show _ ≤ 936; omega⟩) ?_
  refine W.eq (g2 := F0 m 7 ls [.int (nI (sv9 L xs 0 3)), .int (1)]) rfl ?_
  obtain ⟨y0, ey0, hy0⟩ : ∃ y0, sv9 L xs 0 3 = y0 ∧ y0 < 3 := ⟨_, rfl, sv_lt (by omega)⟩
  refine W.eq (g2 := F0 m 7 ls [.int (nI y0), .int (1)]) (by rw [ey0]) ?_
  refine lv_iadd hx hb dL_build_7 ?_
  obtain ⟨n, en, hn⟩ : ∃ n, n = 1 + y0 ∧ n ≤ 3 := ⟨_, rfl, by omega⟩
  refine W.eq (g2 := F0 m 8 ls [.int (nI n)]) (by rw [show (1 : Int32) + nI y0 = nI n from by rw [en]; exact nI_addE (a := 1) rfl rfl]) ?_
  refine lv_istore_n (lv' := [(3, .int (nI n)), (0, .ref (ad (429))), (1, .ref b)]) hx hb dL_build_8 rfl hl (by decide) rfl (fun ls hl => ?_)
  refine lv_iconst (v := 0) hx hb dL_build_9 (by decide) ?_
  refine lv_istore (lv' := [(4, .int (0)), (3, .int (nI n)), (0, .ref (ad (429))), (1, .ref b)]) hx hb dL_build_10 hl (by decide) rfl (fun ls hl => ?_)
  have loop3 : ∀ (fu i : Nat), i ≤ 9 → 9 - i < fu → ∀ (H : Heap) (locs : List Loc) (ls : Array Slot) (pm : Nat → Nat) (rj : Option Nat) (σ : Nat → Nat → Int32), GS (B + (12 + i)) σ pm → va_P D vwCl (cW ad cy pm rj σ) H → va_S (sp_A ad 459 s.heap.size) s.heap H locs → lv_has ls 5 [(4, .int (nI i)), (0, .ref (ad (429))), (1, .ref b)] → W p l e (headSpec wsL_build ({ frames := 10, cells := 162, slots := 936, locals := 192 } : Room)).room s m ([.ref (ad (429)), .ref b] : List Value).toArray below meth c H locs (54 + 12 * i) (288 + 72 * i) (MQ below (lV D ad cy (B + 21) (sp_A ad 459 s.heap.size)) ([.ref (ad (429)), .ref b] : List Value).toArray s 162 936 (sp_A ad 459 s.heap.size)) (F0 m 139 ls []) := by
    intro fu
    induction fu with
    | zero => intro i _ h; exact absurd h (Nat.not_lt_zero _)
    | succ fu ih =>
      intro i hi9 hfu H locs ls pm rj σ hG hP hS hl
      refine lv_iload hx hb dL_build_139 (lv_at hl 0 rfl) ?_
      refine lv_bipush (v := 9) hx hb dL_build_141 (by decide) ?_
      refine lv_icmp_ge (tgt := 164) hx hb dL_build_143 (by decide) (fun c_1 => ?_) (fun c_1 => ?_)
      · skip
        have hi8 : i = 9 := by have := (nI_leI (a := 9) (b := i) (by decide) (by omega)).mp c_1; omega
        refine W.widen (k := 162) (n := 936) (by omega) (by omega) ?_
        exact W.vret hx hb hr (fun T9 hT9 _ => ⟨_, rfl, ⟨pm, rj, σ, rfl, hG.mono (by omega) hB21, by rw [hT9]; exact hP⟩, hS.F hT9⟩) hS.2.2 dL_build_164
      · skip
        have hi8 : i < 9 := Nat.lt_of_not_le (fun z => c_1 (nI_le (a := 9) z (by omega)))
        refine lv_aload_n hx hb dL_build_146 rfl (lv_at hl 1 rfl) ?_
        refine lv_aload_n hx hb dL_build_147 rfl (lv_at hl 2 rfl) ?_
        refine lv_bipush (v := 65) hx hb dL_build_148 (by decide) ?_
        refine lv_iconst (v := 4) hx hb dL_build_150 (by decide) ?_
        refine lv_iload hx hb dL_build_151 (lv_at hl 0 rfl) ?_
        refine lv_imul hx hb dL_build_153 ?_
        refine lv_iadd hx hb dL_build_154 ?_
        refine W.eq (g2 := F0 m 155 ls [.int (nI (65 + 4 * i)), .ref b, .ref (ad (429))]) (by rw [show (65 : Int32) + 4 * nI i = nI (65 + 4 * i) from nI_addE (a := 65) (b := 4 * i) rfl (nI_mulE (a := 4) rfl rfl)]) ?_
        refine t_call (va_runS (As := [.ref (ad (429)), .ref b, .int (nI (65 + 4 * i))]) (rest := []) ⟨hx, hb, hml, hown, hts⟩ (k_L_acts l D ad cy pm rj σ xq hst _ hi hG (by omega) b L xs hL (65 + 4 * i) (by omega)) (va_cwS 3 hts gL_build_L_acts rfl rfl rfl (by decide +kernel) ⟨Nat.le_of_ble_eq_true rfl, Nat.le_of_ble_eq_true rfl⟩) (bPre hK hP (hE.go hS) hX hbl hbA hS hnb) rfl rfl hl.1 rfl (lv_room (Nat.le_of_ble_eq_true rfl)) dL_build_155 ⟨by show _ ≤ 162; omega, by show _ ≤ 936; omega⟩) hS (fun q h1 h2 => sp_Alt h1 h2) (sp_Ale hS.1) (fun vr H locs hBv hle hfr hS => ?_)
        obtain ⟨pm, rj, σ, rfl, hG, hP⟩ := hBv
        refine W.eq (g2 := F0 m 158 ls []) rfl ?_
        refine lv_iinc (v := nI (i + 1)) (lv' := [(4, .int (nI (i + 1))), (0, .ref (ad (429))), (1, .ref b)]) hx hb dL_build_158 hl (k := 0) rfl (nI_1 _) (by decide) rfl (fun ls hl => ?_)
        refine lv_goto (tgt := 139) hx hb dL_build_161 (by decide) ?_
        refine W.widen (k := 54 + 12 * (i + 1)) (n := 288 + 72 * (i + 1)) (by omega) (by omega) ?_
        exact ih (i + 1) (by omega) (by omega) H locs ls pm rj σ (by rw [show B + (12 + (i + 1)) = B + (12 + i) + 1 by omega]; exact hG) hP hS (lv_sub hl [0, 1, 2] rfl)
  have loop2 : ∀ (fu i : Nat), i ≤ 9 → 9 - i < fu → ∀ (H : Heap) (locs : List Loc) (ls : Array Slot) (pm : Nat → Nat) (rj : Option Nat) (σ : Nat → Nat → Int32), GS (B + (3 + i)) σ pm → va_P D vwCl (cW ad cy pm rj σ) H → va_S (sp_A ad 459 s.heap.size) s.heap H locs → lv_has ls 5 [(4, .int (nI i)), (3, .int (nI n)), (0, .ref (ad (429))), (1, .ref b)] → W p l e (headSpec wsL_build ({ frames := 10, cells := 162, slots := 936, locals := 192 } : Room)).room s m ([.ref (ad (429)), .ref b] : List Value).toArray below meth c H locs (9 + 5 * i) (45 + 27 * i) (MQ below (lV D ad cy (B + 21) (sp_A ad 459 s.heap.size)) ([.ref (ad (429)), .ref b] : List Value).toArray s 162 936 (sp_A ad 459 s.heap.size)) (F0 m 44 ls []) := by
    intro fu
    induction fu with
    | zero => intro i _ h; exact absurd h (Nat.not_lt_zero _)
    | succ fu ih =>
      intro i hi9 hfu H locs ls pm rj σ hG hP hS hl
      refine lv_iload hx hb dL_build_44 (lv_at hl 0 rfl) ?_
      refine lv_bipush (v := 9) hx hb dL_build_46 (by decide) ?_
      refine lv_icmp_ge (tgt := 136) hx hb dL_build_48 (by decide) (fun c_2 => ?_) (fun c_2 => ?_)
      · skip
        have hi8 : i = 9 := by have := (nI_leI (a := 9) (b := i) (by decide) (by omega)).mp c_2; omega
        refine lv_iconst (v := 0) hx hb dL_build_136 (by decide) ?_
        refine lv_istore (lv' := [(4, .int (0)), (3, .int (nI n)), (0, .ref (ad (429))), (1, .ref b)]) hx hb dL_build_137 hl (by decide) rfl (fun ls hl => ?_)
        refine W.widen (k := 54 + 12 * 0) (n := 288 + 72 * 0) (by omega) (by omega) ?_
        exact loop3 10 0 (by omega) (by omega) H locs ls pm rj σ (hG.mono (by omega) (by omega)) hP hS (lv_sub hl [0, 2, 3] rfl)
      · skip
        have hi8 : i < 9 := Nat.lt_of_not_le (fun z => c_2 (nI_le (a := 9) z (by omega)))
        refine lv_aload_n hx hb dL_build_51 rfl (lv_at hl 2 rfl) ?_
        refine lv_aload_n hx hb dL_build_52 rfl (lv_at hl 3 rfl) ?_
        refine lv_iconst (v := 5) hx hb dL_build_53 (by decide) ?_
        refine lv_iload hx hb dL_build_54 (lv_at hl 0 rfl) ?_
        refine lv_iadd hx hb dL_build_56 ?_
        refine W.eq (g2 := F0 m 57 ls [.int (nI (5 + i)), .ref b, .ref (ad (429))]) (by rw [show (5 : Int32) + nI i = nI (5 + i) from nI_addE (a := 5) rfl rfl]) ?_
        refine lv_iload_n hx hb dL_build_57 rfl (lv_at hl 1 rfl) ?_
        refine sp_call (W.runS (As := [.ref b, .int (nI (5 + i)), .int (nI n)]) (rest := [.ref (ad (429))]) ⟨hx, hb, hml, hown, hts⟩ (c_L_some l b L xs (5 + i) n (by omega) hL (by omega) (by omega)) (va_cwS 3 hts gL_build_L_some rfl rfl rfl (by decide +kernel) ⟨Nat.le_of_ble_eq_true rfl, Nat.le_of_ble_eq_true rfl⟩) (cPre hX hbl hbA hS) rfl rfl hl.1 rfl (lv_room (Nat.le_of_ble_eq_true rfl)) dL_build_58 ⟨by show _ ≤ 162; omega, by show _ ≤ 936; omega⟩) ?_
        refine W.eq (g2 := F0 m 61 ls [.int (nI (sv9 L xs (5 + i) n)), .ref (ad (429))]) rfl ?_
        obtain ⟨y1, ey1, hy1⟩ : ∃ y1, sv9 L xs (5 + i) n = y1 ∧ y1 < n := ⟨_, rfl, sv_lt (by omega)⟩
        refine W.eq (g2 := F0 m 61 ls [.int (nI y1), .ref (ad (429))]) (by rw [ey1]) ?_
        refine lv_aload_n hx hb dL_build_61 rfl (lv_at hl 3 rfl) ?_
        refine lv_bipush (v := 15) hx hb dL_build_62 (by decide) ?_
        refine lv_iload hx hb dL_build_64 (lv_at hl 0 rfl) ?_
        refine lv_iadd hx hb dL_build_66 ?_
        refine W.eq (g2 := F0 m 67 ls [.int (nI (15 + i)), .ref b, .int (nI y1), .ref (ad (429))]) (by rw [show (15 : Int32) + nI i = nI (15 + i) from nI_addE (a := 15) rfl rfl]) ?_
        refine lv_bipush (v := 40) hx hb dL_build_67 (by decide) ?_
        refine W.eq (g2 := F0 m 69 ls [.int (nI 40), .int (nI (15 + i)), .ref b, .int (nI y1), .ref (ad (429))]) rfl ?_
        refine sp_call (W.runS (As := [.ref b, .int (nI (15 + i)), .int (nI 40)]) (rest := [.int (nI y1), .ref (ad (429))]) ⟨hx, hb, hml, hown, hts⟩ (c_L_some l b L xs (15 + i) 40 (by omega) hL (by omega) (by omega)) (va_cwS 3 hts gL_build_L_some rfl rfl rfl (by decide +kernel) ⟨Nat.le_of_ble_eq_true rfl, Nat.le_of_ble_eq_true rfl⟩) (cPre hX hbl hbA hS) rfl rfl hl.1 rfl (lv_room (Nat.le_of_ble_eq_true rfl)) dL_build_69 ⟨by show _ ≤ 162; omega, by show _ ≤ 936; omega⟩) ?_
        refine W.eq (g2 := F0 m 72 ls [.int (nI (sv9 L xs (15 + i) 40)), .int (nI y1), .ref (ad (429))]) rfl ?_
        obtain ⟨y2, ey2, hy2⟩ : ∃ y2, sv9 L xs (15 + i) 40 = y2 ∧ y2 < 40 := ⟨_, rfl, sv_lt (by omega)⟩
        refine W.eq (g2 := F0 m 72 ls [.int (nI y2), .int (nI y1), .ref (ad (429))]) (by rw [ey2]) ?_
        refine lv_iconst (v := 2) hx hb dL_build_72 (by decide) ?_
        refine lv_aload_n hx hb dL_build_73 rfl (lv_at hl 3 rfl) ?_
        refine lv_bipush (v := 25) hx hb dL_build_74 (by decide) ?_
        refine lv_iload hx hb dL_build_76 (lv_at hl 0 rfl) ?_
        refine lv_iadd hx hb dL_build_78 ?_
        refine W.eq (g2 := F0 m 79 ls [.int (nI (25 + i)), .ref b, .int (2), .int (nI y2), .int (nI y1), .ref (ad (429))]) (by rw [show (25 : Int32) + nI i = nI (25 + i) from nI_addE (a := 25) rfl rfl]) ?_
        refine lv_iconst (v := 5) hx hb dL_build_79 (by decide) ?_
        refine W.eq (g2 := F0 m 80 ls [.int (nI 5), .int (nI (25 + i)), .ref b, .int (2), .int (nI y2), .int (nI y1), .ref (ad (429))]) rfl ?_
        refine sp_call (W.runS (As := [.ref b, .int (nI (25 + i)), .int (nI 5)]) (rest := [.int (2), .int (nI y2), .int (nI y1), .ref (ad (429))]) ⟨hx, hb, hml, hown, hts⟩ (c_L_some l b L xs (25 + i) 5 (by omega) hL (by omega) (by omega)) (va_cwS 3 hts gL_build_L_some rfl rfl rfl (by decide +kernel) ⟨Nat.le_of_ble_eq_true rfl, Nat.le_of_ble_eq_true rfl⟩) (cPre hX hbl hbA hS) rfl rfl hl.1 rfl (lv_room (Nat.le_of_ble_eq_true rfl)) dL_build_80 ⟨by show _ ≤ 162; omega, by show _ ≤ 936; omega⟩) ?_
        refine W.eq (g2 := F0 m 83 ls [.int (nI (sv9 L xs (25 + i) 5)), .int (2), .int (nI y2), .int (nI y1), .ref (ad (429))]) rfl ?_
        obtain ⟨y3, ey3, hy3⟩ : ∃ y3, sv9 L xs (25 + i) 5 = y3 ∧ y3 < 5 := ⟨_, rfl, sv_lt (by omega)⟩
        refine W.eq (g2 := F0 m 83 ls [.int (nI y3), .int (2), .int (nI y2), .int (nI y1), .ref (ad (429))]) (by rw [ey3]) ?_
        refine lv_iadd hx hb dL_build_83 ?_
        refine lv_aload_n hx hb dL_build_84 rfl (lv_at hl 3 rfl) ?_
        refine lv_bipush (v := 35) hx hb dL_build_85 (by decide) ?_
        refine lv_iload hx hb dL_build_87 (lv_at hl 0 rfl) ?_
        refine lv_iadd hx hb dL_build_89 ?_
        refine W.eq (g2 := F0 m 90 ls [.int (nI (35 + i)), .ref b, .int (2 + (nI y3)), .int (nI y2), .int (nI y1), .ref (ad (429))]) (by rw [show (35 : Int32) + nI i = nI (35 + i) from nI_addE (a := 35) rfl rfl]) ?_
        refine lv_bipush (v := 12) hx hb dL_build_90 (by decide) ?_
        refine W.eq (g2 := F0 m 92 ls [.int (nI 12), .int (nI (35 + i)), .ref b, .int (2 + (nI y3)), .int (nI y2), .int (nI y1), .ref (ad (429))]) rfl ?_
        refine sp_call (W.runS (As := [.ref b, .int (nI (35 + i)), .int (nI 12)]) (rest := [.int (2 + (nI y3)), .int (nI y2), .int (nI y1), .ref (ad (429))]) ⟨hx, hb, hml, hown, hts⟩ (c_L_some l b L xs (35 + i) 12 (by omega) hL (by omega) (by omega)) (va_cwS 3 hts gL_build_L_some rfl rfl rfl (by decide +kernel) ⟨Nat.le_of_ble_eq_true rfl, Nat.le_of_ble_eq_true rfl⟩) (cPre hX hbl hbA hS) rfl rfl hl.1 rfl (lv_room (Nat.le_of_ble_eq_true rfl)) dL_build_92 ⟨by show _ ≤ 162; omega, by show _ ≤ 936; omega⟩) ?_
        refine W.eq (g2 := F0 m 95 ls [.int (nI (sv9 L xs (35 + i) 12)), .int (2 + (nI y3)), .int (nI y2), .int (nI y1), .ref (ad (429))]) rfl ?_
        obtain ⟨y4, ey4, hy4⟩ : ∃ y4, sv9 L xs (35 + i) 12 = y4 ∧ y4 < 12 := ⟨_, rfl, sv_lt (by omega)⟩
        refine W.eq (g2 := F0 m 95 ls [.int (nI y4), .int (2 + (nI y3)), .int (nI y2), .int (nI y1), .ref (ad (429))]) (by rw [ey4]) ?_
        refine lv_aload_n hx hb dL_build_95 rfl (lv_at hl 3 rfl) ?_
        refine lv_bipush (v := 45) hx hb dL_build_96 (by decide) ?_
        refine lv_iload hx hb dL_build_98 (lv_at hl 0 rfl) ?_
        refine lv_iadd hx hb dL_build_100 ?_
        refine W.eq (g2 := F0 m 101 ls [.int (nI (45 + i)), .ref b, .int (nI y4), .int (2 + (nI y3)), .int (nI y2), .int (nI y1), .ref (ad (429))]) (by rw [show (45 : Int32) + nI i = nI (45 + i) from nI_addE (a := 45) rfl rfl]) ?_
        refine lv_iconst (v := 2) hx hb dL_build_101 (by decide) ?_
        refine W.eq (g2 := F0 m 102 ls [.int (nI 2), .int (nI (45 + i)), .ref b, .int (nI y4), .int (2 + (nI y3)), .int (nI y2), .int (nI y1), .ref (ad (429))]) rfl ?_
        refine sp_call (W.runS (As := [.ref b, .int (nI (45 + i)), .int (nI 2)]) (rest := [.int (nI y4), .int (2 + (nI y3)), .int (nI y2), .int (nI y1), .ref (ad (429))]) ⟨hx, hb, hml, hown, hts⟩ (c_L_some l b L xs (45 + i) 2 (by omega) hL (by omega) (by omega)) (va_cwS 3 hts gL_build_L_some rfl rfl rfl (by decide +kernel) ⟨Nat.le_of_ble_eq_true rfl, Nat.le_of_ble_eq_true rfl⟩) (cPre hX hbl hbA hS) rfl rfl hl.1 rfl (lv_room (Nat.le_of_ble_eq_true rfl)) dL_build_102 ⟨by show _ ≤ 162; omega, by show _ ≤ 936; omega⟩) ?_
        refine W.eq (g2 := F0 m 105 ls [.int (nI (sv9 L xs (45 + i) 2)), .int (nI y4), .int (2 + (nI y3)), .int (nI y2), .int (nI y1), .ref (ad (429))]) rfl ?_
        obtain ⟨y5, ey5, hy5⟩ : ∃ y5, sv9 L xs (45 + i) 2 = y5 ∧ y5 < 2 := ⟨_, rfl, sv_lt (by omega)⟩
        refine W.eq (g2 := F0 m 105 ls [.int (nI y5), .int (nI y4), .int (2 + (nI y3)), .int (nI y2), .int (nI y1), .ref (ad (429))]) (by rw [ey5]) ?_
        refine lv_if_ne (tgt := 112) hx hb dL_build_105 (by decide) (fun c_3 => ?_) (fun c_3 => ?_)
        · skip
          refine lv_iconst (v := 0) hx hb dL_build_112 (by decide) ?_
          refine W.eq (g2 := F0 m 113 ls [.int (b2i false), .int (nI y4), .int (2 + (nI y3)), .int (nI y2), .int (nI y1), .ref (ad (429))]) rfl ?_
          refine lv_iconst (v := 1) hx hb dL_build_113 (by decide) ?_
          refine lv_aload_n hx hb dL_build_114 rfl (lv_at hl 3 rfl) ?_
          refine lv_bipush (v := 55) hx hb dL_build_115 (by decide) ?_
          refine lv_iload hx hb dL_build_117 (lv_at hl 0 rfl) ?_
          refine lv_iadd hx hb dL_build_119 ?_
          refine W.eq (g2 := F0 m 120 ls [.int (nI (55 + i)), .ref b, .int (1), .int (b2i false), .int (nI y4), .int (2 + (nI y3)), .int (nI y2), .int (nI y1), .ref (ad (429))]) (by rw [show (55 : Int32) + nI i = nI (55 + i) from nI_addE (a := 55) rfl rfl]) ?_
          refine lv_bipush (v := 9) hx hb dL_build_120 (by decide) ?_
          refine W.eq (g2 := F0 m 122 ls [.int (nI 9), .int (nI (55 + i)), .ref b, .int (1), .int (b2i false), .int (nI y4), .int (2 + (nI y3)), .int (nI y2), .int (nI y1), .ref (ad (429))]) rfl ?_
          refine sp_call (W.runS (As := [.ref b, .int (nI (55 + i)), .int (nI 9)]) (rest := [.int (1), .int (b2i false), .int (nI y4), .int (2 + (nI y3)), .int (nI y2), .int (nI y1), .ref (ad (429))]) ⟨hx, hb, hml, hown, hts⟩ (c_L_some l b L xs (55 + i) 9 (by omega) hL (by omega) (by omega)) (va_cwS 3 hts gL_build_L_some rfl rfl rfl (by decide +kernel) ⟨Nat.le_of_ble_eq_true rfl, Nat.le_of_ble_eq_true rfl⟩) (cPre hX hbl hbA hS) rfl rfl hl.1 rfl (lv_room (Nat.le_of_ble_eq_true rfl)) dL_build_122 ⟨by show _ ≤ 162; omega, by show _ ≤ 936; omega⟩) ?_
          refine W.eq (g2 := F0 m 125 ls [.int (nI (sv9 L xs (55 + i) 9)), .int (1), .int (b2i false), .int (nI y4), .int (2 + (nI y3)), .int (nI y2), .int (nI y1), .ref (ad (429))]) rfl ?_
          obtain ⟨y6, ey6, hy6⟩ : ∃ y6, sv9 L xs (55 + i) 9 = y6 ∧ y6 < 9 := ⟨_, rfl, sv_lt (by omega)⟩
          refine W.eq (g2 := F0 m 125 ls [.int (nI y6), .int (1), .int (b2i false), .int (nI y4), .int (2 + (nI y3)), .int (nI y2), .int (nI y1), .ref (ad (429))]) (by rw [ey6]) ?_
          refine lv_iadd hx hb dL_build_125 ?_
          refine t_call (vx_runSW (As := [.ref (ad (429)), .int (nI y1), .int (nI y2), .int (2 + (nI y3)), .int (nI y4), .int (b2i false), .int (1 + (nI y6))]) (rest := []) ⟨hx, hb, hml, hown, hts⟩ (k_L_addPrint l D ad cy pm rj σ xq hst _ hi hG (by omega) (nI y1) (nI y2) (2 + (nI y3)) (nI y4) false (1 + (nI y6))) (vx_cwSW 7 hts gL_build_L_addPrint rfl rfl rfl (by decide +kernel) ⟨Nat.le_of_ble_eq_true rfl, Nat.le_of_ble_eq_true rfl⟩) (sp_preSmx hK hP (hE.go hS)) rfl rfl hl.1 rfl (lv_room (Nat.le_of_ble_eq_true rfl)) dL_build_126 ⟨by show _ ≤ 162; omega, by show _ ≤ 936; omega⟩) hS (fun q h1 h2 => sp_Alt h1 h2) (sp_Ale hS.1) (fun vr H locs hBv hle hfr hS => ?_)
          obtain ⟨w4, pm, rj, σ, rfl, hG, hP⟩ := hBv
          refine W.eq (g2 := F0 m 129 ls [.int (w4)]) rfl ?_
          refine lv_istore_n (lv' := [(2, .int (w4)), (4, .int (nI i)), (3, .int (nI n)), (0, .ref (ad (429))), (1, .ref b)]) hx hb dL_build_129 rfl hl (by decide) rfl (fun ls hl => ?_)
          refine lv_iinc (v := nI (i + 1)) (lv' := [(4, .int (nI (i + 1))), (2, .int (w4)), (3, .int (nI n)), (0, .ref (ad (429))), (1, .ref b)]) hx hb dL_build_130 hl (k := 1) rfl (nI_1 _) (by decide) rfl (fun ls hl => ?_)
          refine lv_goto (tgt := 44) hx hb dL_build_133 (by decide) ?_
          refine W.widen (k := 9 + 5 * (i + 1)) (n := 45 + 27 * (i + 1)) (by omega) (by omega) ?_
          exact ih (i + 1) (by omega) (by omega) H locs ls pm rj σ (by rw [show B + (3 + (i + 1)) = B + (3 + i) + 1 by omega]; exact hG) hP hS (lv_sub hl [0, 2, 3, 4] rfl)
        · skip
          refine lv_iconst (v := 1) hx hb dL_build_108 (by decide) ?_
          refine lv_goto (tgt := 113) hx hb dL_build_109 (by decide) ?_
          refine W.eq (g2 := F0 m 113 ls [.int (b2i true), .int (nI y4), .int (2 + (nI y3)), .int (nI y2), .int (nI y1), .ref (ad (429))]) rfl ?_
          refine lv_iconst (v := 1) hx hb dL_build_113 (by decide) ?_
          refine lv_aload_n hx hb dL_build_114 rfl (lv_at hl 3 rfl) ?_
          refine lv_bipush (v := 55) hx hb dL_build_115 (by decide) ?_
          refine lv_iload hx hb dL_build_117 (lv_at hl 0 rfl) ?_
          refine lv_iadd hx hb dL_build_119 ?_
          refine W.eq (g2 := F0 m 120 ls [.int (nI (55 + i)), .ref b, .int (1), .int (b2i true), .int (nI y4), .int (2 + (nI y3)), .int (nI y2), .int (nI y1), .ref (ad (429))]) (by rw [show (55 : Int32) + nI i = nI (55 + i) from nI_addE (a := 55) rfl rfl]) ?_
          refine lv_bipush (v := 9) hx hb dL_build_120 (by decide) ?_
          refine W.eq (g2 := F0 m 122 ls [.int (nI 9), .int (nI (55 + i)), .ref b, .int (1), .int (b2i true), .int (nI y4), .int (2 + (nI y3)), .int (nI y2), .int (nI y1), .ref (ad (429))]) rfl ?_
          refine sp_call (W.runS (As := [.ref b, .int (nI (55 + i)), .int (nI 9)]) (rest := [.int (1), .int (b2i true), .int (nI y4), .int (2 + (nI y3)), .int (nI y2), .int (nI y1), .ref (ad (429))]) ⟨hx, hb, hml, hown, hts⟩ (c_L_some l b L xs (55 + i) 9 (by omega) hL (by omega) (by omega)) (va_cwS 3 hts gL_build_L_some rfl rfl rfl (by decide +kernel) ⟨Nat.le_of_ble_eq_true rfl, Nat.le_of_ble_eq_true rfl⟩) (cPre hX hbl hbA hS) rfl rfl hl.1 rfl (lv_room (Nat.le_of_ble_eq_true rfl)) dL_build_122 ⟨by show _ ≤ 162; omega, by show _ ≤ 936; omega⟩) ?_
          refine W.eq (g2 := F0 m 125 ls [.int (nI (sv9 L xs (55 + i) 9)), .int (1), .int (b2i true), .int (nI y4), .int (2 + (nI y3)), .int (nI y2), .int (nI y1), .ref (ad (429))]) rfl ?_
          obtain ⟨y6, ey6, hy6⟩ : ∃ y6, sv9 L xs (55 + i) 9 = y6 ∧ y6 < 9 := ⟨_, rfl, sv_lt (by omega)⟩
          refine W.eq (g2 := F0 m 125 ls [.int (nI y6), .int (1), .int (b2i true), .int (nI y4), .int (2 + (nI y3)), .int (nI y2), .int (nI y1), .ref (ad (429))]) (by rw [ey6]) ?_
          refine lv_iadd hx hb dL_build_125 ?_
          refine t_call (vx_runSW (As := [.ref (ad (429)), .int (nI y1), .int (nI y2), .int (2 + (nI y3)), .int (nI y4), .int (b2i true), .int (1 + (nI y6))]) (rest := []) ⟨hx, hb, hml, hown, hts⟩ (k_L_addPrint l D ad cy pm rj σ xq hst _ hi hG (by omega) (nI y1) (nI y2) (2 + (nI y3)) (nI y4) true (1 + (nI y6))) (vx_cwSW 7 hts gL_build_L_addPrint rfl rfl rfl (by decide +kernel) ⟨Nat.le_of_ble_eq_true rfl, Nat.le_of_ble_eq_true rfl⟩) (sp_preSmx hK hP (hE.go hS)) rfl rfl hl.1 rfl (lv_room (Nat.le_of_ble_eq_true rfl)) dL_build_126 ⟨by show _ ≤ 162; omega, by show _ ≤ 936; omega⟩) hS (fun q h1 h2 => sp_Alt h1 h2) (sp_Ale hS.1) (fun vr H locs hBv hle hfr hS => ?_)
          obtain ⟨w5, pm, rj, σ, rfl, hG, hP⟩ := hBv
          refine W.eq (g2 := F0 m 129 ls [.int (w5)]) rfl ?_
          refine lv_istore_n (lv' := [(2, .int (w5)), (4, .int (nI i)), (3, .int (nI n)), (0, .ref (ad (429))), (1, .ref b)]) hx hb dL_build_129 rfl hl (by decide) rfl (fun ls hl => ?_)
          refine lv_iinc (v := nI (i + 1)) (lv' := [(4, .int (nI (i + 1))), (2, .int (w5)), (3, .int (nI n)), (0, .ref (ad (429))), (1, .ref b)]) hx hb dL_build_130 hl (k := 1) rfl (nI_1 _) (by decide) rfl (fun ls hl => ?_)
          refine lv_goto (tgt := 44) hx hb dL_build_133 (by decide) ?_
          refine W.widen (k := 9 + 5 * (i + 1)) (n := 45 + 27 * (i + 1)) (by omega) (by omega) ?_
          exact ih (i + 1) (by omega) (by omega) H locs ls pm rj σ (by rw [show B + (3 + (i + 1)) = B + (3 + i) + 1 by omega]; exact hG) hP hS (lv_sub hl [0, 2, 3, 4] rfl)
  have loop1 : ∀ (fu i : Nat), i ≤ n → n - i < fu → ∀ (H : Heap) (locs : List Loc) (ls : Array Slot) (pm : Nat → Nat) (rj : Option Nat) (σ : Nat → Nat → Int32), GS (B + (0 + i)) σ pm → va_P D vwCl (cW ad cy pm rj σ) H → va_S (sp_A ad 459 s.heap.size) s.heap H locs → lv_has ls 5 [(4, .int (nI i)), (3, .int (nI n)), (0, .ref (ad (429))), (1, .ref b)] → W p l e (headSpec wsL_build ({ frames := 10, cells := 162, slots := 936, locals := 192 } : Room)).room s m ([.ref (ad (429)), .ref b] : List Value).toArray below meth c H locs (0 + 3 * i) (0 + 15 * i) (MQ below (lV D ad cy (B + 21) (sp_A ad 459 s.heap.size)) ([.ref (ad (429)), .ref b] : List Value).toArray s 162 936 (sp_A ad 459 s.heap.size)) (F0 m 12 ls []) := by
    intro fu
    induction fu with
    | zero => intro i _ h; exact absurd h (Nat.not_lt_zero _)
    | succ fu ih =>
      intro i hi9 hfu H locs ls pm rj σ hG hP hS hl
      refine lv_iload hx hb dL_build_12 (lv_at hl 0 rfl) ?_
      refine lv_iload_n hx hb dL_build_14 rfl (lv_at hl 1 rfl) ?_
      refine lv_icmp_ge (tgt := 41) hx hb dL_build_15 (by decide) (fun c_6 => ?_) (fun c_6 => ?_)
      · skip
        refine lv_iconst (v := 0) hx hb dL_build_41 (by decide) ?_
        refine lv_istore (lv' := [(4, .int (0)), (3, .int (nI n)), (0, .ref (ad (429))), (1, .ref b)]) hx hb dL_build_42 hl (by decide) rfl (fun ls hl => ?_)
        refine W.widen (k := 9 + 5 * 0) (n := 45 + 27 * 0) (by omega) (by omega) ?_
        exact loop2 10 0 (by omega) (by omega) H locs ls pm rj σ (hG.mono (by omega) (by omega)) hP hS (lv_sub hl [0, 1, 2, 3] rfl)
      · skip
        have hi8 : i < n := Nat.lt_of_not_le (fun z => c_6 (nI_le z (by omega)))
        refine lv_aload_n hx hb dL_build_18 rfl (lv_at hl 2 rfl) ?_
        refine lv_iconst (v := 1) hx hb dL_build_19 (by decide) ?_
        refine lv_aload_n hx hb dL_build_20 rfl (lv_at hl 3 rfl) ?_
        refine lv_iconst (v := 1) hx hb dL_build_21 (by decide) ?_
        refine lv_iload hx hb dL_build_22 (lv_at hl 0 rfl) ?_
        refine lv_iadd hx hb dL_build_24 ?_
        refine W.eq (g2 := F0 m 25 ls [.int (nI (1 + i)), .ref b, .int (1), .ref (ad (429))]) (by rw [show (1 : Int32) + nI i = nI (1 + i) from nI_addE (a := 1) rfl rfl]) ?_
        refine lv_bipush (v := 9) hx hb dL_build_25 (by decide) ?_
        refine W.eq (g2 := F0 m 27 ls [.int (nI 9), .int (nI (1 + i)), .ref b, .int (1), .ref (ad (429))]) rfl ?_
        refine sp_call (W.runS (As := [.ref b, .int (nI (1 + i)), .int (nI 9)]) (rest := [.int (1), .ref (ad (429))]) ⟨hx, hb, hml, hown, hts⟩ (c_L_some l b L xs (1 + i) 9 (by omega) hL (by omega) (by omega)) (va_cwS 3 hts gL_build_L_some rfl rfl rfl (by decide +kernel) ⟨Nat.le_of_ble_eq_true rfl, Nat.le_of_ble_eq_true rfl⟩) (cPre hX hbl hbA hS) rfl rfl hl.1 rfl (lv_room (Nat.le_of_ble_eq_true rfl)) dL_build_27 ⟨by show _ ≤ 162; omega, by show _ ≤ 936; omega⟩) ?_
        refine W.eq (g2 := F0 m 30 ls [.int (nI (sv9 L xs (1 + i) 9)), .int (1), .ref (ad (429))]) rfl ?_
        obtain ⟨y1, ey1, hy1⟩ : ∃ y1, sv9 L xs (1 + i) 9 = y1 ∧ y1 < 9 := ⟨_, rfl, sv_lt (by omega)⟩
        refine W.eq (g2 := F0 m 30 ls [.int (nI y1), .int (1), .ref (ad (429))]) (by rw [ey1]) ?_
        refine lv_iadd hx hb dL_build_30 ?_
        refine t_call (vx_runSW (As := [.ref (ad (429)), .int (1 + (nI y1))]) (rest := []) ⟨hx, hb, hml, hown, hts⟩ (k_L_addTrack l D ad cy pm rj σ xq hst _ hi hG (by omega) (1 + (nI y1))) (vx_cwSW 2 hts gL_build_L_addTrack rfl rfl rfl (by decide +kernel) ⟨Nat.le_of_ble_eq_true rfl, Nat.le_of_ble_eq_true rfl⟩) (sp_preSmx hK hP (hE.go hS)) rfl rfl hl.1 rfl (lv_room (Nat.le_of_ble_eq_true rfl)) dL_build_31 ⟨by show _ ≤ 162; omega, by show _ ≤ 936; omega⟩) hS (fun q h1 h2 => sp_Alt h1 h2) (sp_Ale hS.1) (fun vr H locs hBv hle hfr hS => ?_)
        obtain ⟨w7, pm, rj, σ, rfl, hG, hP⟩ := hBv
        refine W.eq (g2 := F0 m 34 ls [.int (w7)]) rfl ?_
        refine lv_istore_n (lv' := [(2, .int (w7)), (4, .int (nI i)), (3, .int (nI n)), (0, .ref (ad (429))), (1, .ref b)]) hx hb dL_build_34 rfl hl (by decide) rfl (fun ls hl => ?_)
        refine lv_iinc (v := nI (i + 1)) (lv' := [(4, .int (nI (i + 1))), (2, .int (w7)), (3, .int (nI n)), (0, .ref (ad (429))), (1, .ref b)]) hx hb dL_build_35 hl (k := 1) rfl (nI_1 _) (by decide) rfl (fun ls hl => ?_)
        refine lv_goto (tgt := 12) hx hb dL_build_38 (by decide) ?_
        refine W.widen (k := 0 + 3 * (i + 1)) (n := 0 + 15 * (i + 1)) (by omega) (by omega) ?_
        exact ih (i + 1) (by omega) (by omega) H locs ls pm rj σ (by rw [show B + (0 + (i + 1)) = B + (0 + i) + 1 by omega]; exact hG) hP hS (lv_sub hl [0, 2, 3, 4] rfl)
  refine W.widen (k := 0 + 3 * 0) (n := 0 + 15 * 0) (by omega) (by omega) ?_
  exact loop1 4 0 (by omega) (by omega) s.heap [] ls pm rj σ hG hP hS (lv_sub hl [0, 1, 2, 3] rfl)
