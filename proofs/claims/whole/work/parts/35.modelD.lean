
/-! the model's orders, suggestions, input -/
def mF_pd (μ : Nat → Int32) (k j : Nat) : Int32 := b2i (decide (0 < gP μ j 7 - gP μ k 7) || (gP μ j 7 - gP μ k 7 == 0 && (decide (0 < gP μ k 2 - gP μ j 2) || (gP μ k 2 - gP μ j 2 == 0 && decide (nI j < nI k)))))
def mP_pd (μ : Nat → Int32) (n : Nat) (q : Int32) (k : Nat) : Bool := sumI (mF_pd μ k) n == q
def mF_te (μ : Nat → Int32) (n t k j : Nat) : Int32 := b2i (decide (0 < m_errs μ n t (gT μ j) - m_errs μ n t (gT μ k)) || (m_errs μ n t (gT μ j) - m_errs μ n t (gT μ k) == 0 && (decide (0 < m_count μ n (gT μ j) - m_count μ n (gT μ k)) || (m_count μ n (gT μ j) - m_count μ n (gT μ k) == 0 && decide (nI j < nI k)))))
def mP_te (μ : Nat → Int32) (n t : Nat) (q : Int32) (k : Nat) : Bool := sumI (mF_te μ n t k) t == q
def S_sug (μ : Nat → Int32) (n t k : Nat) (x : Int32 × Int32) (i : Nat) : Int32 × Int32 :=
  if m_may μ n k (nI i / 20) (nI i - nI i / 20 * 20) = true then
    (if 1000 * m_there μ n t k (nI i / 20) (nI i - nI i / 20 * 20) + m_dist μ k (nI i / 20) (nI i - nI i / 20 * 20) < x.2 then (nI i, 1000 * m_there μ n t k (nI i / 20) (nI i - nI i / 20 * 20) + m_dist μ k (nI i / 20) (nI i - nI i / 20 * 20)) else x)
  else x
def m_sug (μ : Nat → Int32) (n t k : Nat) : Int32 := (foldI (S_sug μ n t k) (20 * gP μ k 3 + gP μ k 4, 1000 * m_errs μ n t (gP μ k 1)) 200).1
/-- the input's numbers: at most 60 typed, here not below 0 -/
def MI (μ : Nat → Nat → Int32) : Prop := 0 ≤ μ 0 13 ∧ μ 0 12 ≤ 60
theorem MI.st {μ : Nat → Nat → Int32} {k j : Nat} {v : Int32} (h : MI μ) (hj : ¬ (k = 0 ∧ (j = 12 ∨ j = 13))) : MI (sp_st μ k j v) := by
  unfold MI; rw [sp_st_at, sp_st_at, if_neg (by omega), if_neg (by omega)]; exact h
theorem m_here_lt {μ : Nat → Nat → Int32} (h : MI μ) (hc : μ 0 13 < μ 0 12) : tn (μ 0 13) < 60 := tn_lt (b := 60) h.1 (by decide) (Int32.lt_of_lt_of_le hc h.2)
def m_sign (μ : Nat → Nat → Int32) : Int32 := if μ 0 13 < μ 0 12 then cz (μ 3 (tn (μ 0 13))) else -1
theorem wi_X10_printByDoubts_X10 : ∀ w ∈ wsX100, w ∈ wsX10_printByDoubts := by decide +kernel
set_option maxHeartbeats 4000000 in
set_option maxRecDepth 100000 in
theorem c_X10_printByDoubts (l : Launch) (D : va_G) (am : Nat → Nat) (cy : Nat → ClassId) (μ : Nat → Nat → Int32) (sz : Nat) (hi : sp_inj am 5) (n : Nat) (t : Nat) (hM : MS (μ 1) n t) (q : Int32) : Met l yX10_printByDoubts wsX10_printByDoubts ({ frames := 1, cells := 0, slots := 0, locals := 22 } : Room) (sp_Pm D (tyG cy) sz [.ref (am (0)), .int (q)] (mW am cy μ)) (sp_Q D (some (.int (atO (fstI (mP_pd (μ 1) n q) n) 0 (fun k => gP (μ 1) k 0)))) (mW am cy (sp_st μ 0 0 (atO (fstI (mP_pd (μ 1) n q) n) 1 (fun _ => 0)))) (sp_A am 5 sz)) 0 0 (sp_A am 5 sz) := by
  refine Met.ofW (cc := cX10_printByDoubts) (maxL := 7) (ret := (some .int)) (by decide) rfl ?_
  intro p e s m args below meth c s₁ B hml hv
  obtain ⟨rfl, hsz, hP, hK⟩ := hv
  have hx := B.exec
  have hb := B.bytes
  have hr := B.returns
  have hts := atoms_spec (ws := wsX10_printByDoubts) B.pre
  have hown : s.vm.findClass RX10 = some m.cls := findClass_of_methodNamed B.named
  have hlocks := B.notSynchronized
  subst hsz
  have hS : va_S (sp_A am 5 s.heap.size) s.heap s.heap [] := va_S.rf
  have hAk : ∀ k, k < 5 → (sp_A am 5 s.heap.size) (am k) := fun k hk => Or.inl ⟨k, hk, rfl⟩
  skip
  have hn30 := hM.2.1
  have ht6 := hM.2.2.2
  have hl := lv_entry ([.ref (am (0)), .int (q)]) (n := 7) (Nat.le_of_ble_eq_true rfl)
  refine W.eq (lg_entry_eq _ ([.ref (am (0)), .int (q)]) _) ?_
  generalize (lg_sl ([.ref (am (0)), .int (q)]) ++ List.replicate (7 - (lg_sl ([.ref (am (0)), .int (q)])).length) Slot.unset).toArray = ls at hl ⊢
  have hl : lv_has ls 7 [(0, .ref (am (0))), (1, .int (q))] := hl
  refine lv_iconst (v := 0) hx hb dX10_printByDoubts_0 (by decide) ?_
  refine lv_istore_n (lv' := [(2, .int (0)), (0, .ref (am (0))), (1, .int (q))]) hx hb dX10_printByDoubts_1 rfl hl (by decide) rfl (fun ls hl => ?_)
  have loop_2 : ∀ (fu i : Nat) (v : Int32) (H : Heap) (locs : List Loc), (i ≤ n) → (n - i < fu) → (fstI (mP_pd (μ 1) n q) i = none) → (va_P D vwCl (mW am cy (sp_st μ 0 0 v)) H) → (va_S (sp_A am 5 s.heap.size) s.heap H locs) → ∀ ls : Array Slot, lv_has ls 7 [(2, .int (nI i)), (0, .ref (am (0))), (1, .int (q))] → W p l e (headSpec wsX10_printByDoubts ({ frames := 1, cells := 0, slots := 0, locals := 22 } : Room)).room s m ([.ref (am (0)), .int (q)] : List Value).toArray below meth c H locs 0 0 (MQ below (sp_Q D (some (.int (atO (fstI (mP_pd (μ 1) n q) n) 0 (fun k => gP (μ 1) k 0)))) (mW am cy (sp_st μ 0 0 (atO (fstI (mP_pd (μ 1) n q) n) 1 (fun _ => 0)))) (sp_A am 5 s.heap.size)) ([.ref (am (0)), .int (q)] : List Value).toArray s 0 0 (sp_A am 5 s.heap.size)) (F0 m 2 ls []) := by
    intro fu
    induction fu with
    | zero => intro i v H locs hle hlt hi_0 hP hS ls hl; exact absurd hlt (Nat.not_lt_zero _)
    | succ fu ih =>
      intro i v H locs hle hlt hi_0 hP hS ls hl
      refine lv_iload_n hx hb dX10_printByDoubts_2 rfl (lv_at hl 0 rfl) ?_
      refine lv_aload_n hx hb dX10_printByDoubts_3 rfl (lv_at hl 1 rfl) ?_
      refine sp_get hx hb hts wi_X10_printByDoubts_X10 hown hK hP (κ := 0) (by decide) mE_0 rfl 1 (by decide) (hts _ (List.mem_of_getElem? (i := 1) rfl)) (fun _ h => h) rfl dX10_printByDoubts_4 ?_
      refine lv_iconst (v := 1) hx hb dX10_printByDoubts_7 (by decide) ?_
      refine sp_iald hx hb hK hP (κ := 1) (by decide) 1 mE_1 rfl 1 rfl (by omega) (by decide) dX10_printByDoubts_8 ?_
      refine W.eq (g2 := F0 m 9 ls [.int (μ 1 1), .int (nI i)]) (by rw [sp_st_k _ _ _ _ _ _ (by decide)]) ?_
      refine W.eq (g2 := F0 m 9 ls [.int (nI n), .int (nI i)]) (by rw [hM.1]) ?_
      refine lv_icmp_ge (tgt := 132) hx hb dX10_printByDoubts_9 (by decide) (fun c_1 => ?_) (fun c_1 => ?_)
      · skip
        have c_1d := Int32.not_lt.mpr c_1
        have hx_i : i = n := by have := (nI_leI (a := n) (b := i) (by omega) (by omega)).mp c_1; omega
        try rw [hx_i] at hi_0
        have hf : fstI (mP_pd (μ 1) n q) n = none := hi_0
        refine lv_aload_n hx hb dX10_printByDoubts_132 rfl (lv_at hl 1 rfl) ?_
        refine lv_iconst (v := 1) hx hb dX10_printByDoubts_133 (by decide) ?_
        refine sp_put hx hb hts wi_X10_printByDoubts_X10 tyX10 tyX10_ok nmX10 hown hK hP hi hAk hS (κ := 0) (by decide) mE_0 rfl 0 (by decide) (hts _ (List.mem_of_getElem? (i := 2) rfl)) (fun _ h => h) rfl (ty := tyX10 0) (by decide +kernel) ⟨rfl, rfl⟩ (Nat.le_of_ble_eq_true rfl) (r1 := upd ((sp_st μ 0 0 v) 0) 0 1) (cE_of mE_0 (by simp [upd])) dX10_printByDoubts_134 (fun H locs hP hS => ?_)
        have hP : va_P D vwCl (mW am cy (sp_st (sp_st μ 0 0 v) 0 0 1)) H := hP
        refine lv_iconst (v := 0) hx hb dX10_printByDoubts_137 (by decide) ?_
        have hE9 : mW am cy (sp_st (sp_st μ 0 0 v) 0 0 1) = mW am cy (sp_st μ 0 0 (atO (fstI (mP_pd (μ 1) n q) n) 1 (fun _ => 0))) := by exact mW_eq (by rw [hf]; exact sp_st_st _ _ _ _ _)
        have hP : va_P D vwCl (mW am cy (sp_st μ 0 0 (atO (fstI (mP_pd (μ 1) n q) n) 1 (fun _ => 0)))) H := by rw [← hE9]; exact hP
        exact W.iret (v := 0) hx hb hr (fun T9 hT9 _ => ⟨congrArg (fun z9 => Outcome.returned (some (Value.int z9))) (show (0 : Int32) = atO (fstI (mP_pd (μ 1) n q) n) 0 (fun k => gP (μ 1) k 0) from (by simp [atO, hf, gP, gT, st0_1])), by rw [hT9]; exact hP, hS.F hT9⟩) hS.2.2 dX10_printByDoubts_138
      · skip
        have c_1d := Int32.not_le.mp c_1
        have hb_i : i < n := Nat.lt_of_not_le (fun z => c_1 (nI_le z (by omega)))
        refine lv_iconst (v := 0) hx hb dX10_printByDoubts_12 (by decide) ?_
        refine lv_istore_n (lv' := [(3, .int (0)), (2, .int (nI i)), (0, .ref (am (0))), (1, .int (q))]) hx hb dX10_printByDoubts_13 rfl hl (by decide) rfl (fun ls hl => ?_)
        refine lv_iconst (v := 0) hx hb dX10_printByDoubts_14 (by decide) ?_
        refine lv_istore (lv' := [(4, .int (0)), (3, .int (0)), (2, .int (nI i)), (0, .ref (am (0))), (1, .int (q))]) hx hb dX10_printByDoubts_15 hl (by decide) rfl (fun ls hl => ?_)
        have loop_17 : ∀ (fu j : Nat) (y : Int32) (H : Heap) (locs : List Loc), (j ≤ n) → (n - j < fu) → (y = sumI (mF_pd (μ 1) i) j) → (va_P D vwCl (mW am cy (sp_st μ 0 0 v)) H) → (va_S (sp_A am 5 s.heap.size) s.heap H locs) → ∀ ls : Array Slot, lv_has ls 7 [(4, .int (nI j)), (3, .int (y)), (2, .int (nI i)), (0, .ref (am (0))), (1, .int (q))] → W p l e (headSpec wsX10_printByDoubts ({ frames := 1, cells := 0, slots := 0, locals := 22 } : Room)).room s m ([.ref (am (0)), .int (q)] : List Value).toArray below meth c H locs 0 0 (MQ below (sp_Q D (some (.int (atO (fstI (mP_pd (μ 1) n q) n) 0 (fun k => gP (μ 1) k 0)))) (mW am cy (sp_st μ 0 0 (atO (fstI (mP_pd (μ 1) n q) n) 1 (fun _ => 0)))) (sp_A am 5 s.heap.size)) ([.ref (am (0)), .int (q)] : List Value).toArray s 0 0 (sp_A am 5 s.heap.size)) (F0 m 17 ls []) := by
          intro fu
          induction fu with
          | zero => intro j y H locs hle hlt hj_0 hP hS ls hl; exact absurd hlt (Nat.not_lt_zero _)
          | succ fu ih2 =>
            intro j y H locs hle hlt hj_0 hP hS ls hl
            refine lv_iload hx hb dX10_printByDoubts_17 (lv_at hl 0 rfl) ?_
            refine lv_aload_n hx hb dX10_printByDoubts_19 rfl (lv_at hl 3 rfl) ?_
            refine sp_get hx hb hts wi_X10_printByDoubts_X10 hown hK hP (κ := 0) (by decide) mE_0 rfl 1 (by decide) (hts _ (List.mem_of_getElem? (i := 1) rfl)) (fun _ h => h) rfl dX10_printByDoubts_20 ?_
            refine lv_iconst (v := 1) hx hb dX10_printByDoubts_23 (by decide) ?_
            refine sp_iald hx hb hK hP (κ := 1) (by decide) 1 mE_1 rfl 1 rfl (by omega) (by decide) dX10_printByDoubts_24 ?_
            refine W.eq (g2 := F0 m 25 ls [.int (μ 1 1), .int (nI j)]) (by rw [sp_st_k _ _ _ _ _ _ (by decide)]) ?_
            refine W.eq (g2 := F0 m 25 ls [.int (nI n), .int (nI j)]) (by rw [hM.1]) ?_
            refine lv_icmp_ge (tgt := 102) hx hb dX10_printByDoubts_25 (by decide) (fun c_2 => ?_) (fun c_2 => ?_)
            · skip
              have c_2d := Int32.not_lt.mpr c_2
              have hx_j : j = n := by have := (nI_leI (a := n) (b := j) (by omega) (by omega)).mp c_2; omega
              try rw [hx_j] at hj_0
              refine lv_aload_n hx hb dX10_printByDoubts_102 rfl (lv_at hl 3 rfl) ?_
              refine lv_iload_n hx hb dX10_printByDoubts_103 rfl (lv_at hl 1 rfl) ?_
              refine lv_iload_n hx hb dX10_printByDoubts_104 rfl (lv_at hl 4 rfl) ?_
              refine lv_icmp_ne (tgt := 112) hx hb dX10_printByDoubts_105 (by decide) (fun c_3 => ?_) (fun c_3 => ?_)
              · skip
                refine lv_iconst (v := 0) hx hb dX10_printByDoubts_112 (by decide) ?_
                refine sp_callm (va_runV (As := [.int (0)]) (rest := []) ⟨hx, hb, hml, hown, hts⟩ (c_X10_isFine_0 l D am cy (sp_st μ 0 0 v) _ hi ) (cwV 1 hts gX10_printByDoubts_X10_isFine rfl rfl rfl (by decide +kernel) ⟨Nat.le_of_ble_eq_true rfl, Nat.le_of_ble_eq_true rfl⟩) (sp_preVm hK hP (κ := 0) (by decide) mE_0 rfl) rfl rfl hl.1 rfl (lv_room (Nat.le_of_ble_eq_true rfl)) dX10_printByDoubts_113 ⟨Nat.le_of_ble_eq_true rfl, Nat.le_of_ble_eq_true rfl⟩) hS (fun q h1 h2 => sp_Alt h1 h2) (sp_Ale hS.1) (fun H locs hP hle hfr hS => ?_)
                refine W.eq (g2 := F0 m 116 ls [.int (0)]) rfl ?_
                refine lv_if_eq (tgt := 126) hx hb dX10_printByDoubts_116 (by decide) (fun c_4 => ?_) (fun c_4 => ?_)
                · skip
                  refine lv_iinc (v := nI (i + 1)) (lv' := [(2, .int (nI (i + 1))), (4, .int (nI j)), (3, .int (y)), (0, .ref (am (0))), (1, .int (q))]) hx hb dX10_printByDoubts_126 hl (k := 2) rfl (nI_1 _) (by decide) rfl (fun ls hl => ?_)
                  refine lv_goto (tgt := 2) hx hb dX10_printByDoubts_129 (by decide) ?_
                  exact ih (i + 1) 1  _ _ (by omega) (by omega) (fstI_succ_no hi_0 (by simp [mP_pd, ← hj_0, b2i, c_3])) ((show mW am cy (sp_st (sp_st μ 0 0 v) 0 0 1) = mW am cy (sp_st μ 0 0 1) from (by exact mW_eq (sp_st_st _ _ _ _ _))) ▸ hP) hS ls (lv_sub hl [0, 3, 4] rfl)
                · exact absurd c_4 (by decide)
              · skip
                have hf : fstI (mP_pd (μ 1) n q) n = some i := fstI_hit hi_0 (by simp [mP_pd, ← hj_0, c_3]) hb_i
                refine lv_iconst (v := 1) hx hb dX10_printByDoubts_108 (by decide) ?_
                refine lv_goto (tgt := 113) hx hb dX10_printByDoubts_109 (by decide) ?_
                refine sp_callm (va_runV (As := [.int (1)]) (rest := []) ⟨hx, hb, hml, hown, hts⟩ (c_X10_isFine_1 l D am cy (sp_st μ 0 0 v) _ hi ) (cwV 1 hts gX10_printByDoubts_X10_isFine rfl rfl rfl (by decide +kernel) ⟨Nat.le_of_ble_eq_true rfl, Nat.le_of_ble_eq_true rfl⟩) (sp_preVm hK hP (κ := 0) (by decide) mE_0 rfl) rfl rfl hl.1 rfl (lv_room (Nat.le_of_ble_eq_true rfl)) dX10_printByDoubts_113 ⟨Nat.le_of_ble_eq_true rfl, Nat.le_of_ble_eq_true rfl⟩) hS (fun q h1 h2 => sp_Alt h1 h2) (sp_Ale hS.1) (fun H locs hP hle hfr hS => ?_)
                refine W.eq (g2 := F0 m 116 ls [.int (1)]) rfl ?_
                refine lv_if_eq (tgt := 126) hx hb dX10_printByDoubts_116 (by decide) (fun c_5 => ?_) (fun c_5 => ?_)
                · exact absurd c_5 (by decide)
                · skip
                  refine lv_aload_n hx hb dX10_printByDoubts_119 rfl (lv_at hl 3 rfl) ?_
                  refine lv_iload_n hx hb dX10_printByDoubts_120 rfl (lv_at hl 2 rfl) ?_
                  refine lv_iconst (v := 0) hx hb dX10_printByDoubts_121 (by decide) ?_
                  refine sp_call (W.runV (As := [.int (nI i), .int (0)]) (rest := []) ⟨hx, hb, hml, hown, hts⟩ (c_X10_p l D am cy (sp_st (sp_st μ 0 0 v) 0 0 0) i (by omega) 0 (by omega)) (cwV 2 hts gX10_printByDoubts_X10_p rfl rfl rfl (by decide +kernel) ⟨Nat.le_of_ble_eq_true rfl, Nat.le_of_ble_eq_true rfl⟩) (sp_preV hK hP (κ := 0) (by decide) mE_0 rfl) rfl rfl hl.1 rfl (lv_room (Nat.le_of_ble_eq_true rfl)) dX10_printByDoubts_122 ⟨Nat.le_of_ble_eq_true rfl, Nat.le_of_ble_eq_true rfl⟩) ?_
                  refine W.eq (g2 := F0 m 125 ls [.int (gP ((sp_st (sp_st μ 0 0 v) 0 0 0) 1) i 0)]) rfl ?_
                  have hE9 : mW am cy (sp_st (sp_st μ 0 0 v) 0 0 0) = mW am cy (sp_st μ 0 0 (atO (fstI (mP_pd (μ 1) n q) n) 1 (fun _ => 0))) := by exact mW_eq (by rw [hf]; exact sp_st_st _ _ _ _ _)
                  have hP : va_P D vwCl (mW am cy (sp_st μ 0 0 (atO (fstI (mP_pd (μ 1) n q) n) 1 (fun _ => 0)))) H := by rw [← hE9]; exact hP
                  exact W.iret (v := gP ((sp_st (sp_st μ 0 0 v) 0 0 0) 1) i 0) hx hb hr (fun T9 hT9 _ => ⟨congrArg (fun z9 => Outcome.returned (some (Value.int z9))) (show (gP ((sp_st (sp_st μ 0 0 v) 0 0 0) 1) i 0 : Int32) = atO (fstI (mP_pd (μ 1) n q) n) 0 (fun k => gP (μ 1) k 0) from (by simp [atO, hf, gP, gT, st0_1])), by rw [hT9]; exact hP, hS.F hT9⟩) hS.2.2 dX10_printByDoubts_125
            · skip
              have c_2d := Int32.not_le.mp c_2
              have hb_j : j < n := Nat.lt_of_not_le (fun z => c_2 (nI_le z (by omega)))
              refine lv_aload_n hx hb dX10_printByDoubts_28 rfl (lv_at hl 3 rfl) ?_
              refine lv_iload hx hb dX10_printByDoubts_29 (lv_at hl 0 rfl) ?_
              refine lv_bipush (v := 7) hx hb dX10_printByDoubts_31 (by decide) ?_
              refine sp_call (W.runV (As := [.int (nI j), .int (7)]) (rest := []) ⟨hx, hb, hml, hown, hts⟩ (c_X10_p l D am cy (sp_st μ 0 0 v) j (by omega) 7 (by omega)) (cwV 2 hts gX10_printByDoubts_X10_p rfl rfl rfl (by decide +kernel) ⟨Nat.le_of_ble_eq_true rfl, Nat.le_of_ble_eq_true rfl⟩) (sp_preV hK hP (κ := 0) (by decide) mE_0 rfl) rfl rfl hl.1 rfl (lv_room (Nat.le_of_ble_eq_true rfl)) dX10_printByDoubts_33 ⟨Nat.le_of_ble_eq_true rfl, Nat.le_of_ble_eq_true rfl⟩) ?_
              refine W.eq (g2 := F0 m 36 ls [.int (gP ((sp_st μ 0 0 v) 1) j 7)]) rfl ?_
              refine W.eq (g2 := F0 m 36 ls [.int (gP (μ 1) j 7)]) (by rw [st0_1 μ 0 v]) ?_
              refine lv_aload_n hx hb dX10_printByDoubts_36 rfl (lv_at hl 3 rfl) ?_
              refine lv_iload_n hx hb dX10_printByDoubts_37 rfl (lv_at hl 2 rfl) ?_
              refine lv_bipush (v := 7) hx hb dX10_printByDoubts_38 (by decide) ?_
              refine sp_call (W.runV (As := [.int (nI i), .int (7)]) (rest := [.int (gP (μ 1) j 7)]) ⟨hx, hb, hml, hown, hts⟩ (c_X10_p l D am cy (sp_st μ 0 0 v) i (by omega) 7 (by omega)) (cwV 2 hts gX10_printByDoubts_X10_p rfl rfl rfl (by decide +kernel) ⟨Nat.le_of_ble_eq_true rfl, Nat.le_of_ble_eq_true rfl⟩) (sp_preV hK hP (κ := 0) (by decide) mE_0 rfl) rfl rfl hl.1 rfl (lv_room (Nat.le_of_ble_eq_true rfl)) dX10_printByDoubts_40 ⟨Nat.le_of_ble_eq_true rfl, Nat.le_of_ble_eq_true rfl⟩) ?_
              refine W.eq (g2 := F0 m 43 ls [.int (gP ((sp_st μ 0 0 v) 1) i 7), .int (gP (μ 1) j 7)]) rfl ?_
              refine W.eq (g2 := F0 m 43 ls [.int (gP (μ 1) i 7), .int (gP (μ 1) j 7)]) (by rw [st0_1 μ 0 v]) ?_
              refine lv_isub hx hb dX10_printByDoubts_43 ?_
              refine lv_istore (lv' := [(5, .int ((gP (μ 1) j 7) - (gP (μ 1) i 7))), (4, .int (nI j)), (3, .int (y)), (2, .int (nI i)), (0, .ref (am (0))), (1, .int (q))]) hx hb dX10_printByDoubts_44 hl (by decide) rfl (fun ls hl => ?_)
              refine lv_aload_n hx hb dX10_printByDoubts_46 rfl (lv_at hl 4 rfl) ?_
              refine lv_iload_n hx hb dX10_printByDoubts_47 rfl (lv_at hl 3 rfl) ?_
              refine lv_iconst (v := 2) hx hb dX10_printByDoubts_48 (by decide) ?_
              refine sp_call (W.runV (As := [.int (nI i), .int (2)]) (rest := []) ⟨hx, hb, hml, hown, hts⟩ (c_X10_p l D am cy (sp_st μ 0 0 v) i (by omega) 2 (by omega)) (cwV 2 hts gX10_printByDoubts_X10_p rfl rfl rfl (by decide +kernel) ⟨Nat.le_of_ble_eq_true rfl, Nat.le_of_ble_eq_true rfl⟩) (sp_preV hK hP (κ := 0) (by decide) mE_0 rfl) rfl rfl hl.1 rfl (lv_room (Nat.le_of_ble_eq_true rfl)) dX10_printByDoubts_49 ⟨Nat.le_of_ble_eq_true rfl, Nat.le_of_ble_eq_true rfl⟩) ?_
              refine W.eq (g2 := F0 m 52 ls [.int (gP ((sp_st μ 0 0 v) 1) i 2)]) rfl ?_
              refine W.eq (g2 := F0 m 52 ls [.int (gP (μ 1) i 2)]) (by rw [st0_1 μ 0 v]) ?_
              refine lv_aload_n hx hb dX10_printByDoubts_52 rfl (lv_at hl 4 rfl) ?_
              refine lv_iload hx hb dX10_printByDoubts_53 (lv_at hl 1 rfl) ?_
              refine lv_iconst (v := 2) hx hb dX10_printByDoubts_55 (by decide) ?_
              refine sp_call (W.runV (As := [.int (nI j), .int (2)]) (rest := [.int (gP (μ 1) i 2)]) ⟨hx, hb, hml, hown, hts⟩ (c_X10_p l D am cy (sp_st μ 0 0 v) j (by omega) 2 (by omega)) (cwV 2 hts gX10_printByDoubts_X10_p rfl rfl rfl (by decide +kernel) ⟨Nat.le_of_ble_eq_true rfl, Nat.le_of_ble_eq_true rfl⟩) (sp_preV hK hP (κ := 0) (by decide) mE_0 rfl) rfl rfl hl.1 rfl (lv_room (Nat.le_of_ble_eq_true rfl)) dX10_printByDoubts_56 ⟨Nat.le_of_ble_eq_true rfl, Nat.le_of_ble_eq_true rfl⟩) ?_
              refine W.eq (g2 := F0 m 59 ls [.int (gP ((sp_st μ 0 0 v) 1) j 2), .int (gP (μ 1) i 2)]) rfl ?_
              refine W.eq (g2 := F0 m 59 ls [.int (gP (μ 1) j 2), .int (gP (μ 1) i 2)]) (by rw [st0_1 μ 0 v]) ?_
              refine lv_isub hx hb dX10_printByDoubts_59 ?_
              refine lv_istore (lv' := [(6, .int ((gP (μ 1) i 2) - (gP (μ 1) j 2))), (5, .int ((gP (μ 1) j 7) - (gP (μ 1) i 7))), (4, .int (nI j)), (3, .int (y)), (2, .int (nI i)), (0, .ref (am (0))), (1, .int (q))]) hx hb dX10_printByDoubts_60 hl (by decide) rfl (fun ls hl => ?_)
              refine lv_iload_n hx hb dX10_printByDoubts_62 rfl (lv_at hl 3 rfl) ?_
              refine lv_iload hx hb dX10_printByDoubts_63 (lv_at hl 1 rfl) ?_
              refine lv_if_gt (tgt := 89) hx hb dX10_printByDoubts_65 (by decide) (fun c_6 => ?_) (fun c_6 => ?_)
              · skip
                have c_6d := Int32.not_le.mpr c_6
                refine lv_iconst (v := 1) hx hb dX10_printByDoubts_89 (by decide) ?_
                refine lv_goto (tgt := 94) hx hb dX10_printByDoubts_90 (by decide) ?_
                refine lv_iadd hx hb dX10_printByDoubts_94 ?_
                refine lv_istore_n (lv' := [(3, .int (y + 1)), (6, .int ((gP (μ 1) i 2) - (gP (μ 1) j 2))), (5, .int ((gP (μ 1) j 7) - (gP (μ 1) i 7))), (4, .int (nI j)), (2, .int (nI i)), (0, .ref (am (0))), (1, .int (q))]) hx hb dX10_printByDoubts_95 rfl hl (by decide) rfl (fun ls hl => ?_)
                refine lv_iinc (v := nI (j + 1)) (lv' := [(4, .int (nI (j + 1))), (3, .int (y + 1)), (6, .int ((gP (μ 1) i 2) - (gP (μ 1) j 2))), (5, .int ((gP (μ 1) j 7) - (gP (μ 1) i 7))), (2, .int (nI i)), (0, .ref (am (0))), (1, .int (q))]) hx hb dX10_printByDoubts_96 hl (k := 3) rfl (nI_1 _) (by decide) rfl (fun ls hl => ?_)
                refine lv_goto (tgt := 17) hx hb dX10_printByDoubts_99 (by decide) ?_
                exact ih2 (j + 1) (y + 1)  _ _ (by omega) (by omega) (by rw [sumI_succ, ← hj_0]; simp [mF_pd, b2i, c_6, c_6d]) hP hS ls (lv_sub hl [0, 1, 4, 5, 6] rfl)
              · skip
                have c_6d := Int32.not_lt.mp c_6
                refine lv_iload hx hb dX10_printByDoubts_68 (lv_at hl 1 rfl) ?_
                refine lv_if_ne (tgt := 93) hx hb dX10_printByDoubts_70 (by decide) (fun c_7 => ?_) (fun c_7 => ?_)
                · skip
                  refine lv_iconst (v := 0) hx hb dX10_printByDoubts_93 (by decide) ?_
                  refine lv_iadd hx hb dX10_printByDoubts_94 ?_
                  refine lv_istore_n (lv' := [(3, .int (y + 0)), (6, .int ((gP (μ 1) i 2) - (gP (μ 1) j 2))), (5, .int ((gP (μ 1) j 7) - (gP (μ 1) i 7))), (4, .int (nI j)), (2, .int (nI i)), (0, .ref (am (0))), (1, .int (q))]) hx hb dX10_printByDoubts_95 rfl hl (by decide) rfl (fun ls hl => ?_)
                  refine lv_iinc (v := nI (j + 1)) (lv' := [(4, .int (nI (j + 1))), (3, .int (y + 0)), (6, .int ((gP (μ 1) i 2) - (gP (μ 1) j 2))), (5, .int ((gP (μ 1) j 7) - (gP (μ 1) i 7))), (2, .int (nI i)), (0, .ref (am (0))), (1, .int (q))]) hx hb dX10_printByDoubts_96 hl (k := 3) rfl (nI_1 _) (by decide) rfl (fun ls hl => ?_)
                  refine lv_goto (tgt := 17) hx hb dX10_printByDoubts_99 (by decide) ?_
                  exact ih2 (j + 1) (y + 0)  _ _ (by omega) (by omega) (by rw [sumI_succ, ← hj_0]; simp [mF_pd, b2i, c_6, c_6d, c_7]) hP hS ls (lv_sub hl [0, 1, 4, 5, 6] rfl)
                · skip
                  refine lv_iload hx hb dX10_printByDoubts_73 (lv_at hl 0 rfl) ?_
                  refine lv_if_gt (tgt := 89) hx hb dX10_printByDoubts_75 (by decide) (fun c_8 => ?_) (fun c_8 => ?_)
                  · skip
                    have c_8d := Int32.not_le.mpr c_8
                    refine lv_iconst (v := 1) hx hb dX10_printByDoubts_89 (by decide) ?_
                    refine lv_goto (tgt := 94) hx hb dX10_printByDoubts_90 (by decide) ?_
                    refine lv_iadd hx hb dX10_printByDoubts_94 ?_
                    refine lv_istore_n (lv' := [(3, .int (y + 1)), (6, .int ((gP (μ 1) i 2) - (gP (μ 1) j 2))), (5, .int ((gP (μ 1) j 7) - (gP (μ 1) i 7))), (4, .int (nI j)), (2, .int (nI i)), (0, .ref (am (0))), (1, .int (q))]) hx hb dX10_printByDoubts_95 rfl hl (by decide) rfl (fun ls hl => ?_)
                    refine lv_iinc (v := nI (j + 1)) (lv' := [(4, .int (nI (j + 1))), (3, .int (y + 1)), (6, .int ((gP (μ 1) i 2) - (gP (μ 1) j 2))), (5, .int ((gP (μ 1) j 7) - (gP (μ 1) i 7))), (2, .int (nI i)), (0, .ref (am (0))), (1, .int (q))]) hx hb dX10_printByDoubts_96 hl (k := 3) rfl (nI_1 _) (by decide) rfl (fun ls hl => ?_)
                    refine lv_goto (tgt := 17) hx hb dX10_printByDoubts_99 (by decide) ?_
                    exact ih2 (j + 1) (y + 1)  _ _ (by omega) (by omega) (by rw [sumI_succ, ← hj_0]; simp [mF_pd, b2i, c_6, c_6d, c_7, c_8, c_8d]) hP hS ls (lv_sub hl [0, 1, 4, 5, 6] rfl)
                  · skip
                    have c_8d := Int32.not_lt.mp c_8
                    refine lv_iload hx hb dX10_printByDoubts_78 (lv_at hl 0 rfl) ?_
                    refine lv_if_ne (tgt := 93) hx hb dX10_printByDoubts_80 (by decide) (fun c_9 => ?_) (fun c_9 => ?_)
                    · skip
                      refine lv_iconst (v := 0) hx hb dX10_printByDoubts_93 (by decide) ?_
                      refine lv_iadd hx hb dX10_printByDoubts_94 ?_
                      refine lv_istore_n (lv' := [(3, .int (y + 0)), (6, .int ((gP (μ 1) i 2) - (gP (μ 1) j 2))), (5, .int ((gP (μ 1) j 7) - (gP (μ 1) i 7))), (4, .int (nI j)), (2, .int (nI i)), (0, .ref (am (0))), (1, .int (q))]) hx hb dX10_printByDoubts_95 rfl hl (by decide) rfl (fun ls hl => ?_)
                      refine lv_iinc (v := nI (j + 1)) (lv' := [(4, .int (nI (j + 1))), (3, .int (y + 0)), (6, .int ((gP (μ 1) i 2) - (gP (μ 1) j 2))), (5, .int ((gP (μ 1) j 7) - (gP (μ 1) i 7))), (2, .int (nI i)), (0, .ref (am (0))), (1, .int (q))]) hx hb dX10_printByDoubts_96 hl (k := 3) rfl (nI_1 _) (by decide) rfl (fun ls hl => ?_)
                      refine lv_goto (tgt := 17) hx hb dX10_printByDoubts_99 (by decide) ?_
                      exact ih2 (j + 1) (y + 0)  _ _ (by omega) (by omega) (by rw [sumI_succ, ← hj_0]; simp [mF_pd, b2i, c_6, c_6d, c_7, c_8, c_8d, c_9]) hP hS ls (lv_sub hl [0, 1, 4, 5, 6] rfl)
                    · skip
                      refine lv_iload hx hb dX10_printByDoubts_83 (lv_at hl 2 rfl) ?_
                      refine lv_iload_n hx hb dX10_printByDoubts_85 rfl (lv_at hl 4 rfl) ?_
                      refine lv_icmp_ge (tgt := 93) hx hb dX10_printByDoubts_86 (by decide) (fun c_10 => ?_) (fun c_10 => ?_)
                      · skip
                        have c_10d := Int32.not_lt.mpr c_10
                        refine lv_iconst (v := 0) hx hb dX10_printByDoubts_93 (by decide) ?_
                        refine lv_iadd hx hb dX10_printByDoubts_94 ?_
                        refine lv_istore_n (lv' := [(3, .int (y + 0)), (6, .int ((gP (μ 1) i 2) - (gP (μ 1) j 2))), (5, .int ((gP (μ 1) j 7) - (gP (μ 1) i 7))), (4, .int (nI j)), (2, .int (nI i)), (0, .ref (am (0))), (1, .int (q))]) hx hb dX10_printByDoubts_95 rfl hl (by decide) rfl (fun ls hl => ?_)
                        refine lv_iinc (v := nI (j + 1)) (lv' := [(4, .int (nI (j + 1))), (3, .int (y + 0)), (6, .int ((gP (μ 1) i 2) - (gP (μ 1) j 2))), (5, .int ((gP (μ 1) j 7) - (gP (μ 1) i 7))), (2, .int (nI i)), (0, .ref (am (0))), (1, .int (q))]) hx hb dX10_printByDoubts_96 hl (k := 3) rfl (nI_1 _) (by decide) rfl (fun ls hl => ?_)
                        refine lv_goto (tgt := 17) hx hb dX10_printByDoubts_99 (by decide) ?_
                        exact ih2 (j + 1) (y + 0)  _ _ (by omega) (by omega) (by rw [sumI_succ, ← hj_0]; simp [mF_pd, b2i, c_6, c_6d, c_7, c_8, c_8d, c_9, c_10, c_10d]) hP hS ls (lv_sub hl [0, 1, 4, 5, 6] rfl)
                      · skip
                        have c_10d := Int32.not_le.mp c_10
                        refine lv_iconst (v := 1) hx hb dX10_printByDoubts_89 (by decide) ?_
                        refine lv_goto (tgt := 94) hx hb dX10_printByDoubts_90 (by decide) ?_
                        refine lv_iadd hx hb dX10_printByDoubts_94 ?_
                        refine lv_istore_n (lv' := [(3, .int (y + 1)), (6, .int ((gP (μ 1) i 2) - (gP (μ 1) j 2))), (5, .int ((gP (μ 1) j 7) - (gP (μ 1) i 7))), (4, .int (nI j)), (2, .int (nI i)), (0, .ref (am (0))), (1, .int (q))]) hx hb dX10_printByDoubts_95 rfl hl (by decide) rfl (fun ls hl => ?_)
                        refine lv_iinc (v := nI (j + 1)) (lv' := [(4, .int (nI (j + 1))), (3, .int (y + 1)), (6, .int ((gP (μ 1) i 2) - (gP (μ 1) j 2))), (5, .int ((gP (μ 1) j 7) - (gP (μ 1) i 7))), (2, .int (nI i)), (0, .ref (am (0))), (1, .int (q))]) hx hb dX10_printByDoubts_96 hl (k := 3) rfl (nI_1 _) (by decide) rfl (fun ls hl => ?_)
                        refine lv_goto (tgt := 17) hx hb dX10_printByDoubts_99 (by decide) ?_
                        exact ih2 (j + 1) (y + 1)  _ _ (by omega) (by omega) (by rw [sumI_succ, ← hj_0]; simp [mF_pd, b2i, c_6, c_6d, c_7, c_8, c_8d, c_9, c_10, c_10d]) hP hS ls (lv_sub hl [0, 1, 4, 5, 6] rfl)
        exact loop_17 (n + 1) (0) (0)  _ _ (by omega) (by omega) (rfl) hP hS ls (lv_sub hl [0, 1, 2, 3, 4] rfl)
  exact loop_2 (n + 1) (0) (μ 0 0)  _ _ (by omega) (by omega) (rfl) ((show mW am cy (μ) = mW am cy (sp_st μ 0 0 (μ 0 0)) from (by exact mW_eq (sp_st_self μ 0 0).symm)) ▸ hP) hS ls (lv_sub hl [0, 1, 2] rfl)

theorem wi_X10_trackByErrors_X10 : ∀ w ∈ wsX100, w ∈ wsX10_trackByErrors := by decide +kernel
set_option maxHeartbeats 4000000 in
set_option maxRecDepth 100000 in
theorem c_X10_trackByErrors (l : Launch) (D : va_G) (am : Nat → Nat) (cy : Nat → ClassId) (μ : Nat → Nat → Int32) (sz : Nat) (hi : sp_inj am 5) (n : Nat) (t : Nat) (hM : MS (μ 1) n t) (q : Int32) : Met l yX10_trackByErrors wsX10_trackByErrors ({ frames := 6, cells := 0, slots := 0, locals := 137 } : Room) (sp_Pm D (tyG cy) sz [.ref (am (0)), .int (q)] (mW am cy μ)) (sp_Q D (some (.int (atO (fstI (mP_te (μ 1) n t q) t) 0 (fun k => gT (μ 1) k)))) (mW am cy (sp_st μ 0 0 (atO (fstI (mP_te (μ 1) n t q) t) 1 (fun _ => 0)))) (sp_A am 5 sz)) 0 0 (sp_A am 5 sz) := by
  refine Met.ofW (cc := cX10_trackByErrors) (maxL := 9) (ret := (some .int)) (by decide) rfl ?_
  intro p e s m args below meth c s₁ B hml hv
  obtain ⟨rfl, hsz, hP, hK⟩ := hv
  have hx := B.exec
  have hb := B.bytes
  have hr := B.returns
  have hts := atoms_spec (ws := wsX10_trackByErrors) B.pre
  have hown : s.vm.findClass RX10 = some m.cls := findClass_of_methodNamed B.named
  have hlocks := B.notSynchronized
  subst hsz
  have hS : va_S (sp_A am 5 s.heap.size) s.heap s.heap [] := va_S.rf
  have hAk : ∀ k, k < 5 → (sp_A am 5 s.heap.size) (am k) := fun k hk => Or.inl ⟨k, hk, rfl⟩
  skip
  have hn30 := hM.2.1
  have ht6 := hM.2.2.2
  have hl := lv_entry ([.ref (am (0)), .int (q)]) (n := 9) (Nat.le_of_ble_eq_true rfl)
  refine W.eq (lg_entry_eq _ ([.ref (am (0)), .int (q)]) _) ?_
  generalize (lg_sl ([.ref (am (0)), .int (q)]) ++ List.replicate (9 - (lg_sl ([.ref (am (0)), .int (q)])).length) Slot.unset).toArray = ls at hl ⊢
  have hl : lv_has ls 9 [(0, .ref (am (0))), (1, .int (q))] := hl
  refine lv_iconst (v := 0) hx hb dX10_trackByErrors_0 (by decide) ?_
  refine lv_istore_n (lv' := [(2, .int (0)), (0, .ref (am (0))), (1, .int (q))]) hx hb dX10_trackByErrors_1 rfl hl (by decide) rfl (fun ls hl => ?_)
  have loop_2 : ∀ (fu i : Nat) (v : Int32) (H : Heap) (locs : List Loc), (i ≤ t) → (t - i < fu) → (fstI (mP_te (μ 1) n t q) i = none) → (va_P D vwCl (mW am cy (sp_st μ 0 0 v)) H) → (va_S (sp_A am 5 s.heap.size) s.heap H locs) → ∀ ls : Array Slot, lv_has ls 9 [(2, .int (nI i)), (0, .ref (am (0))), (1, .int (q))] → W p l e (headSpec wsX10_trackByErrors ({ frames := 6, cells := 0, slots := 0, locals := 137 } : Room)).room s m ([.ref (am (0)), .int (q)] : List Value).toArray below meth c H locs 0 0 (MQ below (sp_Q D (some (.int (atO (fstI (mP_te (μ 1) n t q) t) 0 (fun k => gT (μ 1) k)))) (mW am cy (sp_st μ 0 0 (atO (fstI (mP_te (μ 1) n t q) t) 1 (fun _ => 0)))) (sp_A am 5 s.heap.size)) ([.ref (am (0)), .int (q)] : List Value).toArray s 0 0 (sp_A am 5 s.heap.size)) (F0 m 2 ls []) := by
    intro fu
    induction fu with
    | zero => intro i v H locs hle hlt hi_0 hP hS ls hl; exact absurd hlt (Nat.not_lt_zero _)
    | succ fu ih =>
      intro i v H locs hle hlt hi_0 hP hS ls hl
      refine lv_iload_n hx hb dX10_trackByErrors_2 rfl (lv_at hl 0 rfl) ?_
      refine lv_aload_n hx hb dX10_trackByErrors_3 rfl (lv_at hl 1 rfl) ?_
      refine sp_get hx hb hts wi_X10_trackByErrors_X10 hown hK hP (κ := 0) (by decide) mE_0 rfl 1 (by decide) (hts _ (List.mem_of_getElem? (i := 1) rfl)) (fun _ h => h) rfl dX10_trackByErrors_4 ?_
      refine lv_iconst (v := 0) hx hb dX10_trackByErrors_7 (by decide) ?_
      refine sp_iald hx hb hK hP (κ := 1) (by decide) 1 mE_1 rfl 0 rfl (by omega) (by decide) dX10_trackByErrors_8 ?_
      refine W.eq (g2 := F0 m 9 ls [.int (μ 1 0), .int (nI i)]) (by rw [sp_st_k _ _ _ _ _ _ (by decide)]) ?_
      refine W.eq (g2 := F0 m 9 ls [.int (nI t), .int (nI i)]) (by rw [hM.2.2.1]) ?_
      refine lv_icmp_ge (tgt := 151) hx hb dX10_trackByErrors_9 (by decide) (fun c_1 => ?_) (fun c_1 => ?_)
      · skip
        have c_1d := Int32.not_lt.mpr c_1
        have hx_i : i = t := by have := (nI_leI (a := t) (b := i) (by omega) (by omega)).mp c_1; omega
        try rw [hx_i] at hi_0
        have hf : fstI (mP_te (μ 1) n t q) t = none := hi_0
        refine lv_aload_n hx hb dX10_trackByErrors_151 rfl (lv_at hl 1 rfl) ?_
        refine lv_iconst (v := 1) hx hb dX10_trackByErrors_152 (by decide) ?_
        refine sp_put hx hb hts wi_X10_trackByErrors_X10 tyX10 tyX10_ok nmX10 hown hK hP hi hAk hS (κ := 0) (by decide) mE_0 rfl 0 (by decide) (hts _ (List.mem_of_getElem? (i := 2) rfl)) (fun _ h => h) rfl (ty := tyX10 0) (by decide +kernel) ⟨rfl, rfl⟩ (Nat.le_of_ble_eq_true rfl) (r1 := upd ((sp_st μ 0 0 v) 0) 0 1) (cE_of mE_0 (by simp [upd])) dX10_trackByErrors_153 (fun H locs hP hS => ?_)
        have hP : va_P D vwCl (mW am cy (sp_st (sp_st μ 0 0 v) 0 0 1)) H := hP
        refine lv_iconst (v := 0) hx hb dX10_trackByErrors_156 (by decide) ?_
        have hE9 : mW am cy (sp_st (sp_st μ 0 0 v) 0 0 1) = mW am cy (sp_st μ 0 0 (atO (fstI (mP_te (μ 1) n t q) t) 1 (fun _ => 0))) := by exact mW_eq (by rw [hf]; exact sp_st_st _ _ _ _ _)
        have hP : va_P D vwCl (mW am cy (sp_st μ 0 0 (atO (fstI (mP_te (μ 1) n t q) t) 1 (fun _ => 0)))) H := by rw [← hE9]; exact hP
        exact W.iret (v := 0) hx hb hr (fun T9 hT9 _ => ⟨congrArg (fun z9 => Outcome.returned (some (Value.int z9))) (show (0 : Int32) = atO (fstI (mP_te (μ 1) n t q) t) 0 (fun k => gT (μ 1) k) from (by simp [atO, hf, gP, gT, st0_1])), by rw [hT9]; exact hP, hS.F hT9⟩) hS.2.2 dX10_trackByErrors_157
      · skip
        have c_1d := Int32.not_le.mp c_1
        have hb_i : i < t := Nat.lt_of_not_le (fun z => c_1 (nI_le z (by omega)))
        refine lv_iconst (v := 0) hx hb dX10_trackByErrors_12 (by decide) ?_
        refine lv_istore_n (lv' := [(3, .int (0)), (2, .int (nI i)), (0, .ref (am (0))), (1, .int (q))]) hx hb dX10_trackByErrors_13 rfl hl (by decide) rfl (fun ls hl => ?_)
        refine lv_aload_n hx hb dX10_trackByErrors_14 rfl (lv_at hl 2 rfl) ?_
        refine sp_get hx hb hts wi_X10_trackByErrors_X10 hown hK hP (κ := 0) (by decide) mE_0 rfl 1 (by decide) (hts _ (List.mem_of_getElem? (i := 1) rfl)) (fun _ h => h) rfl dX10_trackByErrors_15 ?_
        refine lv_bipush (v := 7) hx hb dX10_trackByErrors_18 (by decide) ?_
        refine lv_iconst (v := 2) hx hb dX10_trackByErrors_20 (by decide) ?_
        refine lv_iload_n hx hb dX10_trackByErrors_21 rfl (lv_at hl 1 rfl) ?_
        refine lv_imul hx hb dX10_trackByErrors_22 ?_
        refine lv_iadd hx hb dX10_trackByErrors_23 ?_
        refine sp_iald hx hb hK hP (κ := 1) (by decide) 1 mE_1 rfl (7 + (2 * i)) (nI_addE rfl (nI_mulE rfl rfl)) (by omega) (by decide) dX10_trackByErrors_24 ?_
        refine W.eq (g2 := F0 m 25 ls [.int (μ 1 (7 + (2 * i)))]) (by rw [sp_st_k _ _ _ _ _ _ (by decide)]) ?_
        refine lv_istore (lv' := [(4, .int (μ 1 (7 + (2 * i)))), (3, .int (0)), (2, .int (nI i)), (0, .ref (am (0))), (1, .int (q))]) hx hb dX10_trackByErrors_25 hl (by decide) rfl (fun ls hl => ?_)
        refine lv_iconst (v := 0) hx hb dX10_trackByErrors_27 (by decide) ?_
        refine lv_istore (lv' := [(5, .int (0)), (4, .int (μ 1 (7 + (2 * i)))), (3, .int (0)), (2, .int (nI i)), (0, .ref (am (0))), (1, .int (q))]) hx hb dX10_trackByErrors_28 hl (by decide) rfl (fun ls hl => ?_)
        have loop_30 : ∀ (fu j : Nat) (y : Int32) (H : Heap) (locs : List Loc), (j ≤ t) → (t - j < fu) → (y = sumI (mF_te (μ 1) n t i) j) → (va_P D vwCl (mW am cy (sp_st μ 0 0 v)) H) → (va_S (sp_A am 5 s.heap.size) s.heap H locs) → ∀ ls : Array Slot, lv_has ls 9 [(5, .int (nI j)), (4, .int (μ 1 (7 + (2 * i)))), (3, .int (y)), (2, .int (nI i)), (0, .ref (am (0))), (1, .int (q))] → W p l e (headSpec wsX10_trackByErrors ({ frames := 6, cells := 0, slots := 0, locals := 137 } : Room)).room s m ([.ref (am (0)), .int (q)] : List Value).toArray below meth c H locs 0 0 (MQ below (sp_Q D (some (.int (atO (fstI (mP_te (μ 1) n t q) t) 0 (fun k => gT (μ 1) k)))) (mW am cy (sp_st μ 0 0 (atO (fstI (mP_te (μ 1) n t q) t) 1 (fun _ => 0)))) (sp_A am 5 s.heap.size)) ([.ref (am (0)), .int (q)] : List Value).toArray s 0 0 (sp_A am 5 s.heap.size)) (F0 m 30 ls []) := by
          intro fu
          induction fu with
          | zero => intro j y H locs hle hlt hj_0 hP hS ls hl; exact absurd hlt (Nat.not_lt_zero _)
          | succ fu ih2 =>
            intro j y H locs hle hlt hj_0 hP hS ls hl
            refine lv_iload hx hb dX10_trackByErrors_30 (lv_at hl 0 rfl) ?_
            refine lv_aload_n hx hb dX10_trackByErrors_32 rfl (lv_at hl 4 rfl) ?_
            refine sp_get hx hb hts wi_X10_trackByErrors_X10 hown hK hP (κ := 0) (by decide) mE_0 rfl 1 (by decide) (hts _ (List.mem_of_getElem? (i := 1) rfl)) (fun _ h => h) rfl dX10_trackByErrors_33 ?_
            refine lv_iconst (v := 0) hx hb dX10_trackByErrors_36 (by decide) ?_
            refine sp_iald hx hb hK hP (κ := 1) (by decide) 1 mE_1 rfl 0 rfl (by omega) (by decide) dX10_trackByErrors_37 ?_
            refine W.eq (g2 := F0 m 38 ls [.int (μ 1 0), .int (nI j)]) (by rw [sp_st_k _ _ _ _ _ _ (by decide)]) ?_
            refine W.eq (g2 := F0 m 38 ls [.int (nI t), .int (nI j)]) (by rw [hM.2.2.1]) ?_
            refine lv_icmp_ge (tgt := 125) hx hb dX10_trackByErrors_38 (by decide) (fun c_2 => ?_) (fun c_2 => ?_)
            · skip
              have c_2d := Int32.not_lt.mpr c_2
              have hx_j : j = t := by have := (nI_leI (a := t) (b := j) (by omega) (by omega)).mp c_2; omega
              try rw [hx_j] at hj_0
              refine lv_aload_n hx hb dX10_trackByErrors_125 rfl (lv_at hl 4 rfl) ?_
              refine lv_iload_n hx hb dX10_trackByErrors_126 rfl (lv_at hl 2 rfl) ?_
              refine lv_iload_n hx hb dX10_trackByErrors_127 rfl (lv_at hl 5 rfl) ?_
              refine lv_icmp_ne (tgt := 135) hx hb dX10_trackByErrors_128 (by decide) (fun c_3 => ?_) (fun c_3 => ?_)
              · skip
                refine lv_iconst (v := 0) hx hb dX10_trackByErrors_135 (by decide) ?_
                refine sp_callm (va_runV (As := [.int (0)]) (rest := []) ⟨hx, hb, hml, hown, hts⟩ (c_X10_isFine_0 l D am cy (sp_st μ 0 0 v) _ hi ) (cwV 1 hts gX10_trackByErrors_X10_isFine rfl rfl rfl (by decide +kernel) ⟨Nat.le_of_ble_eq_true rfl, Nat.le_of_ble_eq_true rfl⟩) (sp_preVm hK hP (κ := 0) (by decide) mE_0 rfl) rfl rfl hl.1 rfl (lv_room (Nat.le_of_ble_eq_true rfl)) dX10_trackByErrors_136 ⟨Nat.le_of_ble_eq_true rfl, Nat.le_of_ble_eq_true rfl⟩) hS (fun q h1 h2 => sp_Alt h1 h2) (sp_Ale hS.1) (fun H locs hP hle hfr hS => ?_)
                refine W.eq (g2 := F0 m 139 ls [.int (0)]) rfl ?_
                refine lv_if_eq (tgt := 145) hx hb dX10_trackByErrors_139 (by decide) (fun c_4 => ?_) (fun c_4 => ?_)
                · skip
                  refine lv_iinc (v := nI (i + 1)) (lv' := [(2, .int (nI (i + 1))), (5, .int (nI j)), (4, .int (μ 1 (7 + (2 * i)))), (3, .int (y)), (0, .ref (am (0))), (1, .int (q))]) hx hb dX10_trackByErrors_145 hl (k := 3) rfl (nI_1 _) (by decide) rfl (fun ls hl => ?_)
                  refine lv_goto (tgt := 2) hx hb dX10_trackByErrors_148 (by decide) ?_
                  exact ih (i + 1) 1  _ _ (by omega) (by omega) (fstI_succ_no hi_0 (by simp [mP_te, ← hj_0, b2i, c_3])) ((show mW am cy (sp_st (sp_st μ 0 0 v) 0 0 1) = mW am cy (sp_st μ 0 0 1) from (by exact mW_eq (sp_st_st _ _ _ _ _))) ▸ hP) hS ls (lv_sub hl [0, 4, 5] rfl)
                · exact absurd c_4 (by decide)
              · skip
                have hf : fstI (mP_te (μ 1) n t q) t = some i := fstI_hit hi_0 (by simp [mP_te, ← hj_0, c_3]) hb_i
                refine lv_iconst (v := 1) hx hb dX10_trackByErrors_131 (by decide) ?_
                refine lv_goto (tgt := 136) hx hb dX10_trackByErrors_132 (by decide) ?_
                refine sp_callm (va_runV (As := [.int (1)]) (rest := []) ⟨hx, hb, hml, hown, hts⟩ (c_X10_isFine_1 l D am cy (sp_st μ 0 0 v) _ hi ) (cwV 1 hts gX10_trackByErrors_X10_isFine rfl rfl rfl (by decide +kernel) ⟨Nat.le_of_ble_eq_true rfl, Nat.le_of_ble_eq_true rfl⟩) (sp_preVm hK hP (κ := 0) (by decide) mE_0 rfl) rfl rfl hl.1 rfl (lv_room (Nat.le_of_ble_eq_true rfl)) dX10_trackByErrors_136 ⟨Nat.le_of_ble_eq_true rfl, Nat.le_of_ble_eq_true rfl⟩) hS (fun q h1 h2 => sp_Alt h1 h2) (sp_Ale hS.1) (fun H locs hP hle hfr hS => ?_)
                refine W.eq (g2 := F0 m 139 ls [.int (1)]) rfl ?_
                refine lv_if_eq (tgt := 145) hx hb dX10_trackByErrors_139 (by decide) (fun c_5 => ?_) (fun c_5 => ?_)
                · exact absurd c_5 (by decide)
                · skip
                  refine lv_iload hx hb dX10_trackByErrors_142 (lv_at hl 1 rfl) ?_
                  have hE9 : mW am cy (sp_st (sp_st μ 0 0 v) 0 0 0) = mW am cy (sp_st μ 0 0 (atO (fstI (mP_te (μ 1) n t q) t) 1 (fun _ => 0))) := by exact mW_eq (by rw [hf]; exact sp_st_st _ _ _ _ _)
                  have hP : va_P D vwCl (mW am cy (sp_st μ 0 0 (atO (fstI (mP_te (μ 1) n t q) t) 1 (fun _ => 0)))) H := by rw [← hE9]; exact hP
                  exact W.iret (v := μ 1 (7 + (2 * i))) hx hb hr (fun T9 hT9 _ => ⟨congrArg (fun z9 => Outcome.returned (some (Value.int z9))) (show (μ 1 (7 + (2 * i)) : Int32) = atO (fstI (mP_te (μ 1) n t q) t) 0 (fun k => gT (μ 1) k) from (by simp [atO, hf, gP, gT, st0_1])), by rw [hT9]; exact hP, hS.F hT9⟩) hS.2.2 dX10_trackByErrors_144
            · skip
              have c_2d := Int32.not_le.mp c_2
              have hb_j : j < t := Nat.lt_of_not_le (fun z => c_2 (nI_le z (by omega)))
              refine lv_aload_n hx hb dX10_trackByErrors_41 rfl (lv_at hl 4 rfl) ?_
              refine sp_get hx hb hts wi_X10_trackByErrors_X10 hown hK hP (κ := 0) (by decide) mE_0 rfl 1 (by decide) (hts _ (List.mem_of_getElem? (i := 1) rfl)) (fun _ h => h) rfl dX10_trackByErrors_42 ?_
              refine lv_bipush (v := 7) hx hb dX10_trackByErrors_45 (by decide) ?_
              refine lv_iconst (v := 2) hx hb dX10_trackByErrors_47 (by decide) ?_
              refine lv_iload hx hb dX10_trackByErrors_48 (lv_at hl 0 rfl) ?_
              refine lv_imul hx hb dX10_trackByErrors_50 ?_
              refine lv_iadd hx hb dX10_trackByErrors_51 ?_
              refine sp_iald hx hb hK hP (κ := 1) (by decide) 1 mE_1 rfl (7 + (2 * j)) (nI_addE rfl (nI_mulE rfl rfl)) (by omega) (by decide) dX10_trackByErrors_52 ?_
              refine W.eq (g2 := F0 m 53 ls [.int (μ 1 (7 + (2 * j)))]) (by rw [sp_st_k _ _ _ _ _ _ (by decide)]) ?_
              refine lv_istore (lv' := [(6, .int (μ 1 (7 + (2 * j)))), (5, .int (nI j)), (4, .int (μ 1 (7 + (2 * i)))), (3, .int (y)), (2, .int (nI i)), (0, .ref (am (0))), (1, .int (q))]) hx hb dX10_trackByErrors_53 hl (by decide) rfl (fun ls hl => ?_)
              refine lv_aload_n hx hb dX10_trackByErrors_55 rfl (lv_at hl 5 rfl) ?_
              refine lv_iload hx hb dX10_trackByErrors_56 (lv_at hl 0 rfl) ?_
              refine sp_call (W.runV (As := [.int (μ 1 (7 + (2 * j)))]) (rest := []) ⟨hx, hb, hml, hown, hts⟩ (c_X10_errorsOf l D am cy (sp_st μ 0 0 v) n t (by first | exact hM | exact hi_0 | (repeat first | exact hM | exact hi_0 | refine MS.st0 ?_ | refine MS.st ?_ (by omega))) (μ 1 (7 + (2 * j)))) (cwV 1 hts gX10_trackByErrors_X10_errorsOf rfl rfl rfl (by decide +kernel) ⟨Nat.le_of_ble_eq_true rfl, Nat.le_of_ble_eq_true rfl⟩) (sp_preV hK hP (κ := 0) (by decide) mE_0 rfl) rfl rfl hl.1 rfl (lv_room (Nat.le_of_ble_eq_true rfl)) dX10_trackByErrors_58 ⟨Nat.le_of_ble_eq_true rfl, Nat.le_of_ble_eq_true rfl⟩) ?_
              refine W.eq (g2 := F0 m 61 ls [.int (m_errs ((sp_st μ 0 0 v) 1) n t (μ 1 (7 + (2 * j))))]) rfl ?_
              refine W.eq (g2 := F0 m 61 ls [.int (m_errs (μ 1) n t (μ 1 (7 + (2 * j))))]) (by rw [st0_1 μ 0 v]) ?_
              refine lv_aload_n hx hb dX10_trackByErrors_61 rfl (lv_at hl 5 rfl) ?_
              refine lv_iload hx hb dX10_trackByErrors_62 (lv_at hl 2 rfl) ?_
              refine sp_call (W.runV (As := [.int (μ 1 (7 + (2 * i)))]) (rest := [.int (m_errs (μ 1) n t (μ 1 (7 + (2 * j))))]) ⟨hx, hb, hml, hown, hts⟩ (c_X10_errorsOf l D am cy (sp_st μ 0 0 v) n t (by first | exact hM | exact hi_0 | (repeat first | exact hM | exact hi_0 | refine MS.st0 ?_ | refine MS.st ?_ (by omega))) (μ 1 (7 + (2 * i)))) (cwV 1 hts gX10_trackByErrors_X10_errorsOf rfl rfl rfl (by decide +kernel) ⟨Nat.le_of_ble_eq_true rfl, Nat.le_of_ble_eq_true rfl⟩) (sp_preV hK hP (κ := 0) (by decide) mE_0 rfl) rfl rfl hl.1 rfl (lv_room (Nat.le_of_ble_eq_true rfl)) dX10_trackByErrors_64 ⟨Nat.le_of_ble_eq_true rfl, Nat.le_of_ble_eq_true rfl⟩) ?_
              refine W.eq (g2 := F0 m 67 ls [.int (m_errs ((sp_st μ 0 0 v) 1) n t (μ 1 (7 + (2 * i)))), .int (m_errs (μ 1) n t (μ 1 (7 + (2 * j))))]) rfl ?_
              refine W.eq (g2 := F0 m 67 ls [.int (m_errs (μ 1) n t (μ 1 (7 + (2 * i)))), .int (m_errs (μ 1) n t (μ 1 (7 + (2 * j))))]) (by rw [st0_1 μ 0 v]) ?_
              refine lv_isub hx hb dX10_trackByErrors_67 ?_
              refine lv_istore (lv' := [(7, .int ((m_errs (μ 1) n t (μ 1 (7 + (2 * j)))) - (m_errs (μ 1) n t (μ 1 (7 + (2 * i)))))), (6, .int (μ 1 (7 + (2 * j)))), (5, .int (nI j)), (4, .int (μ 1 (7 + (2 * i)))), (3, .int (y)), (2, .int (nI i)), (0, .ref (am (0))), (1, .int (q))]) hx hb dX10_trackByErrors_68 hl (by decide) rfl (fun ls hl => ?_)
              refine lv_aload_n hx hb dX10_trackByErrors_70 rfl (lv_at hl 6 rfl) ?_
              refine lv_iload hx hb dX10_trackByErrors_71 (lv_at hl 1 rfl) ?_
              refine sp_call (W.runV (As := [.int (μ 1 (7 + (2 * j)))]) (rest := []) ⟨hx, hb, hml, hown, hts⟩ (c_X10_countOf l D am cy (sp_st μ 0 0 v) n t (by first | exact hM | exact hi_0 | (repeat first | exact hM | exact hi_0 | refine MS.st0 ?_ | refine MS.st ?_ (by omega))) (μ 1 (7 + (2 * j)))) (cwV 1 hts gX10_trackByErrors_X10_countOf rfl rfl rfl (by decide +kernel) ⟨Nat.le_of_ble_eq_true rfl, Nat.le_of_ble_eq_true rfl⟩) (sp_preV hK hP (κ := 0) (by decide) mE_0 rfl) rfl rfl hl.1 rfl (lv_room (Nat.le_of_ble_eq_true rfl)) dX10_trackByErrors_73 ⟨Nat.le_of_ble_eq_true rfl, Nat.le_of_ble_eq_true rfl⟩) ?_
              refine W.eq (g2 := F0 m 76 ls [.int (m_count ((sp_st μ 0 0 v) 1) n (μ 1 (7 + (2 * j))))]) rfl ?_
              refine W.eq (g2 := F0 m 76 ls [.int (m_count (μ 1) n (μ 1 (7 + (2 * j))))]) (by rw [st0_1 μ 0 v]) ?_
              refine lv_aload_n hx hb dX10_trackByErrors_76 rfl (lv_at hl 6 rfl) ?_
              refine lv_iload hx hb dX10_trackByErrors_77 (lv_at hl 3 rfl) ?_
              refine sp_call (W.runV (As := [.int (μ 1 (7 + (2 * i)))]) (rest := [.int (m_count (μ 1) n (μ 1 (7 + (2 * j))))]) ⟨hx, hb, hml, hown, hts⟩ (c_X10_countOf l D am cy (sp_st μ 0 0 v) n t (by first | exact hM | exact hi_0 | (repeat first | exact hM | exact hi_0 | refine MS.st0 ?_ | refine MS.st ?_ (by omega))) (μ 1 (7 + (2 * i)))) (cwV 1 hts gX10_trackByErrors_X10_countOf rfl rfl rfl (by decide +kernel) ⟨Nat.le_of_ble_eq_true rfl, Nat.le_of_ble_eq_true rfl⟩) (sp_preV hK hP (κ := 0) (by decide) mE_0 rfl) rfl rfl hl.1 rfl (lv_room (Nat.le_of_ble_eq_true rfl)) dX10_trackByErrors_79 ⟨Nat.le_of_ble_eq_true rfl, Nat.le_of_ble_eq_true rfl⟩) ?_
              refine W.eq (g2 := F0 m 82 ls [.int (m_count ((sp_st μ 0 0 v) 1) n (μ 1 (7 + (2 * i)))), .int (m_count (μ 1) n (μ 1 (7 + (2 * j))))]) rfl ?_
              refine W.eq (g2 := F0 m 82 ls [.int (m_count (μ 1) n (μ 1 (7 + (2 * i)))), .int (m_count (μ 1) n (μ 1 (7 + (2 * j))))]) (by rw [st0_1 μ 0 v]) ?_
              refine lv_isub hx hb dX10_trackByErrors_82 ?_
              refine lv_istore (lv' := [(8, .int ((m_count (μ 1) n (μ 1 (7 + (2 * j)))) - (m_count (μ 1) n (μ 1 (7 + (2 * i)))))), (7, .int ((m_errs (μ 1) n t (μ 1 (7 + (2 * j)))) - (m_errs (μ 1) n t (μ 1 (7 + (2 * i)))))), (6, .int (μ 1 (7 + (2 * j)))), (5, .int (nI j)), (4, .int (μ 1 (7 + (2 * i)))), (3, .int (y)), (2, .int (nI i)), (0, .ref (am (0))), (1, .int (q))]) hx hb dX10_trackByErrors_83 hl (by decide) rfl (fun ls hl => ?_)
              refine lv_iload_n hx hb dX10_trackByErrors_85 rfl (lv_at hl 5 rfl) ?_
              refine lv_iload hx hb dX10_trackByErrors_86 (lv_at hl 1 rfl) ?_
              refine lv_if_gt (tgt := 112) hx hb dX10_trackByErrors_88 (by decide) (fun c_6 => ?_) (fun c_6 => ?_)
              · skip
                have c_6d := Int32.not_le.mpr c_6
                refine lv_iconst (v := 1) hx hb dX10_trackByErrors_112 (by decide) ?_
                refine lv_goto (tgt := 117) hx hb dX10_trackByErrors_113 (by decide) ?_
                refine lv_iadd hx hb dX10_trackByErrors_117 ?_
                refine lv_istore_n (lv' := [(3, .int (y + 1)), (8, .int ((m_count (μ 1) n (μ 1 (7 + (2 * j)))) - (m_count (μ 1) n (μ 1 (7 + (2 * i)))))), (7, .int ((m_errs (μ 1) n t (μ 1 (7 + (2 * j)))) - (m_errs (μ 1) n t (μ 1 (7 + (2 * i)))))), (6, .int (μ 1 (7 + (2 * j)))), (5, .int (nI j)), (4, .int (μ 1 (7 + (2 * i)))), (2, .int (nI i)), (0, .ref (am (0))), (1, .int (q))]) hx hb dX10_trackByErrors_118 rfl hl (by decide) rfl (fun ls hl => ?_)
                refine lv_iinc (v := nI (j + 1)) (lv' := [(5, .int (nI (j + 1))), (3, .int (y + 1)), (8, .int ((m_count (μ 1) n (μ 1 (7 + (2 * j)))) - (m_count (μ 1) n (μ 1 (7 + (2 * i)))))), (7, .int ((m_errs (μ 1) n t (μ 1 (7 + (2 * j)))) - (m_errs (μ 1) n t (μ 1 (7 + (2 * i)))))), (6, .int (μ 1 (7 + (2 * j)))), (4, .int (μ 1 (7 + (2 * i)))), (2, .int (nI i)), (0, .ref (am (0))), (1, .int (q))]) hx hb dX10_trackByErrors_119 hl (k := 4) rfl (nI_1 _) (by decide) rfl (fun ls hl => ?_)
                refine lv_goto (tgt := 30) hx hb dX10_trackByErrors_122 (by decide) ?_
                exact ih2 (j + 1) (y + 1)  _ _ (by omega) (by omega) (by rw [sumI_succ, ← hj_0]; simp [mF_te, gT, b2i, c_6, c_6d]) hP hS ls (lv_sub hl [0, 5, 1, 6, 7, 8] rfl)
              · skip
                have c_6d := Int32.not_lt.mp c_6
                refine lv_iload hx hb dX10_trackByErrors_91 (lv_at hl 1 rfl) ?_
                refine lv_if_ne (tgt := 116) hx hb dX10_trackByErrors_93 (by decide) (fun c_7 => ?_) (fun c_7 => ?_)
                · skip
                  refine lv_iconst (v := 0) hx hb dX10_trackByErrors_116 (by decide) ?_
                  refine lv_iadd hx hb dX10_trackByErrors_117 ?_
                  refine lv_istore_n (lv' := [(3, .int (y + 0)), (8, .int ((m_count (μ 1) n (μ 1 (7 + (2 * j)))) - (m_count (μ 1) n (μ 1 (7 + (2 * i)))))), (7, .int ((m_errs (μ 1) n t (μ 1 (7 + (2 * j)))) - (m_errs (μ 1) n t (μ 1 (7 + (2 * i)))))), (6, .int (μ 1 (7 + (2 * j)))), (5, .int (nI j)), (4, .int (μ 1 (7 + (2 * i)))), (2, .int (nI i)), (0, .ref (am (0))), (1, .int (q))]) hx hb dX10_trackByErrors_118 rfl hl (by decide) rfl (fun ls hl => ?_)
                  refine lv_iinc (v := nI (j + 1)) (lv' := [(5, .int (nI (j + 1))), (3, .int (y + 0)), (8, .int ((m_count (μ 1) n (μ 1 (7 + (2 * j)))) - (m_count (μ 1) n (μ 1 (7 + (2 * i)))))), (7, .int ((m_errs (μ 1) n t (μ 1 (7 + (2 * j)))) - (m_errs (μ 1) n t (μ 1 (7 + (2 * i)))))), (6, .int (μ 1 (7 + (2 * j)))), (4, .int (μ 1 (7 + (2 * i)))), (2, .int (nI i)), (0, .ref (am (0))), (1, .int (q))]) hx hb dX10_trackByErrors_119 hl (k := 4) rfl (nI_1 _) (by decide) rfl (fun ls hl => ?_)
                  refine lv_goto (tgt := 30) hx hb dX10_trackByErrors_122 (by decide) ?_
                  exact ih2 (j + 1) (y + 0)  _ _ (by omega) (by omega) (by rw [sumI_succ, ← hj_0]; simp [mF_te, gT, b2i, c_6, c_6d, c_7]) hP hS ls (lv_sub hl [0, 5, 1, 6, 7, 8] rfl)
                · skip
                  refine lv_iload hx hb dX10_trackByErrors_96 (lv_at hl 0 rfl) ?_
                  refine lv_if_gt (tgt := 112) hx hb dX10_trackByErrors_98 (by decide) (fun c_8 => ?_) (fun c_8 => ?_)
                  · skip
                    have c_8d := Int32.not_le.mpr c_8
                    refine lv_iconst (v := 1) hx hb dX10_trackByErrors_112 (by decide) ?_
                    refine lv_goto (tgt := 117) hx hb dX10_trackByErrors_113 (by decide) ?_
                    refine lv_iadd hx hb dX10_trackByErrors_117 ?_
                    refine lv_istore_n (lv' := [(3, .int (y + 1)), (8, .int ((m_count (μ 1) n (μ 1 (7 + (2 * j)))) - (m_count (μ 1) n (μ 1 (7 + (2 * i)))))), (7, .int ((m_errs (μ 1) n t (μ 1 (7 + (2 * j)))) - (m_errs (μ 1) n t (μ 1 (7 + (2 * i)))))), (6, .int (μ 1 (7 + (2 * j)))), (5, .int (nI j)), (4, .int (μ 1 (7 + (2 * i)))), (2, .int (nI i)), (0, .ref (am (0))), (1, .int (q))]) hx hb dX10_trackByErrors_118 rfl hl (by decide) rfl (fun ls hl => ?_)
                    refine lv_iinc (v := nI (j + 1)) (lv' := [(5, .int (nI (j + 1))), (3, .int (y + 1)), (8, .int ((m_count (μ 1) n (μ 1 (7 + (2 * j)))) - (m_count (μ 1) n (μ 1 (7 + (2 * i)))))), (7, .int ((m_errs (μ 1) n t (μ 1 (7 + (2 * j)))) - (m_errs (μ 1) n t (μ 1 (7 + (2 * i)))))), (6, .int (μ 1 (7 + (2 * j)))), (4, .int (μ 1 (7 + (2 * i)))), (2, .int (nI i)), (0, .ref (am (0))), (1, .int (q))]) hx hb dX10_trackByErrors_119 hl (k := 4) rfl (nI_1 _) (by decide) rfl (fun ls hl => ?_)
                    refine lv_goto (tgt := 30) hx hb dX10_trackByErrors_122 (by decide) ?_
                    exact ih2 (j + 1) (y + 1)  _ _ (by omega) (by omega) (by rw [sumI_succ, ← hj_0]; simp [mF_te, gT, b2i, c_6, c_6d, c_7, c_8, c_8d]) hP hS ls (lv_sub hl [0, 5, 1, 6, 7, 8] rfl)
                  · skip
                    have c_8d := Int32.not_lt.mp c_8
                    refine lv_iload hx hb dX10_trackByErrors_101 (lv_at hl 0 rfl) ?_
                    refine lv_if_ne (tgt := 116) hx hb dX10_trackByErrors_103 (by decide) (fun c_9 => ?_) (fun c_9 => ?_)
                    · skip
                      refine lv_iconst (v := 0) hx hb dX10_trackByErrors_116 (by decide) ?_
                      refine lv_iadd hx hb dX10_trackByErrors_117 ?_
                      refine lv_istore_n (lv' := [(3, .int (y + 0)), (8, .int ((m_count (μ 1) n (μ 1 (7 + (2 * j)))) - (m_count (μ 1) n (μ 1 (7 + (2 * i)))))), (7, .int ((m_errs (μ 1) n t (μ 1 (7 + (2 * j)))) - (m_errs (μ 1) n t (μ 1 (7 + (2 * i)))))), (6, .int (μ 1 (7 + (2 * j)))), (5, .int (nI j)), (4, .int (μ 1 (7 + (2 * i)))), (2, .int (nI i)), (0, .ref (am (0))), (1, .int (q))]) hx hb dX10_trackByErrors_118 rfl hl (by decide) rfl (fun ls hl => ?_)
                      refine lv_iinc (v := nI (j + 1)) (lv' := [(5, .int (nI (j + 1))), (3, .int (y + 0)), (8, .int ((m_count (μ 1) n (μ 1 (7 + (2 * j)))) - (m_count (μ 1) n (μ 1 (7 + (2 * i)))))), (7, .int ((m_errs (μ 1) n t (μ 1 (7 + (2 * j)))) - (m_errs (μ 1) n t (μ 1 (7 + (2 * i)))))), (6, .int (μ 1 (7 + (2 * j)))), (4, .int (μ 1 (7 + (2 * i)))), (2, .int (nI i)), (0, .ref (am (0))), (1, .int (q))]) hx hb dX10_trackByErrors_119 hl (k := 4) rfl (nI_1 _) (by decide) rfl (fun ls hl => ?_)
                      refine lv_goto (tgt := 30) hx hb dX10_trackByErrors_122 (by decide) ?_
                      exact ih2 (j + 1) (y + 0)  _ _ (by omega) (by omega) (by rw [sumI_succ, ← hj_0]; simp [mF_te, gT, b2i, c_6, c_6d, c_7, c_8, c_8d, c_9]) hP hS ls (lv_sub hl [0, 5, 1, 6, 7, 8] rfl)
                    · skip
                      refine lv_iload hx hb dX10_trackByErrors_106 (lv_at hl 3 rfl) ?_
                      refine lv_iload_n hx hb dX10_trackByErrors_108 rfl (lv_at hl 6 rfl) ?_
                      refine lv_icmp_ge (tgt := 116) hx hb dX10_trackByErrors_109 (by decide) (fun c_10 => ?_) (fun c_10 => ?_)
                      · skip
                        have c_10d := Int32.not_lt.mpr c_10
                        refine lv_iconst (v := 0) hx hb dX10_trackByErrors_116 (by decide) ?_
                        refine lv_iadd hx hb dX10_trackByErrors_117 ?_
                        refine lv_istore_n (lv' := [(3, .int (y + 0)), (8, .int ((m_count (μ 1) n (μ 1 (7 + (2 * j)))) - (m_count (μ 1) n (μ 1 (7 + (2 * i)))))), (7, .int ((m_errs (μ 1) n t (μ 1 (7 + (2 * j)))) - (m_errs (μ 1) n t (μ 1 (7 + (2 * i)))))), (6, .int (μ 1 (7 + (2 * j)))), (5, .int (nI j)), (4, .int (μ 1 (7 + (2 * i)))), (2, .int (nI i)), (0, .ref (am (0))), (1, .int (q))]) hx hb dX10_trackByErrors_118 rfl hl (by decide) rfl (fun ls hl => ?_)
                        refine lv_iinc (v := nI (j + 1)) (lv' := [(5, .int (nI (j + 1))), (3, .int (y + 0)), (8, .int ((m_count (μ 1) n (μ 1 (7 + (2 * j)))) - (m_count (μ 1) n (μ 1 (7 + (2 * i)))))), (7, .int ((m_errs (μ 1) n t (μ 1 (7 + (2 * j)))) - (m_errs (μ 1) n t (μ 1 (7 + (2 * i)))))), (6, .int (μ 1 (7 + (2 * j)))), (4, .int (μ 1 (7 + (2 * i)))), (2, .int (nI i)), (0, .ref (am (0))), (1, .int (q))]) hx hb dX10_trackByErrors_119 hl (k := 4) rfl (nI_1 _) (by decide) rfl (fun ls hl => ?_)
                        refine lv_goto (tgt := 30) hx hb dX10_trackByErrors_122 (by decide) ?_
                        exact ih2 (j + 1) (y + 0)  _ _ (by omega) (by omega) (by rw [sumI_succ, ← hj_0]; simp [mF_te, gT, b2i, c_6, c_6d, c_7, c_8, c_8d, c_9, c_10, c_10d]) hP hS ls (lv_sub hl [0, 5, 1, 6, 7, 8] rfl)
                      · skip
                        have c_10d := Int32.not_le.mp c_10
                        refine lv_iconst (v := 1) hx hb dX10_trackByErrors_112 (by decide) ?_
                        refine lv_goto (tgt := 117) hx hb dX10_trackByErrors_113 (by decide) ?_
                        refine lv_iadd hx hb dX10_trackByErrors_117 ?_
                        refine lv_istore_n (lv' := [(3, .int (y + 1)), (8, .int ((m_count (μ 1) n (μ 1 (7 + (2 * j)))) - (m_count (μ 1) n (μ 1 (7 + (2 * i)))))), (7, .int ((m_errs (μ 1) n t (μ 1 (7 + (2 * j)))) - (m_errs (μ 1) n t (μ 1 (7 + (2 * i)))))), (6, .int (μ 1 (7 + (2 * j)))), (5, .int (nI j)), (4, .int (μ 1 (7 + (2 * i)))), (2, .int (nI i)), (0, .ref (am (0))), (1, .int (q))]) hx hb dX10_trackByErrors_118 rfl hl (by decide) rfl (fun ls hl => ?_)
                        refine lv_iinc (v := nI (j + 1)) (lv' := [(5, .int (nI (j + 1))), (3, .int (y + 1)), (8, .int ((m_count (μ 1) n (μ 1 (7 + (2 * j)))) - (m_count (μ 1) n (μ 1 (7 + (2 * i)))))), (7, .int ((m_errs (μ 1) n t (μ 1 (7 + (2 * j)))) - (m_errs (μ 1) n t (μ 1 (7 + (2 * i)))))), (6, .int (μ 1 (7 + (2 * j)))), (4, .int (μ 1 (7 + (2 * i)))), (2, .int (nI i)), (0, .ref (am (0))), (1, .int (q))]) hx hb dX10_trackByErrors_119 hl (k := 4) rfl (nI_1 _) (by decide) rfl (fun ls hl => ?_)
                        refine lv_goto (tgt := 30) hx hb dX10_trackByErrors_122 (by decide) ?_
                        exact ih2 (j + 1) (y + 1)  _ _ (by omega) (by omega) (by rw [sumI_succ, ← hj_0]; simp [mF_te, gT, b2i, c_6, c_6d, c_7, c_8, c_8d, c_9, c_10, c_10d]) hP hS ls (lv_sub hl [0, 5, 1, 6, 7, 8] rfl)
        exact loop_30 (t + 1) (0) (0)  _ _ (by omega) (by omega) (rfl) hP hS ls (lv_sub hl [0, 1, 2, 3, 4, 5] rfl)
  exact loop_2 (t + 1) (0) (μ 0 0)  _ _ (by omega) (by omega) (rfl) ((show mW am cy (μ) = mW am cy (sp_st μ 0 0 (μ 0 0)) from (by exact mW_eq (sp_st_self μ 0 0).symm)) ▸ hP) hS ls (lv_sub hl [0, 1, 2] rfl)

set_option maxHeartbeats 4000000 in
set_option maxRecDepth 100000 in
theorem c_X10_suggestCell (l : Launch) (D : va_G) (am : Nat → Nat) (cy : Nat → ClassId) (μ : Nat → Nat → Int32) (sz : Nat) (hi : sp_inj am 5) (n : Nat) (t : Nat) (hM : MS (μ 1) n t) (x : Int32) : Met l yX10_suggestCell wsX10_suggestCell ({ frames := 7, cells := 0, slots := 0, locals := 163 } : Room) (sp_Pm D (tyG cy) sz [.ref (am (0)), .int (x)] (mW am cy μ)) (sp_Q D (some (.int (atO (m_find (μ 1) n x) 0 (fun k => m_sug (μ 1) n t k)))) (mW am cy (sp_st μ 0 0 (atO (m_find (μ 1) n x) 1 (fun _ => 0)))) (sp_A am 5 sz)) 0 0 (sp_A am 5 sz) := by
  refine Met.ofW (cc := cX10_suggestCell) (maxL := 9) (ret := (some .int)) (by decide) rfl ?_
  intro p e s m args below meth c s₁ B hml hv
  obtain ⟨rfl, hsz, hP, hK⟩ := hv
  have hx := B.exec
  have hb := B.bytes
  have hr := B.returns
  have hts := atoms_spec (ws := wsX10_suggestCell) B.pre
  have hown : s.vm.findClass RX10 = some m.cls := findClass_of_methodNamed B.named
  have hlocks := B.notSynchronized
  subst hsz
  have hS : va_S (sp_A am 5 s.heap.size) s.heap s.heap [] := va_S.rf
  have hAk : ∀ k, k < 5 → (sp_A am 5 s.heap.size) (am k) := fun k hk => Or.inl ⟨k, hk, rfl⟩
  skip
  have hn30 := hM.2.1
  have ht6 := hM.2.2.2
  have hl := lv_entry ([.ref (am (0)), .int (x)]) (n := 9) (Nat.le_of_ble_eq_true rfl)
  refine W.eq (lg_entry_eq _ ([.ref (am (0)), .int (x)]) _) ?_
  generalize (lg_sl ([.ref (am (0)), .int (x)]) ++ List.replicate (9 - (lg_sl ([.ref (am (0)), .int (x)])).length) Slot.unset).toArray = ls at hl ⊢
  have hl : lv_has ls 9 [(0, .ref (am (0))), (1, .int (x))] := hl
  refine lv_aload_n hx hb dX10_suggestCell_0 rfl (lv_at hl 0 rfl) ?_
  refine lv_iload_n hx hb dX10_suggestCell_1 rfl (lv_at hl 1 rfl) ?_
  refine sp_call (W.runV (As := [.int (x)]) (rest := []) ⟨hx, hb, hml, hown, hts⟩ (c_X10_find l D am cy μ n t (by first | exact hM | exact hi_0 | (repeat first | exact hM | exact hi_0 | refine MS.st0 ?_ | refine MS.st ?_ (by omega))) x) (cwV 1 hts gX10_suggestCell_X10_find rfl rfl rfl (by decide +kernel) ⟨Nat.le_of_ble_eq_true rfl, Nat.le_of_ble_eq_true rfl⟩) (sp_preV hK hP (κ := 0) (by decide) mE_0 rfl) rfl rfl hl.1 rfl (lv_room (Nat.le_of_ble_eq_true rfl)) dX10_suggestCell_2 ⟨Nat.le_of_ble_eq_true rfl, Nat.le_of_ble_eq_true rfl⟩) ?_
  rcases opt_em (m_find (μ 1) n x) with q_1 | ⟨k, q_1⟩
  · refine W.eq (g2 := F0 m 5 ls [.int ((-1))]) (by rw [q_1]; rfl) ?_
    refine lv_istore_n (lv' := [(2, .int ((-1))), (0, .ref (am (0))), (1, .int (x))]) hx hb dX10_suggestCell_5 rfl hl (by decide) rfl (fun ls hl => ?_)
    refine lv_aload_n hx hb dX10_suggestCell_6 rfl (lv_at hl 1 rfl) ?_
    refine lv_iload_n hx hb dX10_suggestCell_7 rfl (lv_at hl 0 rfl) ?_
    refine lv_if_lt (tgt := 15) hx hb dX10_suggestCell_8 (by decide) (fun c_2 => ?_) (fun c_2 => ?_)
    · skip
      refine lv_iconst (v := 0) hx hb dX10_suggestCell_15 (by decide) ?_
      refine sp_callm (va_runV (As := [.int (0)]) (rest := []) ⟨hx, hb, hml, hown, hts⟩ (c_X10_isFine_0 l D am cy μ _ hi ) (cwV 1 hts gX10_suggestCell_X10_isFine rfl rfl rfl (by decide +kernel) ⟨Nat.le_of_ble_eq_true rfl, Nat.le_of_ble_eq_true rfl⟩) (sp_preVm hK hP (κ := 0) (by decide) mE_0 rfl) rfl rfl hl.1 rfl (lv_room (Nat.le_of_ble_eq_true rfl)) dX10_suggestCell_16 ⟨Nat.le_of_ble_eq_true rfl, Nat.le_of_ble_eq_true rfl⟩) hS (fun q h1 h2 => sp_Alt h1 h2) (sp_Ale hS.1) (fun H locs hP hle hfr hS => ?_)
      refine W.eq (g2 := F0 m 19 ls [.int (0)]) rfl ?_
      refine lv_if_ne (tgt := 24) hx hb dX10_suggestCell_19 (by decide) (fun c_3 => ?_) (fun c_3 => ?_)
      · exact absurd c_3 (by decide)
      · skip
        refine lv_iconst (v := 0) hx hb dX10_suggestCell_22 (by decide) ?_
        have hE9 : mW am cy (sp_st μ 0 0 1) = mW am cy (sp_st μ 0 0 (atO (m_find (μ 1) n x) 1 (fun _ => 0))) := by exact mW_eq (by simp [atO, b2i, q_1])
        have hP : va_P D vwCl (mW am cy (sp_st μ 0 0 (atO (m_find (μ 1) n x) 1 (fun _ => 0)))) H := by rw [← hE9]; exact hP
        exact W.iret (v := 0) hx hb hr (fun T9 hT9 _ => ⟨congrArg (fun z9 => Outcome.returned (some (Value.int z9))) (show (0 : Int32) = atO (m_find (μ 1) n x) 0 (fun k => m_sug (μ 1) n t k) from (by simp [atO, b2i, q_1])), by rw [hT9]; exact hP, hS.F hT9⟩) hS.2.2 dX10_suggestCell_23
    · exact absurd c_2 (by decide)
  · have hk := m_find_lt q_1
    refine W.eq (g2 := F0 m 5 ls [.int (nI k)]) (by rw [q_1]; rfl) ?_
    refine lv_istore_n (lv' := [(2, .int (nI k)), (0, .ref (am (0))), (1, .int (x))]) hx hb dX10_suggestCell_5 rfl hl (by decide) rfl (fun ls hl => ?_)
    refine lv_aload_n hx hb dX10_suggestCell_6 rfl (lv_at hl 1 rfl) ?_
    refine lv_iload_n hx hb dX10_suggestCell_7 rfl (lv_at hl 0 rfl) ?_
    refine lv_if_lt (tgt := 15) hx hb dX10_suggestCell_8 (by decide) (fun c_4 => ?_) (fun c_4 => ?_)
    · exact absurd c_4 (nI_pos (by omega))
    · skip
      have c_4d := Int32.not_lt.mp c_4
      refine lv_iconst (v := 1) hx hb dX10_suggestCell_11 (by decide) ?_
      refine lv_goto (tgt := 16) hx hb dX10_suggestCell_12 (by decide) ?_
      refine sp_callm (va_runV (As := [.int (1)]) (rest := []) ⟨hx, hb, hml, hown, hts⟩ (c_X10_isFine_1 l D am cy μ _ hi ) (cwV 1 hts gX10_suggestCell_X10_isFine rfl rfl rfl (by decide +kernel) ⟨Nat.le_of_ble_eq_true rfl, Nat.le_of_ble_eq_true rfl⟩) (sp_preVm hK hP (κ := 0) (by decide) mE_0 rfl) rfl rfl hl.1 rfl (lv_room (Nat.le_of_ble_eq_true rfl)) dX10_suggestCell_16 ⟨Nat.le_of_ble_eq_true rfl, Nat.le_of_ble_eq_true rfl⟩) hS (fun q h1 h2 => sp_Alt h1 h2) (sp_Ale hS.1) (fun H locs hP hle hfr hS => ?_)
      refine W.eq (g2 := F0 m 19 ls [.int (1)]) rfl ?_
      refine lv_if_ne (tgt := 24) hx hb dX10_suggestCell_19 (by decide) (fun c_5 => ?_) (fun c_5 => ?_)
      · skip
        refine lv_bipush (v := 20) hx hb dX10_suggestCell_24 (by decide) ?_
        refine lv_aload_n hx hb dX10_suggestCell_26 rfl (lv_at hl 1 rfl) ?_
        refine lv_iload_n hx hb dX10_suggestCell_27 rfl (lv_at hl 0 rfl) ?_
        refine lv_iconst (v := 3) hx hb dX10_suggestCell_28 (by decide) ?_
        refine sp_call (W.runV (As := [.int (nI k), .int (3)]) (rest := [.int (20)]) ⟨hx, hb, hml, hown, hts⟩ (c_X10_p l D am cy (sp_st μ 0 0 0) k (by omega) 3 (by omega)) (cwV 2 hts gX10_suggestCell_X10_p rfl rfl rfl (by decide +kernel) ⟨Nat.le_of_ble_eq_true rfl, Nat.le_of_ble_eq_true rfl⟩) (sp_preV hK hP (κ := 0) (by decide) mE_0 rfl) rfl rfl hl.1 rfl (lv_room (Nat.le_of_ble_eq_true rfl)) dX10_suggestCell_29 ⟨Nat.le_of_ble_eq_true rfl, Nat.le_of_ble_eq_true rfl⟩) ?_
        refine W.eq (g2 := F0 m 32 ls [.int (gP ((sp_st μ 0 0 0) 1) k 3), .int (20)]) rfl ?_
        refine W.eq (g2 := F0 m 32 ls [.int (gP (μ 1) k 3), .int (20)]) (by rw [st0_1 μ 0 0]) ?_
        refine lv_imul hx hb dX10_suggestCell_32 ?_
        refine lv_aload_n hx hb dX10_suggestCell_33 rfl (lv_at hl 1 rfl) ?_
        refine lv_iload_n hx hb dX10_suggestCell_34 rfl (lv_at hl 0 rfl) ?_
        refine lv_iconst (v := 4) hx hb dX10_suggestCell_35 (by decide) ?_
        refine sp_call (W.runV (As := [.int (nI k), .int (4)]) (rest := [.int (20 * (gP (μ 1) k 3))]) ⟨hx, hb, hml, hown, hts⟩ (c_X10_p l D am cy (sp_st μ 0 0 0) k (by omega) 4 (by omega)) (cwV 2 hts gX10_suggestCell_X10_p rfl rfl rfl (by decide +kernel) ⟨Nat.le_of_ble_eq_true rfl, Nat.le_of_ble_eq_true rfl⟩) (sp_preV hK hP (κ := 0) (by decide) mE_0 rfl) rfl rfl hl.1 rfl (lv_room (Nat.le_of_ble_eq_true rfl)) dX10_suggestCell_36 ⟨Nat.le_of_ble_eq_true rfl, Nat.le_of_ble_eq_true rfl⟩) ?_
        refine W.eq (g2 := F0 m 39 ls [.int (gP ((sp_st μ 0 0 0) 1) k 4), .int (20 * (gP (μ 1) k 3))]) rfl ?_
        refine W.eq (g2 := F0 m 39 ls [.int (gP (μ 1) k 4), .int (20 * (gP (μ 1) k 3))]) (by rw [st0_1 μ 0 0]) ?_
        refine lv_iadd hx hb dX10_suggestCell_39 ?_
        refine lv_istore_n (lv' := [(3, .int ((20 * (gP (μ 1) k 3)) + (gP (μ 1) k 4))), (2, .int (nI k)), (0, .ref (am (0))), (1, .int (x))]) hx hb dX10_suggestCell_40 rfl hl (by decide) rfl (fun ls hl => ?_)
        refine lv_sipush (v := 1000) hx hb dX10_suggestCell_41 (by decide) ?_
        refine lv_aload_n hx hb dX10_suggestCell_44 rfl (lv_at hl 2 rfl) ?_
        refine lv_aload_n hx hb dX10_suggestCell_45 rfl (lv_at hl 2 rfl) ?_
        refine lv_iload_n hx hb dX10_suggestCell_46 rfl (lv_at hl 1 rfl) ?_
        refine lv_iconst (v := 1) hx hb dX10_suggestCell_47 (by decide) ?_
        refine sp_call (W.runV (As := [.int (nI k), .int (1)]) (rest := [.ref (am (0)), .int (1000)]) ⟨hx, hb, hml, hown, hts⟩ (c_X10_p l D am cy (sp_st μ 0 0 0) k (by omega) 1 (by omega)) (cwV 2 hts gX10_suggestCell_X10_p rfl rfl rfl (by decide +kernel) ⟨Nat.le_of_ble_eq_true rfl, Nat.le_of_ble_eq_true rfl⟩) (sp_preV hK hP (κ := 0) (by decide) mE_0 rfl) rfl rfl hl.1 rfl (lv_room (Nat.le_of_ble_eq_true rfl)) dX10_suggestCell_48 ⟨Nat.le_of_ble_eq_true rfl, Nat.le_of_ble_eq_true rfl⟩) ?_
        refine W.eq (g2 := F0 m 51 ls [.int (gP ((sp_st μ 0 0 0) 1) k 1), .ref (am (0)), .int (1000)]) rfl ?_
        refine W.eq (g2 := F0 m 51 ls [.int (gP (μ 1) k 1), .ref (am (0)), .int (1000)]) (by rw [st0_1 μ 0 0]) ?_
        refine sp_call (W.runV (As := [.int (gP (μ 1) k 1)]) (rest := [.int (1000)]) ⟨hx, hb, hml, hown, hts⟩ (c_X10_errorsOf l D am cy (sp_st μ 0 0 0) n t (by first | exact hM | exact hi_0 | (repeat first | exact hM | exact hi_0 | refine MS.st0 ?_ | refine MS.st ?_ (by omega))) (gP (μ 1) k 1)) (cwV 1 hts gX10_suggestCell_X10_errorsOf rfl rfl rfl (by decide +kernel) ⟨Nat.le_of_ble_eq_true rfl, Nat.le_of_ble_eq_true rfl⟩) (sp_preV hK hP (κ := 0) (by decide) mE_0 rfl) rfl rfl hl.1 rfl (lv_room (Nat.le_of_ble_eq_true rfl)) dX10_suggestCell_51 ⟨Nat.le_of_ble_eq_true rfl, Nat.le_of_ble_eq_true rfl⟩) ?_
        refine W.eq (g2 := F0 m 54 ls [.int (m_errs ((sp_st μ 0 0 0) 1) n t (gP (μ 1) k 1)), .int (1000)]) rfl ?_
        refine W.eq (g2 := F0 m 54 ls [.int (m_errs (μ 1) n t (gP (μ 1) k 1)), .int (1000)]) (by rw [st0_1 μ 0 0]) ?_
        refine lv_imul hx hb dX10_suggestCell_54 ?_
        refine lv_istore (lv' := [(4, .int (1000 * (m_errs (μ 1) n t (gP (μ 1) k 1)))), (3, .int ((20 * (gP (μ 1) k 3)) + (gP (μ 1) k 4))), (2, .int (nI k)), (0, .ref (am (0))), (1, .int (x))]) hx hb dX10_suggestCell_55 hl (by decide) rfl (fun ls hl => ?_)
        refine lv_iconst (v := 0) hx hb dX10_suggestCell_57 (by decide) ?_
        refine lv_istore (lv' := [(5, .int (0)), (4, .int (1000 * (m_errs (μ 1) n t (gP (μ 1) k 1)))), (3, .int ((20 * (gP (μ 1) k 3)) + (gP (μ 1) k 4))), (2, .int (nI k)), (0, .ref (am (0))), (1, .int (x))]) hx hb dX10_suggestCell_58 hl (by decide) rfl (fun ls hl => ?_)
        have loop_60 : ∀ (fu i : Nat) (y : Int32) (w : Int32) (H : Heap) (locs : List Loc), (i ≤ 200) → (200 - i < fu) → ((y, w) = foldI (S_sug (μ 1) n t k) (20 * gP (μ 1) k 3 + gP (μ 1) k 4, 1000 * m_errs (μ 1) n t (gP (μ 1) k 1)) i) → (va_P D vwCl (mW am cy (sp_st μ 0 0 0)) H) → (va_S (sp_A am 5 s.heap.size) s.heap H locs) → ∀ ls : Array Slot, lv_has ls 9 [(5, .int (nI i)), (4, .int (w)), (3, .int (y)), (2, .int (nI k)), (0, .ref (am (0))), (1, .int (x))] → W p l e (headSpec wsX10_suggestCell ({ frames := 7, cells := 0, slots := 0, locals := 163 } : Room)).room s m ([.ref (am (0)), .int (x)] : List Value).toArray below meth c H locs 0 0 (MQ below (sp_Q D (some (.int (atO (m_find (μ 1) n x) 0 (fun k => m_sug (μ 1) n t k)))) (mW am cy (sp_st μ 0 0 (atO (m_find (μ 1) n x) 1 (fun _ => 0)))) (sp_A am 5 s.heap.size)) ([.ref (am (0)), .int (x)] : List Value).toArray s 0 0 (sp_A am 5 s.heap.size)) (F0 m 60 ls []) := by
          intro fu
          induction fu with
          | zero => intro i y w H locs hle hlt hi_0 hP hS ls hl; exact absurd hlt (Nat.not_lt_zero _)
          | succ fu ih =>
            intro i y w H locs hle hlt hi_0 hP hS ls hl
            refine lv_iload hx hb dX10_suggestCell_60 (lv_at hl 0 rfl) ?_
            refine lv_sipush (v := 200) hx hb dX10_suggestCell_62 (by decide) ?_
            refine lv_icmp_ge (tgt := 158) hx hb dX10_suggestCell_65 (by decide) (fun c_6 => ?_) (fun c_6 => ?_)
            · skip
              have c_6d := Int32.not_lt.mpr c_6
              have hx_i : i = 200 := by have := (nI_leI (a := 200) (b := i) (by omega) (by omega)).mp c_6; omega
              try rw [hx_i] at hi_0
              refine lv_iload_n hx hb dX10_suggestCell_158 rfl (lv_at hl 2 rfl) ?_
              have hE9 : mW am cy (sp_st μ 0 0 0) = mW am cy (sp_st μ 0 0 (atO (m_find (μ 1) n x) 1 (fun _ => 0))) := by exact mW_eq (by simp [atO, b2i, q_1, c_4, c_4d])
              have hP : va_P D vwCl (mW am cy (sp_st μ 0 0 (atO (m_find (μ 1) n x) 1 (fun _ => 0)))) H := by rw [← hE9]; exact hP
              exact W.iret (v := y) hx hb hr (fun T9 hT9 _ => ⟨congrArg (fun z9 => Outcome.returned (some (Value.int z9))) (show (y : Int32) = atO (m_find (μ 1) n x) 0 (fun k => m_sug (μ 1) n t k) from (by simp only [atO, b2i, q_1, c_4, c_4d]; unfold m_sug; rw [← hi_0])), by rw [hT9]; exact hP, hS.F hT9⟩) hS.2.2 dX10_suggestCell_159
            · skip
              have c_6d := Int32.not_le.mp c_6
              have hb_i : i < 200 := Nat.lt_of_not_le (fun z => c_6 (nI_le z (by omega)))
              refine lv_iload hx hb dX10_suggestCell_68 (lv_at hl 0 rfl) ?_
              refine lv_bipush (v := 20) hx hb dX10_suggestCell_70 (by decide) ?_
              refine lv_idiv hx hb dX10_suggestCell_72 (by decide) ?_
              refine lv_istore (lv' := [(6, .int ((nI i) / 20)), (5, .int (nI i)), (4, .int (w)), (3, .int (y)), (2, .int (nI k)), (0, .ref (am (0))), (1, .int (x))]) hx hb dX10_suggestCell_73 hl (by decide) rfl (fun ls hl => ?_)
              refine lv_iload hx hb dX10_suggestCell_75 (lv_at hl 1 rfl) ?_
              refine lv_bipush (v := 20) hx hb dX10_suggestCell_77 (by decide) ?_
              refine lv_irem hx hb dX10_suggestCell_79 (by decide) ?_
              refine lv_istore (lv' := [(7, .int ((nI i) - (nI i) / 20 * 20)), (6, .int ((nI i) / 20)), (5, .int (nI i)), (4, .int (w)), (3, .int (y)), (2, .int (nI k)), (0, .ref (am (0))), (1, .int (x))]) hx hb dX10_suggestCell_80 hl (by decide) rfl (fun ls hl => ?_)
              refine lv_aload_n hx hb dX10_suggestCell_82 rfl (lv_at hl 6 rfl) ?_
              refine lv_iload_n hx hb dX10_suggestCell_83 rfl (lv_at hl 5 rfl) ?_
              refine lv_iload hx hb dX10_suggestCell_84 (lv_at hl 1 rfl) ?_
              refine lv_iload hx hb dX10_suggestCell_86 (lv_at hl 0 rfl) ?_
              refine sp_call (W.runV (As := [.int (nI k), .int ((nI i) / 20), .int ((nI i) - (nI i) / 20 * 20)]) (rest := []) ⟨hx, hb, hml, hown, hts⟩ (c_X10_mayMove l D am cy (sp_st μ 0 0 0) n t (by first | exact hM | exact hi_0 | (repeat first | exact hM | exact hi_0 | refine MS.st0 ?_ | refine MS.st ?_ (by omega))) k (by omega) ((nI i) / 20) ((nI i) - (nI i) / 20 * 20)) (cwV 3 hts gX10_suggestCell_X10_mayMove rfl rfl rfl (by decide +kernel) ⟨Nat.le_of_ble_eq_true rfl, Nat.le_of_ble_eq_true rfl⟩) (sp_preV hK hP (κ := 0) (by decide) mE_0 rfl) rfl rfl hl.1 rfl (lv_room (Nat.le_of_ble_eq_true rfl)) dX10_suggestCell_88 ⟨Nat.le_of_ble_eq_true rfl, Nat.le_of_ble_eq_true rfl⟩) ?_
              refine W.eq (g2 := F0 m 91 ls [.int (b2i (m_may ((sp_st μ 0 0 0) 1) n k ((nI i) / 20) ((nI i) - (nI i) / 20 * 20)))]) rfl ?_
              refine W.eq (g2 := F0 m 91 ls [.int (b2i (m_may (μ 1) n k ((nI i) / 20) ((nI i) - (nI i) / 20 * 20)))]) (by rw [st0_1 μ 0 0]) ?_
              refine lv_if_ne (tgt := 97) hx hb dX10_suggestCell_91 (by decide) (fun c_7 => ?_) (fun c_7 => ?_)
              · rw [b2i_eq0] at c_7
                refine lv_sipush (v := 1000) hx hb dX10_suggestCell_97 (by decide) ?_
                refine lv_aload_n hx hb dX10_suggestCell_100 rfl (lv_at hl 6 rfl) ?_
                refine lv_iload_n hx hb dX10_suggestCell_101 rfl (lv_at hl 5 rfl) ?_
                refine lv_iload hx hb dX10_suggestCell_102 (lv_at hl 1 rfl) ?_
                refine lv_iload hx hb dX10_suggestCell_104 (lv_at hl 0 rfl) ?_
                refine sp_callm (va_runV (As := [.int (nI k), .int ((nI i) / 20), .int ((nI i) - (nI i) / 20 * 20)]) (rest := [.int (1000)]) ⟨hx, hb, hml, hown, hts⟩ (c_X10_errorsThere l D am cy (sp_st μ 0 0 0) _ hi n t (by first | exact hM | exact hi_0 | (repeat first | exact hM | exact hi_0 | refine MS.st0 ?_ | refine MS.st ?_ (by omega))) k (by omega) ((nI i) / 20) ((nI i) - (nI i) / 20 * 20)) (cwV 3 hts gX10_suggestCell_X10_errorsThere rfl rfl rfl (by decide +kernel) ⟨Nat.le_of_ble_eq_true rfl, Nat.le_of_ble_eq_true rfl⟩) (sp_preVm hK hP (κ := 0) (by decide) mE_0 rfl) rfl rfl hl.1 rfl (lv_room (Nat.le_of_ble_eq_true rfl)) dX10_suggestCell_106 ⟨Nat.le_of_ble_eq_true rfl, Nat.le_of_ble_eq_true rfl⟩) hS (fun q h1 h2 => sp_Alt h1 h2) (sp_Ale hS.1) (fun H locs hP hle hfr hS => ?_)
                refine W.eq (g2 := F0 m 109 ls [.int (m_there ((sp_st μ 0 0 0) 1) n t k ((nI i) / 20) ((nI i) - (nI i) / 20 * 20)), .int (1000)]) rfl ?_
                refine W.eq (g2 := F0 m 109 ls [.int (m_there (μ 1) n t k ((nI i) / 20) ((nI i) - (nI i) / 20 * 20)), .int (1000)]) (by rw [st0_1 μ 0 0]) ?_
                refine lv_imul hx hb dX10_suggestCell_109 ?_
                refine lv_aload_n hx hb dX10_suggestCell_110 rfl (lv_at hl 6 rfl) ?_
                refine lv_iload_n hx hb dX10_suggestCell_111 rfl (lv_at hl 5 rfl) ?_
                refine lv_iload hx hb dX10_suggestCell_112 (lv_at hl 1 rfl) ?_
                refine lv_iload hx hb dX10_suggestCell_114 (lv_at hl 0 rfl) ?_
                refine sp_call (W.runV (As := [.int (nI k), .int ((nI i) / 20), .int ((nI i) - (nI i) / 20 * 20)]) (rest := [.int (1000 * (m_there (μ 1) n t k ((nI i) / 20) ((nI i) - (nI i) / 20 * 20)))]) ⟨hx, hb, hml, hown, hts⟩ (c_X10_distance l D am cy (sp_st μ 0 0 0) n t (by first | exact hM | exact hi_0 | (repeat first | exact hM | exact hi_0 | refine MS.st0 ?_ | refine MS.st ?_ (by omega))) k (by omega) ((nI i) / 20) ((nI i) - (nI i) / 20 * 20)) (cwV 3 hts gX10_suggestCell_X10_distance rfl rfl rfl (by decide +kernel) ⟨Nat.le_of_ble_eq_true rfl, Nat.le_of_ble_eq_true rfl⟩) (sp_preV hK hP (κ := 0) (by decide) mE_0 rfl) rfl rfl hl.1 rfl (lv_room (Nat.le_of_ble_eq_true rfl)) dX10_suggestCell_116 ⟨Nat.le_of_ble_eq_true rfl, Nat.le_of_ble_eq_true rfl⟩) ?_
                refine W.eq (g2 := F0 m 119 ls [.int (m_dist ((sp_st μ 0 0 0) 1) k ((nI i) / 20) ((nI i) - (nI i) / 20 * 20)), .int (1000 * (m_there (μ 1) n t k ((nI i) / 20) ((nI i) - (nI i) / 20 * 20)))]) rfl ?_
                refine W.eq (g2 := F0 m 119 ls [.int (m_dist (μ 1) k ((nI i) / 20) ((nI i) - (nI i) / 20 * 20)), .int (1000 * (m_there (μ 1) n t k ((nI i) / 20) ((nI i) - (nI i) / 20 * 20)))]) (by rw [st0_1 μ 0 0]) ?_
                refine lv_iadd hx hb dX10_suggestCell_119 ?_
                refine lv_istore (lv' := [(8, .int ((1000 * (m_there (μ 1) n t k ((nI i) / 20) ((nI i) - (nI i) / 20 * 20))) + (m_dist (μ 1) k ((nI i) / 20) ((nI i) - (nI i) / 20 * 20)))), (7, .int ((nI i) - (nI i) / 20 * 20)), (6, .int ((nI i) / 20)), (5, .int (nI i)), (4, .int (w)), (3, .int (y)), (2, .int (nI k)), (0, .ref (am (0))), (1, .int (x))]) hx hb dX10_suggestCell_120 hl (by decide) rfl (fun ls hl => ?_)
                refine lv_iload hx hb dX10_suggestCell_122 (lv_at hl 0 rfl) ?_
                refine lv_iload hx hb dX10_suggestCell_124 (lv_at hl 4 rfl) ?_
                refine lv_icmp_ge (tgt := 134) hx hb dX10_suggestCell_126 (by decide) (fun c_8 => ?_) (fun c_8 => ?_)
                · skip
                  have c_8d := Int32.not_lt.mpr c_8
                  refine lv_iload_n hx hb dX10_suggestCell_134 rfl (lv_at hl 5 rfl) ?_
                  refine lv_istore_n (lv' := [(3, .int (y)), (8, .int ((1000 * (m_there (μ 1) n t k ((nI i) / 20) ((nI i) - (nI i) / 20 * 20))) + (m_dist (μ 1) k ((nI i) / 20) ((nI i) - (nI i) / 20 * 20)))), (7, .int ((nI i) - (nI i) / 20 * 20)), (6, .int ((nI i) / 20)), (5, .int (nI i)), (4, .int (w)), (2, .int (nI k)), (0, .ref (am (0))), (1, .int (x))]) hx hb dX10_suggestCell_135 rfl hl (by decide) rfl (fun ls hl => ?_)
                  refine lv_iload hx hb dX10_suggestCell_136 (lv_at hl 1 rfl) ?_
                  refine lv_iload hx hb dX10_suggestCell_138 (lv_at hl 5 rfl) ?_
                  refine lv_icmp_ge (tgt := 148) hx hb dX10_suggestCell_140 (by decide) (fun c_9 => ?_) (fun c_9 => ?_)
                  · skip
                    have c_9d := Int32.not_lt.mpr c_9
                    refine lv_iload hx hb dX10_suggestCell_148 (lv_at hl 5 rfl) ?_
                    refine lv_istore (lv' := [(4, .int (w)), (3, .int (y)), (8, .int ((1000 * (m_there (μ 1) n t k ((nI i) / 20) ((nI i) - (nI i) / 20 * 20))) + (m_dist (μ 1) k ((nI i) / 20) ((nI i) - (nI i) / 20 * 20)))), (7, .int ((nI i) - (nI i) / 20 * 20)), (6, .int ((nI i) / 20)), (5, .int (nI i)), (2, .int (nI k)), (0, .ref (am (0))), (1, .int (x))]) hx hb dX10_suggestCell_150 hl (by decide) rfl (fun ls hl => ?_)
                    refine lv_iinc (v := nI (i + 1)) (lv' := [(5, .int (nI (i + 1))), (4, .int (w)), (3, .int (y)), (8, .int ((1000 * (m_there (μ 1) n t k ((nI i) / 20) ((nI i) - (nI i) / 20 * 20))) + (m_dist (μ 1) k ((nI i) / 20) ((nI i) - (nI i) / 20 * 20)))), (7, .int ((nI i) - (nI i) / 20 * 20)), (6, .int ((nI i) / 20)), (2, .int (nI k)), (0, .ref (am (0))), (1, .int (x))]) hx hb dX10_suggestCell_152 hl (k := 5) rfl (nI_1 _) (by decide) rfl (fun ls hl => ?_)
                    refine lv_goto (tgt := 60) hx hb dX10_suggestCell_155 (by decide) ?_
                    exact ih (i + 1) y w  _ _ (by omega) (by omega) (by rw [foldI_succ, ← hi_0]; simp [S_sug, b2i, q_1, c_4, c_4d, c_7, c_8, c_8d, c_9, c_9d]) ((show mW am cy ((sp_st μ 0 0 0)) = mW am cy (sp_st μ 0 0 0) from (by rfl)) ▸ hP) hS ls (lv_sub hl [0, 1, 2, 6, 7, 8] rfl)
                  · exact absurd c_8 c_9
                · skip
                  have c_8d := Int32.not_le.mp c_8
                  refine lv_iload hx hb dX10_suggestCell_129 (lv_at hl 3 rfl) ?_
                  refine lv_goto (tgt := 135) hx hb dX10_suggestCell_131 (by decide) ?_
                  refine lv_istore_n (lv' := [(3, .int (nI i)), (8, .int ((1000 * (m_there (μ 1) n t k ((nI i) / 20) ((nI i) - (nI i) / 20 * 20))) + (m_dist (μ 1) k ((nI i) / 20) ((nI i) - (nI i) / 20 * 20)))), (7, .int ((nI i) - (nI i) / 20 * 20)), (6, .int ((nI i) / 20)), (5, .int (nI i)), (4, .int (w)), (2, .int (nI k)), (0, .ref (am (0))), (1, .int (x))]) hx hb dX10_suggestCell_135 rfl hl (by decide) rfl (fun ls hl => ?_)
                  refine lv_iload hx hb dX10_suggestCell_136 (lv_at hl 1 rfl) ?_
                  refine lv_iload hx hb dX10_suggestCell_138 (lv_at hl 5 rfl) ?_
                  refine lv_icmp_ge (tgt := 148) hx hb dX10_suggestCell_140 (by decide) (fun c_10 => ?_) (fun c_10 => ?_)
                  · exact absurd c_10 c_8
                  · skip
                    have c_10d := Int32.not_le.mp c_10
                    refine lv_iload hx hb dX10_suggestCell_143 (lv_at hl 1 rfl) ?_
                    refine lv_goto (tgt := 150) hx hb dX10_suggestCell_145 (by decide) ?_
                    refine lv_istore (lv' := [(4, .int ((1000 * (m_there (μ 1) n t k ((nI i) / 20) ((nI i) - (nI i) / 20 * 20))) + (m_dist (μ 1) k ((nI i) / 20) ((nI i) - (nI i) / 20 * 20)))), (3, .int (nI i)), (8, .int ((1000 * (m_there (μ 1) n t k ((nI i) / 20) ((nI i) - (nI i) / 20 * 20))) + (m_dist (μ 1) k ((nI i) / 20) ((nI i) - (nI i) / 20 * 20)))), (7, .int ((nI i) - (nI i) / 20 * 20)), (6, .int ((nI i) / 20)), (5, .int (nI i)), (2, .int (nI k)), (0, .ref (am (0))), (1, .int (x))]) hx hb dX10_suggestCell_150 hl (by decide) rfl (fun ls hl => ?_)
                    refine lv_iinc (v := nI (i + 1)) (lv' := [(5, .int (nI (i + 1))), (4, .int ((1000 * (m_there (μ 1) n t k ((nI i) / 20) ((nI i) - (nI i) / 20 * 20))) + (m_dist (μ 1) k ((nI i) / 20) ((nI i) - (nI i) / 20 * 20)))), (3, .int (nI i)), (8, .int ((1000 * (m_there (μ 1) n t k ((nI i) / 20) ((nI i) - (nI i) / 20 * 20))) + (m_dist (μ 1) k ((nI i) / 20) ((nI i) - (nI i) / 20 * 20)))), (7, .int ((nI i) - (nI i) / 20 * 20)), (6, .int ((nI i) / 20)), (2, .int (nI k)), (0, .ref (am (0))), (1, .int (x))]) hx hb dX10_suggestCell_152 hl (k := 5) rfl (nI_1 _) (by decide) rfl (fun ls hl => ?_)
                    refine lv_goto (tgt := 60) hx hb dX10_suggestCell_155 (by decide) ?_
                    exact ih (i + 1) (nI i) ((1000 * (m_there (μ 1) n t k ((nI i) / 20) ((nI i) - (nI i) / 20 * 20))) + (m_dist (μ 1) k ((nI i) / 20) ((nI i) - (nI i) / 20 * 20)))  _ _ (by omega) (by omega) (by rw [foldI_succ, ← hi_0]; simp [S_sug, b2i, q_1, c_4, c_4d, c_7, c_8, c_8d, c_10, c_10d]) ((show mW am cy ((sp_st μ 0 0 0)) = mW am cy (sp_st μ 0 0 0) from (by rfl)) ▸ hP) hS ls (lv_sub hl [0, 1, 2, 6, 7, 8] rfl)
              · rw [b2i_eq0] at c_7
                refine lv_goto (tgt := 152) hx hb dX10_suggestCell_94 (by decide) ?_
                refine lv_iinc (v := nI (i + 1)) (lv' := [(5, .int (nI (i + 1))), (7, .int ((nI i) - (nI i) / 20 * 20)), (6, .int ((nI i) / 20)), (4, .int (w)), (3, .int (y)), (2, .int (nI k)), (0, .ref (am (0))), (1, .int (x))]) hx hb dX10_suggestCell_152 hl (k := 2) rfl (nI_1 _) (by decide) rfl (fun ls hl => ?_)
                refine lv_goto (tgt := 60) hx hb dX10_suggestCell_155 (by decide) ?_
                exact ih (i + 1) y w  _ _ (by omega) (by omega) (by rw [foldI_succ, ← hi_0]; simp [S_sug, b2i, q_1, c_4, c_4d, c_7]) hP hS ls (lv_sub hl [0, 3, 4, 5, 6, 7] rfl)
        exact loop_60 (200 + 1) (0) (20 * gP (μ 1) k 3 + gP (μ 1) k 4) (1000 * m_errs (μ 1) n t (gP (μ 1) k 1))  _ _ (by omega) (by omega) (rfl) hP hS ls (lv_sub hl [0, 1, 2, 3, 4, 5] rfl)
      · exact absurd c_5 (by decide)

theorem wi_X10_sign_X10 : ∀ w ∈ wsX100, w ∈ wsX10_sign := by decide +kernel
set_option maxHeartbeats 4000000 in
set_option maxRecDepth 100000 in
theorem c_X10_sign (l : Launch) (D : va_G) (am : Nat → Nat) (cy : Nat → ClassId) (μ : Nat → Nat → Int32) (hty : MI μ) : Met l yX10_sign wsX10_sign ({ frames := 0, cells := 0, slots := 0, locals := 0 } : Room) (sp_Pc D (tyG cy) [.ref (am (0))] (mW am cy μ)) (sp_S (some (.int (m_sign μ)))) 0 0 (fun _ => False) := by
  refine Met.ofW (cc := cX10_sign) (maxL := 1) (ret := (some .int)) (by decide) rfl ?_
  intro p e s m args below meth c s₁ B hml hv
  obtain ⟨rfl, hP, hK⟩ := hv
  have hx := B.exec
  have hb := B.bytes
  have hr := B.returns
  have hts := atoms_spec (ws := wsX10_sign) B.pre
  have hown : s.vm.findClass RX10 = some m.cls := findClass_of_methodNamed B.named
  have hlocks := B.notSynchronized
  have hh0 := hty.1
  have hl := lv_entry ([.ref (am (0))]) (n := 1) (Nat.le_of_ble_eq_true rfl)
  refine W.eq (lg_entry_eq _ ([.ref (am (0))]) _) ?_
  generalize (lg_sl ([.ref (am (0))]) ++ List.replicate (1 - (lg_sl ([.ref (am (0))])).length) Slot.unset).toArray = ls at hl ⊢
  have hl : lv_has ls 1 [(0, .ref (am (0)))] := hl
  refine lv_aload_n hx hb dX10_sign_0 rfl (lv_at hl 0 rfl) ?_
  refine sp_get hx hb hts wi_X10_sign_X10 hown hK hP (κ := 0) (by decide) mE_0 rfl 13 (by decide) (hts _ (List.mem_of_getElem? (i := 1) rfl)) (fun _ h => h) rfl dX10_sign_1 ?_
  refine lv_aload_n hx hb dX10_sign_4 rfl (lv_at hl 0 rfl) ?_
  refine sp_get hx hb hts wi_X10_sign_X10 hown hK hP (κ := 0) (by decide) mE_0 rfl 12 (by decide) (hts _ (List.mem_of_getElem? (i := 2) rfl)) (fun _ h => h) rfl dX10_sign_5 ?_
  refine lv_icmp_ge (tgt := 23) hx hb dX10_sign_8 (by decide) (fun c_1 => ?_) (fun c_1 => ?_)
  · skip
    have c_1d := Int32.not_lt.mpr c_1
    refine lv_iconst (v := (-1)) hx hb dX10_sign_23 (by decide) ?_
    exact W.iret (v := (-1)) hx hb hr (fun T9 hT9 _ => ⟨congrArg (fun z9 => Outcome.returned (some (Value.int z9))) (show ((-1) : Int32) = m_sign μ from (by first | rfl | (simp [m_sign, b2i, c_1, c_1d]; done))), hT9⟩) (fun _ h => by cases h) dX10_sign_24
  · skip
    have c_1d := Int32.not_le.mp c_1
    have hh60 : tn (μ 0 13) < 60 := m_here_lt hty c_1d
    refine lv_aload_n hx hb dX10_sign_11 rfl (lv_at hl 0 rfl) ?_
    refine sp_get hx hb hts wi_X10_sign_X10 hown hK hP (κ := 0) (by decide) mE_0 rfl 11 (by decide) (hts _ (List.mem_of_getElem? (i := 3) rfl)) (fun _ h => h) rfl dX10_sign_12 ?_
    refine lv_aload_n hx hb dX10_sign_15 rfl (lv_at hl 0 rfl) ?_
    refine sp_get hx hb hts wi_X10_sign_X10 hown hK hP (κ := 0) (by decide) mE_0 rfl 13 (by decide) (hts _ (List.mem_of_getElem? (i := 1) rfl)) (fun _ h => h) rfl dX10_sign_16 ?_
    refine sp_cald hx hb hK hP (κ := 3) (by decide) 0 mE_3 rfl (tn (μ 0 13)) (nI_tn hh0).symm (by omega) (by decide) dX10_sign_19 ?_
    refine lv_goto (tgt := 24) hx hb dX10_sign_20 (by decide) ?_
    exact W.iret (v := cz (μ 3 (tn (μ 0 13)))) hx hb hr (fun T9 hT9 _ => ⟨congrArg (fun z9 => Outcome.returned (some (Value.int z9))) (show (cz (μ 3 (tn (μ 0 13))) : Int32) = m_sign μ from (by first | rfl | (simp [m_sign, b2i, c_1, c_1d]; done))), hT9⟩) (fun _ h => by cases h) dX10_sign_24

