/-! what the class's writing methods leave -/
def f_cpT (σ : Nat → Nat → Int32) (a b n : Nat) : Nat → Nat → Int32 := fun k => if 39 * a + 3 ≤ k ∧ k < 39 * a + 3 + n then σ (39 * b + (k - 39 * a)) else σ k
theorem f_cpT_0 (σ : Nat → Nat → Int32) (a b : Nat) : f_cpT σ a b 0 = σ := by
  funext k; unfold f_cpT; rw [if_neg (by omega)]
theorem f_cpT_1 {σ : Nat → Nat → Int32} {a b i x y : Nat} (hab : a ≠ b) (hi : i < 36) (hx : x = 39 * a + 3 + i) (hy : y = 39 * b + 3 + i) : sp_up (f_cpT σ a b i) x (f_cpT σ a b i y) = f_cpT σ a b (i + 1) := by
  subst hx; subst hy
  funext k
  unfold sp_up f_cpT
  by_cases h : k = 39 * a + 3 + i
  · subst h
    rw [if_pos rfl, if_neg (by omega), if_pos (by omega)]
    congr 1
    omega
  · rw [if_neg h]
    by_cases h2 : 39 * a + 3 ≤ k ∧ k < 39 * a + 3 + i
    · rw [if_pos h2, if_pos (by omega)]
    · rw [if_neg h2, if_neg (by omega)]
theorem f_cpT_s {σ : Nat → Nat → Int32} {a b i : Nat} (hab : a ≠ b) (hi : i < 6) : sp_up (f_cpT σ a b i) (39 * a + 3 + i) (f_cpT σ a b i (39 * b + 3 + i)) = f_cpT σ a b (i + 1) := f_cpT_1 hab (by omega) rfl rfl
theorem f_cpT_p {σ : Nat → Nat → Int32} {a b i : Nat} (hab : a ≠ b) (hi : i < 30) : sp_up (f_cpT σ a b (6 + i)) (39 * a + 9 + i) (f_cpT σ a b (6 + i) (39 * b + 9 + i)) = f_cpT σ a b (6 + (i + 1)) := f_cpT_1 (i := 6 + i) hab (by omega) (by omega) (by omega)
/-- beach a becomes a copy of beach b -/
def f_copyB (σ : Nat → Nat → Int32) (a b : Nat) : Nat → Nat → Int32 := fun k => if 39 * a ≤ k ∧ k < 39 * a + 39 then σ (39 * b + (k - 39 * a)) else σ k
theorem f_copyB_out (σ : Nat → Nat → Int32) (a b k : Nat) (h : k < 39 * a ∨ 39 * a + 39 ≤ k) : f_copyB σ a b k = σ k := by unfold f_copyB; rw [if_neg (by omega)]
theorem copyB_world {ad : Nat → Nat} {cy : Nat → ClassId} {pm : Nat → Nat} {rj : Option Nat} {σ : Nat → Nat → Int32} {a b : Nat} (ha : a < 11) (hb : b < 11) (hab : a ≠ b) : cW ad cy pm rj (sp_st (sp_st (sp_st (sp_st (sp_st (f_cpT σ a b 36) (39 * a) 2 (f_cpT σ a b 36 (39 * b) 2)) (39 * a) 3 (f_cpT σ a b 36 (39 * b) 3)) (39 * a) 4 (f_cpT σ a b 36 (39 * b) 4)) (39 * a) 5 (f_cpT σ a b 36 (39 * b) 5)) (39 * a) 6 (f_cpT σ a b 36 (39 * b) 6)) = cW ad cy pm rj (f_copyB σ a b) := by
  have hB : f_cpT σ a b 36 (39 * b) = σ (39 * b) := by unfold f_cpT; rw [if_neg (by omega)]
  rw [hB]
  simp only [sp_st_up, sp_up_up, sp_up_same]
  refine sp_W_congr fun k _ => ?_
  by_cases hk : k = 39 * a
  · subst hk
    rw [sp_up_same, cE_beach (by omega) (by omega), cE_beach (by omega) (by omega)]
    unfold f_copyB
    rw [if_pos (by omega)]
    simp [upd]
  · rw [sp_up_ne _ _ hk]
    by_cases h2 : 39 * a + 3 ≤ k ∧ k < 39 * a + 3 + 36
    · have h4 : f_cpT σ a b 36 k = f_copyB σ a b k := by unfold f_cpT f_copyB; rw [if_pos h2, if_pos (by omega)]
      rw [h4]
    · by_cases h3 : 39 * a ≤ k ∧ k < 39 * a + 39
      · rcases (show k = 39 * a + 1 ∨ k = 39 * a + 2 by omega) with h5 | h5
        · rw [cE_tracks (by omega) (by omega), cE_tracks (by omega) (by omega)]
        · rw [cE_prints (by omega) (by omega), cE_prints (by omega) (by omega)]
      · have h4 : f_cpT σ a b 36 k = f_copyB σ a b k := by unfold f_cpT f_copyB; rw [if_neg h2, if_neg h3]
        rw [h4]
def P_freeT (σ : Nat → Nat → Int32) (i : Nat) : Bool := σ (3 + i) 0 == 0
def f_freeT (σ : Nat → Nat → Int32) : Option Nat := fstI (P_freeT σ) 6
def f_putT (σ : Nat → Nat → Int32) (z : Int32) : Nat → Nat → Int32 := match f_freeT σ with
  | none => σ
  | some i => sp_st (sp_st (sp_st (sp_st σ (3 + i) 0 1) (3 + i) 1 (σ 0 3)) (3 + i) 2 z) 0 3 (σ 0 3 + 1)
def f_putTv (σ : Nat → Nat → Int32) : Int32 := match f_freeT σ with
  | none => -1
  | some _ => σ 0 3
def P_freeP (σ : Nat → Nat → Int32) (i : Nat) : Bool := σ (9 + i) 0 == 0
def f_freeP (σ : Nat → Nat → Int32) : Option Nat := fstI (P_freeP σ) 30
def f_putP (σ : Nat → Nat → Int32) (t u r c1 : Int32) (lf : Bool) (z : Int32) : Nat → Nat → Int32 := match f_freeP σ with
  | none => σ
  | some i => sp_st (sp_st (sp_st (sp_st (sp_st (sp_st (sp_st (sp_st (sp_st (sp_st (sp_st σ (9 + i) 0 1) (9 + i) 1 (σ 0 4)) (9 + i) 2 t) (9 + i) 3 u) (9 + i) 4 r) (9 + i) 5 c1) (9 + i) 6 (b2i lf)) (9 + i) 7 z) (9 + i) 8 0) (9 + i) 9 (b2i (decide (0 < f_countPrintsBetween σ t u 1000)))) 0 4 (σ 0 4 + 1)
def f_putPv (σ : Nat → Nat → Int32) : Int32 := match f_freeP σ with
  | none => -1
  | some _ => σ 0 4
theorem f_putPv_none {σ : Nat → Nat → Int32} (h : f_freeP σ = none) : f_putPv σ = -1 := by unfold f_putPv; rw [h]
theorem f_putPv_some {σ : Nat → Nat → Int32} {i : Nat} (h : f_freeP σ = some i) : f_putPv σ = σ 0 4 := by unfold f_putPv; rw [h]
theorem f_putP_none {σ : Nat → Nat → Int32} {t u r c1 z : Int32} {lf : Bool} (h : f_freeP σ = none) : f_putP σ t u r c1 lf z = σ := by unfold f_putP; rw [h]
theorem f_putP_some {σ : Nat → Nat → Int32} {t u r c1 z w : Int32} {lf : Bool} {i : Nat} (h : f_freeP σ = some i) (hl : b2i (decide (0 < f_countPrintsBetween σ t u 1000)) = w) : f_putP σ t u r c1 lf z = sp_st (sp_st (sp_st (sp_st (sp_st (sp_st (sp_st (sp_st (sp_st (sp_st (sp_st σ (9 + i) 0 1) (9 + i) 1 (σ 0 4)) (9 + i) 2 t) (9 + i) 3 u) (9 + i) 4 r) (9 + i) 5 c1) (9 + i) 6 (b2i lf)) (9 + i) 7 z) (9 + i) 8 0) (9 + i) 9 w) 0 4 (σ 0 4 + 1) := by unfold f_putP; rw [h, hl]
/-- the prints of a track, the first i places, are dropped -/
def f_dropP (σ : Nat → Nat → Int32) (t : Int32) (i : Nat) : Nat → Nat → Int32 := fun k j => if 9 ≤ k ∧ k < 9 + i ∧ j = 0 ∧ f_isOn σ k t = true then 0 else σ k j
def F_onT (σ : Nat → Nat → Int32) (t : Int32) (i : Nat) : Int32 := b2i (f_isOn σ (9 + i) t)
def f_dropTv (σ : Nat → Nat → Int32) (k : Nat) : Int32 := sumI (F_onT σ (σ (3 + k) 1)) 30
theorem f_dropP_0 (σ : Nat → Nat → Int32) (t : Int32) : f_dropP σ t 0 = σ := by funext k j; unfold f_dropP; rw [if_neg (by omega)]
theorem f_dropP_j (σ : Nat → Nat → Int32) (t : Int32) (i k : Nat) {j : Nat} (h : j ≠ 0) : f_dropP σ t i k j = σ k j := by unfold f_dropP; rw [if_neg (fun z => h z.2.2.1)]
theorem f_dropP_at {σ : Nat → Nat → Int32} {t : Int32} {i j : Nat} : f_dropP σ t i (9 + i) j = σ (9 + i) j := by unfold f_dropP; rw [if_neg (by omega)]
theorem f_isOn_drop {σ : Nat → Nat → Int32} {t t2 : Int32} {i : Nat} : f_isOn (f_dropP σ t i) (9 + i) t2 = f_isOn σ (9 + i) t2 := by unfold f_isOn; rw [f_dropP_at, f_dropP_at]
theorem f_dropP_y {σ : Nat → Nat → Int32} {t : Int32} {i : Nat} (h : ¬ f_isOn σ (9 + i) t = false) : sp_st (f_dropP σ t i) (9 + i) 0 0 = f_dropP σ t (i + 1) := by
  have h2 : f_isOn σ (9 + i) t = true := by simpa using h
  funext k j
  rw [sp_st_at]
  by_cases hk : k = 9 + i ∧ j = 0
  · rw [if_pos hk]; unfold f_dropP; rw [if_pos ⟨by omega, by omega, hk.2, by rw [hk.1]; exact h2⟩]
  · rw [if_neg hk]; unfold f_dropP
    by_cases h3 : 9 ≤ k ∧ k < 9 + i ∧ j = 0 ∧ f_isOn σ k t = true
    · rw [if_pos h3, if_pos ⟨h3.1, by omega, h3.2.2⟩]
    · rw [if_neg h3, if_neg (fun z => h3 ⟨z.1, by have := z.2.1; have := z.2.2.1; omega, z.2.2⟩)]
theorem f_dropP_n {σ : Nat → Nat → Int32} {t : Int32} {i : Nat} (h : f_isOn σ (9 + i) t = false) : f_dropP σ t i = f_dropP σ t (i + 1) := by
  funext k j
  unfold f_dropP
  by_cases h3 : 9 ≤ k ∧ k < 9 + i ∧ j = 0 ∧ f_isOn σ k t = true
  · rw [if_pos h3, if_pos ⟨h3.1, by omega, h3.2.2⟩]
  · rw [if_neg h3, if_neg (fun z => by
      by_cases hk : k = 9 + i
      · rw [hk] at z; rw [h] at z; exact absurd z.2.2.2 (by decide)
      · exact h3 ⟨z.1, by have := z.2.1; omega, z.2.2⟩)]
/-- the tide's level is v, and the prints under water, the first i places, are erased -/
def f_tideP (σ : Nat → Nat → Int32) (v : Int32) (i : Nat) : Nat → Nat → Int32 := fun k j => if 9 ≤ k ∧ k < 9 + i ∧ j = 0 ∧ σ k 4 < v then 0 else sp_st σ 0 2 v k j
def F_below (σ : Nat → Nat → Int32) (v : Int32) (i : Nat) : Int32 := b2i (σ (9 + i) 0 != 0 && decide (σ (9 + i) 4 < v))
def f_below (σ : Nat → Nat → Int32) (v : Int32) : Int32 := sumI (F_below σ v) 30
theorem f_tideP_0 (σ : Nat → Nat → Int32) (v : Int32) : f_tideP σ v 0 = sp_st σ 0 2 v := by funext k j; unfold f_tideP; rw [if_neg (by omega)]
theorem f_tideP_j (σ : Nat → Nat → Int32) (v : Int32) (i k : Nat) {j : Nat} (h : j ≠ 0) (h2 : j ≠ 2) : f_tideP σ v i k j = σ k j := by unfold f_tideP; rw [if_neg (fun z => h z.2.2.1), sp_st_j _ _ _ _ _ _ h2]
theorem f_tideP_at {σ : Nat → Nat → Int32} {v : Int32} {i j : Nat} : f_tideP σ v i (9 + i) j = σ (9 + i) j := by unfold f_tideP; rw [if_neg (by omega), sp_st_k _ _ _ _ _ _ (by omega)]
theorem f_under_tide {σ : Nat → Nat → Int32} {v r : Int32} {i : Nat} : f_under (f_tideP σ v i) r = decide (r < v) := by
  unfold f_under
  have h : f_tideP σ v i 0 2 = v := by unfold f_tideP; rw [if_neg (by omega), sp_st_s]
  rw [h]
theorem f_tideP_y {σ : Nat → Nat → Int32} {v : Int32} {i : Nat} (h : σ (9 + i) 4 < v) : sp_st (f_tideP σ v i) (9 + i) 0 0 = f_tideP σ v (i + 1) := by
  funext k j
  rw [sp_st_at]
  by_cases hk : k = 9 + i ∧ j = 0
  · rw [if_pos hk]; unfold f_tideP; rw [if_pos ⟨by omega, by omega, hk.2, by rw [hk.1]; exact h⟩]
  · rw [if_neg hk]; unfold f_tideP
    by_cases h3 : 9 ≤ k ∧ k < 9 + i ∧ j = 0 ∧ σ k 4 < v
    · rw [if_pos h3, if_pos ⟨h3.1, by omega, h3.2.2⟩]
    · rw [if_neg h3, if_neg (fun z => h3 ⟨z.1, by have := z.2.1; have := z.2.2.1; omega, z.2.2⟩)]
theorem f_tideP_n {σ : Nat → Nat → Int32} {v : Int32} {i : Nat} (h : σ (9 + i) 0 = 0 ∨ ¬ σ (9 + i) 4 < v) : f_tideP σ v i = f_tideP σ v (i + 1) := by
  funext k j
  unfold f_tideP
  by_cases h3 : 9 ≤ k ∧ k < 9 + i ∧ j = 0 ∧ σ k 4 < v
  · rw [if_pos h3, if_pos ⟨h3.1, by omega, h3.2.2⟩]
  · rw [if_neg h3]
    by_cases h4 : 9 ≤ k ∧ k < 9 + (i + 1) ∧ j = 0 ∧ σ k 4 < v
    · rw [if_pos h4]
      have hk : k = 9 + i := by
        by_cases hk : k = 9 + i
        · exact hk
        · exact absurd ⟨h4.1, by have := h4.2.1; omega, h4.2.2⟩ h3
      subst hk
      rcases h with h | h
      · rw [h4.2.2.1, sp_st_j _ _ _ _ _ _ (by decide), h]
      · exact absurd h4.2.2.2 h
    · rw [if_neg h4]
def pm_push (pm : Nat → Nat) : Nat → Nat := fun x => if x = 0 then pm 7 else if x < 8 then pm (x - 1) else pm x
def pm_pop (pm : Nat → Nat) : Nat → Nat := fun x => if x = 7 then pm 0 else if x < 7 then pm (x + 1) else pm x
theorem cW_eq {ad : Nat → Nat} {cy : Nat → ClassId} {pm pm2 : Nat → Nat} {rj : Option Nat} {σ σ2 : Nat → Nat → Int32} (h : pm = pm2) (h2 : σ = σ2) : cW ad cy pm rj σ = cW ad cy pm2 rj σ2 := by rw [h, h2]
theorem pm_push_eq (pm : Nat → Nat) : pmu (pmu (pmu (pmu (pmu (pmu (pmu (pmu pm 7 (pm 6)) 6 (pm 5)) 5 (pm 4)) 4 (pm 3)) 3 (pm 2)) 2 (pm 1)) 1 (pm 0)) 0 (pm 7) = pm_push pm := by
  funext x
  match x with
  | 0 => rfl
  | 1 => rfl
  | 2 => rfl
  | 3 => rfl
  | 4 => rfl
  | 5 => rfl
  | 6 => rfl
  | 7 => rfl
  | n + 8 => simp [pmu, pm_push]; intro h; omega
theorem wi_X3_copyFrom_X3 : ∀ w ∈ wsX30, w ∈ wsX3_copyFrom := by decide +kernel
set_option maxHeartbeats 4000000 in
set_option maxRecDepth 100000 in
theorem c_X3_copyFrom (l : Launch) (D : va_G) (ad : Nat → Nat) (cy : Nat → ClassId) (pm : Nat → Nat) (rj : Option Nat) (σ : Nat → Nat → Int32) (sz : Nat) (hi : sp_inj ad 459) (κ : Nat) (hκ : κ < 429) (hκ2 : 9 ≤ κ % 39) (κ2 : Nat) (hκ3 : κ2 < 429) (hκ4 : 9 ≤ κ2 % 39) : Met l yX3_copyFrom wsX3_copyFrom ({ frames := 0, cells := 0, slots := 0, locals := 0 } : Room) (sp_Pm D (tyG cy) sz [.ref (ad (κ)), .ref (ad (κ2))] (cW ad cy pm rj σ)) (sp_Q D (none) (cW ad cy (pm) (rj) (sp_up σ κ (σ κ2))) (sp_A ad 459 sz)) 0 0 (sp_A ad 459 sz) := by
  refine Met.ofW (cc := cX3_copyFrom) (maxL := 2) (ret := none) (by decide) rfl ?_
  intro p e s m args below meth c s₁ B hml hv
  obtain ⟨rfl, hsz, hP, hK⟩ := hv
  have hx := B.exec
  have hb := B.bytes
  have hr := B.returns
  have hts := atoms_spec (ws := wsX3_copyFrom) B.pre
  have hown : s.vm.findClass RX3 = some m.cls := findClass_of_methodNamed B.named
  have hlocks := B.notSynchronized
  subst hsz
  have hS : va_S (sp_A ad 459 s.heap.size) s.heap s.heap [] := va_S.rf
  have hAk : ∀ k, k < 459 → (sp_A ad 459 s.heap.size) (ad k) := fun k hk => Or.inl ⟨k, hk, rfl⟩
  skip
  have hl := lv_entry ([.ref (ad (κ)), .ref (ad (κ2))]) (n := 2) (Nat.le_of_ble_eq_true rfl)
  refine W.eq (lg_entry_eq _ ([.ref (ad (κ)), .ref (ad (κ2))]) _) ?_
  generalize (lg_sl ([.ref (ad (κ)), .ref (ad (κ2))]) ++ List.replicate (2 - (lg_sl ([.ref (ad (κ)), .ref (ad (κ2))])).length) Slot.unset).toArray = ls at hl ⊢
  have hl : lv_has ls 2 [(0, .ref (ad (κ))), (1, .ref (ad (κ2)))] := hl
  refine lv_aload_n hx hb dX3_copyFrom_0 rfl (lv_at hl 0 rfl) ?_
  refine lv_aload_n hx hb dX3_copyFrom_1 rfl (lv_at hl 1 rfl) ?_
  refine sp_get hx hb hts wi_X3_copyFrom_X3 hown hK hP (κ := κ2) (by omega) (cE_print (by omega) (by omega)) rfl 0 (by decide) (hts _ (List.mem_of_getElem? (i := 1) rfl)) (fun _ h => h) rfl dX3_copyFrom_2 ?_
  refine sp_put hx hb hts wi_X3_copyFrom_X3 tyX3 tyX3_ok nmX3 hown hK hP hi hAk hS (κ := κ) (by omega) (cE_print (by omega) (by omega)) rfl 0 (by decide) (hts _ (List.mem_of_getElem? (i := 1) rfl)) (fun _ h => h) rfl (ty := tyX3 0) (by decide +kernel) (nz_of (bz_bz _)) (Nat.le_of_ble_eq_true rfl) (r1 := upd (σ κ) 0 (bz (σ κ2 0))) (cE_of (cE_print (by omega) (by omega)) (by simp [upd, (bz_bz _)])) dX3_copyFrom_5 (fun H locs hP hS => ?_)
  have hP : va_P D vwCl (cW ad cy pm rj (sp_st σ κ 0 (bz (σ κ2 0)))) H := hP
  refine lv_aload_n hx hb dX3_copyFrom_8 rfl (lv_at hl 0 rfl) ?_
  refine lv_aload_n hx hb dX3_copyFrom_9 rfl (lv_at hl 1 rfl) ?_
  refine sp_get hx hb hts wi_X3_copyFrom_X3 hown hK hP (κ := κ2) (by omega) (cE_print (by omega) (by omega)) rfl 1 (by decide) (hts _ (List.mem_of_getElem? (i := 2) rfl)) (fun _ h => h) rfl dX3_copyFrom_10 ?_
  refine W.eq (g2 := F0 m 13 ls [.int (σ κ2 1), .ref (ad (κ))]) (by rw [sp_st_j _ _ _ _ _ _ (by decide)]) ?_
  refine sp_put hx hb hts wi_X3_copyFrom_X3 tyX3 tyX3_ok nmX3 hown hK hP hi hAk hS (κ := κ) (by omega) (cE_print (by omega) (by omega)) rfl 1 (by decide) (hts _ (List.mem_of_getElem? (i := 2) rfl)) (fun _ h => h) rfl (ty := tyX3 1) (by decide +kernel) ⟨rfl, rfl⟩ (Nat.le_of_ble_eq_true rfl) (r1 := upd ((sp_st σ κ 0 (bz (σ κ2 0))) κ) 1 (σ κ2 1)) (cE_of (cE_print (by omega) (by omega)) (by simp [upd])) dX3_copyFrom_13 (fun H locs hP hS => ?_)
  have hP : va_P D vwCl (cW ad cy pm rj (sp_st (sp_st σ κ 0 (bz (σ κ2 0))) κ 1 (σ κ2 1))) H := hP
  refine lv_aload_n hx hb dX3_copyFrom_16 rfl (lv_at hl 0 rfl) ?_
  refine lv_aload_n hx hb dX3_copyFrom_17 rfl (lv_at hl 1 rfl) ?_
  refine sp_get hx hb hts wi_X3_copyFrom_X3 hown hK hP (κ := κ2) (by omega) (cE_print (by omega) (by omega)) rfl 2 (by decide) (hts _ (List.mem_of_getElem? (i := 3) rfl)) (fun _ h => h) rfl dX3_copyFrom_18 ?_
  refine W.eq (g2 := F0 m 21 ls [.int (σ κ2 2), .ref (ad (κ))]) (by rw [sp_st_j _ _ _ _ _ _ (by decide), sp_st_j _ _ _ _ _ _ (by decide)]) ?_
  refine sp_put hx hb hts wi_X3_copyFrom_X3 tyX3 tyX3_ok nmX3 hown hK hP hi hAk hS (κ := κ) (by omega) (cE_print (by omega) (by omega)) rfl 2 (by decide) (hts _ (List.mem_of_getElem? (i := 3) rfl)) (fun _ h => h) rfl (ty := tyX3 2) (by decide +kernel) ⟨rfl, rfl⟩ (Nat.le_of_ble_eq_true rfl) (r1 := upd ((sp_st (sp_st σ κ 0 (bz (σ κ2 0))) κ 1 (σ κ2 1)) κ) 2 (σ κ2 2)) (cE_of (cE_print (by omega) (by omega)) (by simp [upd])) dX3_copyFrom_21 (fun H locs hP hS => ?_)
  have hP : va_P D vwCl (cW ad cy pm rj (sp_st (sp_st (sp_st σ κ 0 (bz (σ κ2 0))) κ 1 (σ κ2 1)) κ 2 (σ κ2 2))) H := hP
  refine lv_aload_n hx hb dX3_copyFrom_24 rfl (lv_at hl 0 rfl) ?_
  refine lv_aload_n hx hb dX3_copyFrom_25 rfl (lv_at hl 1 rfl) ?_
  refine sp_get hx hb hts wi_X3_copyFrom_X3 hown hK hP (κ := κ2) (by omega) (cE_print (by omega) (by omega)) rfl 3 (by decide) (hts _ (List.mem_of_getElem? (i := 4) rfl)) (fun _ h => h) rfl dX3_copyFrom_26 ?_
  refine W.eq (g2 := F0 m 29 ls [.int (σ κ2 3), .ref (ad (κ))]) (by rw [sp_st_j _ _ _ _ _ _ (by decide), sp_st_j _ _ _ _ _ _ (by decide), sp_st_j _ _ _ _ _ _ (by decide)]) ?_
  refine sp_put hx hb hts wi_X3_copyFrom_X3 tyX3 tyX3_ok nmX3 hown hK hP hi hAk hS (κ := κ) (by omega) (cE_print (by omega) (by omega)) rfl 3 (by decide) (hts _ (List.mem_of_getElem? (i := 4) rfl)) (fun _ h => h) rfl (ty := tyX3 3) (by decide +kernel) ⟨rfl, rfl⟩ (Nat.le_of_ble_eq_true rfl) (r1 := upd ((sp_st (sp_st (sp_st σ κ 0 (bz (σ κ2 0))) κ 1 (σ κ2 1)) κ 2 (σ κ2 2)) κ) 3 (σ κ2 3)) (cE_of (cE_print (by omega) (by omega)) (by simp [upd])) dX3_copyFrom_29 (fun H locs hP hS => ?_)
  have hP : va_P D vwCl (cW ad cy pm rj (sp_st (sp_st (sp_st (sp_st σ κ 0 (bz (σ κ2 0))) κ 1 (σ κ2 1)) κ 2 (σ κ2 2)) κ 3 (σ κ2 3))) H := hP
  refine lv_aload_n hx hb dX3_copyFrom_32 rfl (lv_at hl 0 rfl) ?_
  refine lv_aload_n hx hb dX3_copyFrom_33 rfl (lv_at hl 1 rfl) ?_
  refine sp_get hx hb hts wi_X3_copyFrom_X3 hown hK hP (κ := κ2) (by omega) (cE_print (by omega) (by omega)) rfl 4 (by decide) (hts _ (List.mem_of_getElem? (i := 5) rfl)) (fun _ h => h) rfl dX3_copyFrom_34 ?_
  refine W.eq (g2 := F0 m 37 ls [.int (σ κ2 4), .ref (ad (κ))]) (by rw [sp_st_j _ _ _ _ _ _ (by decide), sp_st_j _ _ _ _ _ _ (by decide), sp_st_j _ _ _ _ _ _ (by decide), sp_st_j _ _ _ _ _ _ (by decide)]) ?_
  refine sp_put hx hb hts wi_X3_copyFrom_X3 tyX3 tyX3_ok nmX3 hown hK hP hi hAk hS (κ := κ) (by omega) (cE_print (by omega) (by omega)) rfl 4 (by decide) (hts _ (List.mem_of_getElem? (i := 5) rfl)) (fun _ h => h) rfl (ty := tyX3 4) (by decide +kernel) ⟨rfl, rfl⟩ (Nat.le_of_ble_eq_true rfl) (r1 := upd ((sp_st (sp_st (sp_st (sp_st σ κ 0 (bz (σ κ2 0))) κ 1 (σ κ2 1)) κ 2 (σ κ2 2)) κ 3 (σ κ2 3)) κ) 4 (σ κ2 4)) (cE_of (cE_print (by omega) (by omega)) (by simp [upd])) dX3_copyFrom_37 (fun H locs hP hS => ?_)
  have hP : va_P D vwCl (cW ad cy pm rj (sp_st (sp_st (sp_st (sp_st (sp_st σ κ 0 (bz (σ κ2 0))) κ 1 (σ κ2 1)) κ 2 (σ κ2 2)) κ 3 (σ κ2 3)) κ 4 (σ κ2 4))) H := hP
  refine lv_aload_n hx hb dX3_copyFrom_40 rfl (lv_at hl 0 rfl) ?_
  refine lv_aload_n hx hb dX3_copyFrom_41 rfl (lv_at hl 1 rfl) ?_
  refine sp_get hx hb hts wi_X3_copyFrom_X3 hown hK hP (κ := κ2) (by omega) (cE_print (by omega) (by omega)) rfl 5 (by decide) (hts _ (List.mem_of_getElem? (i := 6) rfl)) (fun _ h => h) rfl dX3_copyFrom_42 ?_
  refine W.eq (g2 := F0 m 45 ls [.int (σ κ2 5), .ref (ad (κ))]) (by rw [sp_st_j _ _ _ _ _ _ (by decide), sp_st_j _ _ _ _ _ _ (by decide), sp_st_j _ _ _ _ _ _ (by decide), sp_st_j _ _ _ _ _ _ (by decide), sp_st_j _ _ _ _ _ _ (by decide)]) ?_
  refine sp_put hx hb hts wi_X3_copyFrom_X3 tyX3 tyX3_ok nmX3 hown hK hP hi hAk hS (κ := κ) (by omega) (cE_print (by omega) (by omega)) rfl 5 (by decide) (hts _ (List.mem_of_getElem? (i := 6) rfl)) (fun _ h => h) rfl (ty := tyX3 5) (by decide +kernel) ⟨rfl, rfl⟩ (Nat.le_of_ble_eq_true rfl) (r1 := upd ((sp_st (sp_st (sp_st (sp_st (sp_st σ κ 0 (bz (σ κ2 0))) κ 1 (σ κ2 1)) κ 2 (σ κ2 2)) κ 3 (σ κ2 3)) κ 4 (σ κ2 4)) κ) 5 (σ κ2 5)) (cE_of (cE_print (by omega) (by omega)) (by simp [upd])) dX3_copyFrom_45 (fun H locs hP hS => ?_)
  have hP : va_P D vwCl (cW ad cy pm rj (sp_st (sp_st (sp_st (sp_st (sp_st (sp_st σ κ 0 (bz (σ κ2 0))) κ 1 (σ κ2 1)) κ 2 (σ κ2 2)) κ 3 (σ κ2 3)) κ 4 (σ κ2 4)) κ 5 (σ κ2 5))) H := hP
  refine lv_aload_n hx hb dX3_copyFrom_48 rfl (lv_at hl 0 rfl) ?_
  refine lv_aload_n hx hb dX3_copyFrom_49 rfl (lv_at hl 1 rfl) ?_
  refine sp_get hx hb hts wi_X3_copyFrom_X3 hown hK hP (κ := κ2) (by omega) (cE_print (by omega) (by omega)) rfl 6 (by decide) (hts _ (List.mem_of_getElem? (i := 7) rfl)) (fun _ h => h) rfl dX3_copyFrom_50 ?_
  refine W.eq (g2 := F0 m 53 ls [.int (bz (σ κ2 6)), .ref (ad (κ))]) (by rw [sp_st_j _ _ _ _ _ _ (by decide), sp_st_j _ _ _ _ _ _ (by decide), sp_st_j _ _ _ _ _ _ (by decide), sp_st_j _ _ _ _ _ _ (by decide), sp_st_j _ _ _ _ _ _ (by decide), sp_st_j _ _ _ _ _ _ (by decide)]) ?_
  refine sp_put hx hb hts wi_X3_copyFrom_X3 tyX3 tyX3_ok nmX3 hown hK hP hi hAk hS (κ := κ) (by omega) (cE_print (by omega) (by omega)) rfl 6 (by decide) (hts _ (List.mem_of_getElem? (i := 7) rfl)) (fun _ h => h) rfl (ty := tyX3 6) (by decide +kernel) (nz_of (bz_bz _)) (Nat.le_of_ble_eq_true rfl) (r1 := upd ((sp_st (sp_st (sp_st (sp_st (sp_st (sp_st σ κ 0 (bz (σ κ2 0))) κ 1 (σ κ2 1)) κ 2 (σ κ2 2)) κ 3 (σ κ2 3)) κ 4 (σ κ2 4)) κ 5 (σ κ2 5)) κ) 6 (bz (σ κ2 6))) (cE_of (cE_print (by omega) (by omega)) (by simp [upd, (bz_bz _)])) dX3_copyFrom_53 (fun H locs hP hS => ?_)
  have hP : va_P D vwCl (cW ad cy pm rj (sp_st (sp_st (sp_st (sp_st (sp_st (sp_st (sp_st σ κ 0 (bz (σ κ2 0))) κ 1 (σ κ2 1)) κ 2 (σ κ2 2)) κ 3 (σ κ2 3)) κ 4 (σ κ2 4)) κ 5 (σ κ2 5)) κ 6 (bz (σ κ2 6)))) H := hP
  refine lv_aload_n hx hb dX3_copyFrom_56 rfl (lv_at hl 0 rfl) ?_
  refine lv_aload_n hx hb dX3_copyFrom_57 rfl (lv_at hl 1 rfl) ?_
  refine sp_get hx hb hts wi_X3_copyFrom_X3 hown hK hP (κ := κ2) (by omega) (cE_print (by omega) (by omega)) rfl 7 (by decide) (hts _ (List.mem_of_getElem? (i := 8) rfl)) (fun _ h => h) rfl dX3_copyFrom_58 ?_
  refine W.eq (g2 := F0 m 61 ls [.int (σ κ2 7), .ref (ad (κ))]) (by rw [sp_st_j _ _ _ _ _ _ (by decide), sp_st_j _ _ _ _ _ _ (by decide), sp_st_j _ _ _ _ _ _ (by decide), sp_st_j _ _ _ _ _ _ (by decide), sp_st_j _ _ _ _ _ _ (by decide), sp_st_j _ _ _ _ _ _ (by decide), sp_st_j _ _ _ _ _ _ (by decide)]) ?_
  refine sp_put hx hb hts wi_X3_copyFrom_X3 tyX3 tyX3_ok nmX3 hown hK hP hi hAk hS (κ := κ) (by omega) (cE_print (by omega) (by omega)) rfl 7 (by decide) (hts _ (List.mem_of_getElem? (i := 8) rfl)) (fun _ h => h) rfl (ty := tyX3 7) (by decide +kernel) ⟨rfl, rfl⟩ (Nat.le_of_ble_eq_true rfl) (r1 := upd ((sp_st (sp_st (sp_st (sp_st (sp_st (sp_st (sp_st σ κ 0 (bz (σ κ2 0))) κ 1 (σ κ2 1)) κ 2 (σ κ2 2)) κ 3 (σ κ2 3)) κ 4 (σ κ2 4)) κ 5 (σ κ2 5)) κ 6 (bz (σ κ2 6))) κ) 7 (σ κ2 7)) (cE_of (cE_print (by omega) (by omega)) (by simp [upd])) dX3_copyFrom_61 (fun H locs hP hS => ?_)
  have hP : va_P D vwCl (cW ad cy pm rj (sp_st (sp_st (sp_st (sp_st (sp_st (sp_st (sp_st (sp_st σ κ 0 (bz (σ κ2 0))) κ 1 (σ κ2 1)) κ 2 (σ κ2 2)) κ 3 (σ κ2 3)) κ 4 (σ κ2 4)) κ 5 (σ κ2 5)) κ 6 (bz (σ κ2 6))) κ 7 (σ κ2 7))) H := hP
  refine lv_aload_n hx hb dX3_copyFrom_64 rfl (lv_at hl 0 rfl) ?_
  refine lv_aload_n hx hb dX3_copyFrom_65 rfl (lv_at hl 1 rfl) ?_
  refine sp_get hx hb hts wi_X3_copyFrom_X3 hown hK hP (κ := κ2) (by omega) (cE_print (by omega) (by omega)) rfl 8 (by decide) (hts _ (List.mem_of_getElem? (i := 9) rfl)) (fun _ h => h) rfl dX3_copyFrom_66 ?_
  refine W.eq (g2 := F0 m 69 ls [.int (σ κ2 8), .ref (ad (κ))]) (by rw [sp_st_j _ _ _ _ _ _ (by decide), sp_st_j _ _ _ _ _ _ (by decide), sp_st_j _ _ _ _ _ _ (by decide), sp_st_j _ _ _ _ _ _ (by decide), sp_st_j _ _ _ _ _ _ (by decide), sp_st_j _ _ _ _ _ _ (by decide), sp_st_j _ _ _ _ _ _ (by decide), sp_st_j _ _ _ _ _ _ (by decide)]) ?_
  refine sp_put hx hb hts wi_X3_copyFrom_X3 tyX3 tyX3_ok nmX3 hown hK hP hi hAk hS (κ := κ) (by omega) (cE_print (by omega) (by omega)) rfl 8 (by decide) (hts _ (List.mem_of_getElem? (i := 9) rfl)) (fun _ h => h) rfl (ty := tyX3 8) (by decide +kernel) ⟨rfl, rfl⟩ (Nat.le_of_ble_eq_true rfl) (r1 := upd ((sp_st (sp_st (sp_st (sp_st (sp_st (sp_st (sp_st (sp_st σ κ 0 (bz (σ κ2 0))) κ 1 (σ κ2 1)) κ 2 (σ κ2 2)) κ 3 (σ κ2 3)) κ 4 (σ κ2 4)) κ 5 (σ κ2 5)) κ 6 (bz (σ κ2 6))) κ 7 (σ κ2 7)) κ) 8 (σ κ2 8)) (cE_of (cE_print (by omega) (by omega)) (by simp [upd])) dX3_copyFrom_69 (fun H locs hP hS => ?_)
  have hP : va_P D vwCl (cW ad cy pm rj (sp_st (sp_st (sp_st (sp_st (sp_st (sp_st (sp_st (sp_st (sp_st σ κ 0 (bz (σ κ2 0))) κ 1 (σ κ2 1)) κ 2 (σ κ2 2)) κ 3 (σ κ2 3)) κ 4 (σ κ2 4)) κ 5 (σ κ2 5)) κ 6 (bz (σ κ2 6))) κ 7 (σ κ2 7)) κ 8 (σ κ2 8))) H := hP
  refine lv_aload_n hx hb dX3_copyFrom_72 rfl (lv_at hl 0 rfl) ?_
  refine lv_aload_n hx hb dX3_copyFrom_73 rfl (lv_at hl 1 rfl) ?_
  refine sp_get hx hb hts wi_X3_copyFrom_X3 hown hK hP (κ := κ2) (by omega) (cE_print (by omega) (by omega)) rfl 9 (by decide) (hts _ (List.mem_of_getElem? (i := 10) rfl)) (fun _ h => h) rfl dX3_copyFrom_74 ?_
  refine W.eq (g2 := F0 m 77 ls [.int (bz (σ κ2 9)), .ref (ad (κ))]) (by rw [sp_st_j _ _ _ _ _ _ (by decide), sp_st_j _ _ _ _ _ _ (by decide), sp_st_j _ _ _ _ _ _ (by decide), sp_st_j _ _ _ _ _ _ (by decide), sp_st_j _ _ _ _ _ _ (by decide), sp_st_j _ _ _ _ _ _ (by decide), sp_st_j _ _ _ _ _ _ (by decide), sp_st_j _ _ _ _ _ _ (by decide), sp_st_j _ _ _ _ _ _ (by decide)]) ?_
  refine sp_put hx hb hts wi_X3_copyFrom_X3 tyX3 tyX3_ok nmX3 hown hK hP hi hAk hS (κ := κ) (by omega) (cE_print (by omega) (by omega)) rfl 9 (by decide) (hts _ (List.mem_of_getElem? (i := 10) rfl)) (fun _ h => h) rfl (ty := tyX3 9) (by decide +kernel) (nz_of (bz_bz _)) (Nat.le_of_ble_eq_true rfl) (r1 := upd ((sp_st (sp_st (sp_st (sp_st (sp_st (sp_st (sp_st (sp_st (sp_st σ κ 0 (bz (σ κ2 0))) κ 1 (σ κ2 1)) κ 2 (σ κ2 2)) κ 3 (σ κ2 3)) κ 4 (σ κ2 4)) κ 5 (σ κ2 5)) κ 6 (bz (σ κ2 6))) κ 7 (σ κ2 7)) κ 8 (σ κ2 8)) κ) 9 (bz (σ κ2 9))) (cE_of (cE_print (by omega) (by omega)) (by simp [upd, (bz_bz _)])) dX3_copyFrom_77 (fun H locs hP hS => ?_)
  have hP : va_P D vwCl (cW ad cy pm rj (sp_st (sp_st (sp_st (sp_st (sp_st (sp_st (sp_st (sp_st (sp_st (sp_st σ κ 0 (bz (σ κ2 0))) κ 1 (σ κ2 1)) κ 2 (σ κ2 2)) κ 3 (σ κ2 3)) κ 4 (σ κ2 4)) κ 5 (σ κ2 5)) κ 6 (bz (σ κ2 6))) κ 7 (σ κ2 7)) κ 8 (σ κ2 8)) κ 9 (bz (σ κ2 9)))) H := hP
  have hE9 : cW ad cy (pm) (rj) (sp_st (sp_st (sp_st (sp_st (sp_st (sp_st (sp_st (sp_st (sp_st (sp_st σ κ 0 (bz (σ κ2 0))) κ 1 (σ κ2 1)) κ 2 (σ κ2 2)) κ 3 (σ κ2 3)) κ 4 (σ κ2 4)) κ 5 (σ κ2 5)) κ 6 (bz (σ κ2 6))) κ 7 (σ κ2 7)) κ 8 (σ κ2 8)) κ 9 (bz (σ κ2 9))) = cW ad cy (pm) (rj) (sp_up σ κ (σ κ2)) := by simp only [sp_st_up, sp_up_up, sp_up_same]; exact sp_W_row (by rw [cE_print (by omega) (by omega), cE_print (by omega) (by omega)]; simp [upd, bz_bz])
  have hP : va_P D vwCl (cW ad cy (pm) (rj) (sp_up σ κ (σ κ2))) H := by rw [← hE9]; exact hP
  exact W.vret hx hb hr (fun T9 hT9 _ => ⟨rfl, by rw [hT9]; exact hP, hS.F hT9⟩) hS.2.2 dX3_copyFrom_80

theorem wi_X8_copyFrom_X8 : ∀ w ∈ wsX80, w ∈ wsX8_copyFrom := by decide +kernel
set_option maxHeartbeats 4000000 in
set_option maxRecDepth 100000 in
theorem c_X8_copyFrom (l : Launch) (D : va_G) (ad : Nat → Nat) (cy : Nat → ClassId) (pm : Nat → Nat) (rj : Option Nat) (σ : Nat → Nat → Int32) (sz : Nat) (hi : sp_inj ad 459) (κ : Nat) (hκ : κ < 429) (hκ2 : 3 ≤ κ % 39 ∧ κ % 39 < 9) (κ2 : Nat) (hκ3 : κ2 < 429) (hκ4 : 3 ≤ κ2 % 39 ∧ κ2 % 39 < 9) : Met l yX8_copyFrom wsX8_copyFrom ({ frames := 0, cells := 0, slots := 0, locals := 0 } : Room) (sp_Pm D (tyG cy) sz [.ref (ad (κ)), .ref (ad (κ2))] (cW ad cy pm rj σ)) (sp_Q D (none) (cW ad cy (pm) (rj) (sp_up σ κ (σ κ2))) (sp_A ad 459 sz)) 0 0 (sp_A ad 459 sz) := by
  refine Met.ofW (cc := cX8_copyFrom) (maxL := 2) (ret := none) (by decide) rfl ?_
  intro p e s m args below meth c s₁ B hml hv
  obtain ⟨rfl, hsz, hP, hK⟩ := hv
  have hx := B.exec
  have hb := B.bytes
  have hr := B.returns
  have hts := atoms_spec (ws := wsX8_copyFrom) B.pre
  have hown : s.vm.findClass RX8 = some m.cls := findClass_of_methodNamed B.named
  have hlocks := B.notSynchronized
  subst hsz
  have hS : va_S (sp_A ad 459 s.heap.size) s.heap s.heap [] := va_S.rf
  have hAk : ∀ k, k < 459 → (sp_A ad 459 s.heap.size) (ad k) := fun k hk => Or.inl ⟨k, hk, rfl⟩
  skip
  have hl := lv_entry ([.ref (ad (κ)), .ref (ad (κ2))]) (n := 2) (Nat.le_of_ble_eq_true rfl)
  refine W.eq (lg_entry_eq _ ([.ref (ad (κ)), .ref (ad (κ2))]) _) ?_
  generalize (lg_sl ([.ref (ad (κ)), .ref (ad (κ2))]) ++ List.replicate (2 - (lg_sl ([.ref (ad (κ)), .ref (ad (κ2))])).length) Slot.unset).toArray = ls at hl ⊢
  have hl : lv_has ls 2 [(0, .ref (ad (κ))), (1, .ref (ad (κ2)))] := hl
  refine lv_aload_n hx hb dX8_copyFrom_0 rfl (lv_at hl 0 rfl) ?_
  refine lv_aload_n hx hb dX8_copyFrom_1 rfl (lv_at hl 1 rfl) ?_
  refine sp_get hx hb hts wi_X8_copyFrom_X8 hown hK hP (κ := κ2) (by omega) (cE_track (by omega) (by omega)) rfl 0 (by decide) (hts _ (List.mem_of_getElem? (i := 1) rfl)) (fun _ h => h) rfl dX8_copyFrom_2 ?_
  refine sp_put hx hb hts wi_X8_copyFrom_X8 tyX8 tyX8_ok nmX8 hown hK hP hi hAk hS (κ := κ) (by omega) (cE_track (by omega) (by omega)) rfl 0 (by decide) (hts _ (List.mem_of_getElem? (i := 1) rfl)) (fun _ h => h) rfl (ty := tyX8 0) (by decide +kernel) (nz_of (bz_bz _)) (Nat.le_of_ble_eq_true rfl) (r1 := upd (σ κ) 0 (bz (σ κ2 0))) (cE_of (cE_track (by omega) (by omega)) (by simp [upd, (bz_bz _)])) dX8_copyFrom_5 (fun H locs hP hS => ?_)
  have hP : va_P D vwCl (cW ad cy pm rj (sp_st σ κ 0 (bz (σ κ2 0)))) H := hP
  refine lv_aload_n hx hb dX8_copyFrom_8 rfl (lv_at hl 0 rfl) ?_
  refine lv_aload_n hx hb dX8_copyFrom_9 rfl (lv_at hl 1 rfl) ?_
  refine sp_get hx hb hts wi_X8_copyFrom_X8 hown hK hP (κ := κ2) (by omega) (cE_track (by omega) (by omega)) rfl 1 (by decide) (hts _ (List.mem_of_getElem? (i := 2) rfl)) (fun _ h => h) rfl dX8_copyFrom_10 ?_
  refine W.eq (g2 := F0 m 13 ls [.int (σ κ2 1), .ref (ad (κ))]) (by rw [sp_st_j _ _ _ _ _ _ (by decide)]) ?_
  refine sp_put hx hb hts wi_X8_copyFrom_X8 tyX8 tyX8_ok nmX8 hown hK hP hi hAk hS (κ := κ) (by omega) (cE_track (by omega) (by omega)) rfl 1 (by decide) (hts _ (List.mem_of_getElem? (i := 2) rfl)) (fun _ h => h) rfl (ty := tyX8 1) (by decide +kernel) ⟨rfl, rfl⟩ (Nat.le_of_ble_eq_true rfl) (r1 := upd ((sp_st σ κ 0 (bz (σ κ2 0))) κ) 1 (σ κ2 1)) (cE_of (cE_track (by omega) (by omega)) (by simp [upd])) dX8_copyFrom_13 (fun H locs hP hS => ?_)
  have hP : va_P D vwCl (cW ad cy pm rj (sp_st (sp_st σ κ 0 (bz (σ κ2 0))) κ 1 (σ κ2 1))) H := hP
  refine lv_aload_n hx hb dX8_copyFrom_16 rfl (lv_at hl 0 rfl) ?_
  refine lv_aload_n hx hb dX8_copyFrom_17 rfl (lv_at hl 1 rfl) ?_
  refine sp_get hx hb hts wi_X8_copyFrom_X8 hown hK hP (κ := κ2) (by omega) (cE_track (by omega) (by omega)) rfl 2 (by decide) (hts _ (List.mem_of_getElem? (i := 3) rfl)) (fun _ h => h) rfl dX8_copyFrom_18 ?_
  refine W.eq (g2 := F0 m 21 ls [.int (σ κ2 2), .ref (ad (κ))]) (by rw [sp_st_j _ _ _ _ _ _ (by decide), sp_st_j _ _ _ _ _ _ (by decide)]) ?_
  refine sp_put hx hb hts wi_X8_copyFrom_X8 tyX8 tyX8_ok nmX8 hown hK hP hi hAk hS (κ := κ) (by omega) (cE_track (by omega) (by omega)) rfl 2 (by decide) (hts _ (List.mem_of_getElem? (i := 3) rfl)) (fun _ h => h) rfl (ty := tyX8 2) (by decide +kernel) ⟨rfl, rfl⟩ (Nat.le_of_ble_eq_true rfl) (r1 := upd ((sp_st (sp_st σ κ 0 (bz (σ κ2 0))) κ 1 (σ κ2 1)) κ) 2 (σ κ2 2)) (cE_of (cE_track (by omega) (by omega)) (by simp [upd])) dX8_copyFrom_21 (fun H locs hP hS => ?_)
  have hP : va_P D vwCl (cW ad cy pm rj (sp_st (sp_st (sp_st σ κ 0 (bz (σ κ2 0))) κ 1 (σ κ2 1)) κ 2 (σ κ2 2))) H := hP
  have hE9 : cW ad cy (pm) (rj) (sp_st (sp_st (sp_st σ κ 0 (bz (σ κ2 0))) κ 1 (σ κ2 1)) κ 2 (σ κ2 2)) = cW ad cy (pm) (rj) (sp_up σ κ (σ κ2)) := by simp only [sp_st_up, sp_up_up, sp_up_same]; exact sp_W_row (by rw [cE_track (by omega) (by omega), cE_track (by omega) (by omega)]; simp [upd, bz_bz])
  have hP : va_P D vwCl (cW ad cy (pm) (rj) (sp_up σ κ (σ κ2))) H := by rw [← hE9]; exact hP
  exact W.vret hx hb hr (fun T9 hT9 _ => ⟨rfl, by rw [hT9]; exact hP, hS.F hT9⟩) hS.2.2 dX8_copyFrom_24

theorem wi_X3_turnOver_X3 : ∀ w ∈ wsX30, w ∈ wsX3_turnOver := by decide +kernel
set_option maxHeartbeats 4000000 in
set_option maxRecDepth 100000 in
theorem c_X3_turnOver (l : Launch) (D : va_G) (ad : Nat → Nat) (cy : Nat → ClassId) (pm : Nat → Nat) (rj : Option Nat) (σ : Nat → Nat → Int32) (sz : Nat) (hi : sp_inj ad 459) (k : Nat) (hk : k < 30) : Met l yX3_turnOver wsX3_turnOver ({ frames := 0, cells := 0, slots := 0, locals := 0 } : Room) (sp_Pm D (tyG cy) sz [.ref (ad (9 + k))] (cW ad cy pm rj σ)) (sp_Q D (some (.int (b2i (σ (9 + k) 6 == 0)))) (cW ad cy (pm) (rj) (sp_st σ (9 + k) 6 (b2i (σ (9 + k) 6 == 0)))) (sp_A ad 459 sz)) 0 0 (sp_A ad 459 sz) := by
  refine Met.ofW (cc := cX3_turnOver) (maxL := 1) (ret := (some .boolean)) (by decide) rfl ?_
  intro p e s m args below meth c s₁ B hml hv
  obtain ⟨rfl, hsz, hP, hK⟩ := hv
  have hx := B.exec
  have hb := B.bytes
  have hr := B.returns
  have hts := atoms_spec (ws := wsX3_turnOver) B.pre
  have hown : s.vm.findClass RX3 = some m.cls := findClass_of_methodNamed B.named
  have hlocks := B.notSynchronized
  subst hsz
  have hS : va_S (sp_A ad 459 s.heap.size) s.heap s.heap [] := va_S.rf
  have hAk : ∀ k, k < 459 → (sp_A ad 459 s.heap.size) (ad k) := fun k hk => Or.inl ⟨k, hk, rfl⟩
  skip
  have hl := lv_entry ([.ref (ad (9 + k))]) (n := 1) (Nat.le_of_ble_eq_true rfl)
  refine W.eq (lg_entry_eq _ ([.ref (ad (9 + k))]) _) ?_
  generalize (lg_sl ([.ref (ad (9 + k))]) ++ List.replicate (1 - (lg_sl ([.ref (ad (9 + k))])).length) Slot.unset).toArray = ls at hl ⊢
  have hl : lv_has ls 1 [(0, .ref (ad (9 + k)))] := hl
  refine lv_aload_n hx hb dX3_turnOver_0 rfl (lv_at hl 0 rfl) ?_
  refine lv_aload_n hx hb dX3_turnOver_1 rfl (lv_at hl 0 rfl) ?_
  refine sp_get hx hb hts wi_X3_turnOver_X3 hown hK hP (κ := 9 + k) (by omega) (cE_print (by omega) (by omega)) rfl 6 (by decide) (hts _ (List.mem_of_getElem? (i := 1) rfl)) (fun _ h => h) rfl dX3_turnOver_2 ?_
  refine lv_if_ne (tgt := 12) hx hb dX3_turnOver_5 (by decide) (fun c_1 => ?_) (fun c_1 => ?_)
  · rw [bz_eq0] at c_1
    refine lv_iconst (v := 0) hx hb dX3_turnOver_12 (by decide) ?_
    refine sp_put hx hb hts wi_X3_turnOver_X3 tyX3 tyX3_ok nmX3 hown hK hP hi hAk hS (κ := 9 + k) (by omega) (cE_print (by omega) (by omega)) rfl 6 (by decide) (hts _ (List.mem_of_getElem? (i := 1) rfl)) (fun _ h => h) rfl (ty := tyX3 6) (by decide +kernel) (nz_of (show bz 0 = 0 by decide)) (Nat.le_of_ble_eq_true rfl) (r1 := upd (σ (9 + k)) 6 0) (cE_of (cE_print (by omega) (by omega)) (by simp [upd, (show bz 0 = 0 by decide)])) dX3_turnOver_13 (fun H locs hP hS => ?_)
    have hP : va_P D vwCl (cW ad cy pm rj (sp_st σ (9 + k) 6 0)) H := hP
    refine lv_aload_n hx hb dX3_turnOver_16 rfl (lv_at hl 0 rfl) ?_
    refine sp_get hx hb hts wi_X3_turnOver_X3 hown hK hP (κ := 9 + k) (by omega) (cE_print (by omega) (by omega)) rfl 6 (by decide) (hts _ (List.mem_of_getElem? (i := 1) rfl)) (fun _ h => h) rfl dX3_turnOver_17 ?_
    refine W.eq (g2 := F0 m 20 ls [.int (0)]) (by rw [sp_st_s, (show bz 0 = 0 by decide)]) ?_
    have hE9 : cW ad cy (pm) (rj) (sp_st σ (9 + k) 6 0) = cW ad cy (pm) (rj) (sp_st σ (9 + k) 6 (b2i (σ (9 + k) 6 == 0))) := by exact cW_eq rfl (by simp [b2i, c_1])
    have hP : va_P D vwCl (cW ad cy (pm) (rj) (sp_st σ (9 + k) 6 (b2i (σ (9 + k) 6 == 0)))) H := by rw [← hE9]; exact hP
    exact W.zret (v := 0) hx hb hr (by decide) (fun T9 hT9 _ => ⟨congrArg (fun z9 => Outcome.returned (some (Value.int z9))) (show (0 : Int32) = b2i (σ (9 + k) 6 == 0) from (by simp [b2i, c_1, bz])), by rw [hT9]; exact hP, hS.F hT9⟩) hS.2.2 dX3_turnOver_20
  · rw [bz_eq0] at c_1
    refine lv_iconst (v := 1) hx hb dX3_turnOver_8 (by decide) ?_
    refine lv_goto (tgt := 13) hx hb dX3_turnOver_9 (by decide) ?_
    refine sp_put hx hb hts wi_X3_turnOver_X3 tyX3 tyX3_ok nmX3 hown hK hP hi hAk hS (κ := 9 + k) (by omega) (cE_print (by omega) (by omega)) rfl 6 (by decide) (hts _ (List.mem_of_getElem? (i := 1) rfl)) (fun _ h => h) rfl (ty := tyX3 6) (by decide +kernel) (nz_of (show bz 1 = 1 by decide)) (Nat.le_of_ble_eq_true rfl) (r1 := upd (σ (9 + k)) 6 1) (cE_of (cE_print (by omega) (by omega)) (by simp [upd, (show bz 1 = 1 by decide)])) dX3_turnOver_13 (fun H locs hP hS => ?_)
    have hP : va_P D vwCl (cW ad cy pm rj (sp_st σ (9 + k) 6 1)) H := hP
    refine lv_aload_n hx hb dX3_turnOver_16 rfl (lv_at hl 0 rfl) ?_
    refine sp_get hx hb hts wi_X3_turnOver_X3 hown hK hP (κ := 9 + k) (by omega) (cE_print (by omega) (by omega)) rfl 6 (by decide) (hts _ (List.mem_of_getElem? (i := 1) rfl)) (fun _ h => h) rfl dX3_turnOver_17 ?_
    refine W.eq (g2 := F0 m 20 ls [.int (1)]) (by rw [sp_st_s, (show bz 1 = 1 by decide)]) ?_
    have hE9 : cW ad cy (pm) (rj) (sp_st σ (9 + k) 6 1) = cW ad cy (pm) (rj) (sp_st σ (9 + k) 6 (b2i (σ (9 + k) 6 == 0))) := by exact cW_eq rfl (by simp [b2i, c_1])
    have hP : va_P D vwCl (cW ad cy (pm) (rj) (sp_st σ (9 + k) 6 (b2i (σ (9 + k) 6 == 0)))) H := by rw [← hE9]; exact hP
    exact W.zret (v := 1) hx hb hr (by decide) (fun T9 hT9 _ => ⟨congrArg (fun z9 => Outcome.returned (some (Value.int z9))) (show (1 : Int32) = b2i (σ (9 + k) 6 == 0) from (by simp [b2i, c_1, bz])), by rw [hT9]; exact hP, hS.F hT9⟩) hS.2.2 dX3_turnOver_20

theorem wi_X3_raiseDoubt_X3 : ∀ w ∈ wsX30, w ∈ wsX3_raiseDoubt := by decide +kernel
set_option maxHeartbeats 4000000 in
set_option maxRecDepth 100000 in
theorem c_X3_raiseDoubt (l : Launch) (D : va_G) (ad : Nat → Nat) (cy : Nat → ClassId) (pm : Nat → Nat) (rj : Option Nat) (σ : Nat → Nat → Int32) (sz : Nat) (hi : sp_inj ad 459) (k : Nat) (hk : k < 30) : Met l yX3_raiseDoubt wsX3_raiseDoubt ({ frames := 0, cells := 0, slots := 0, locals := 0 } : Room) (sp_Pm D (tyG cy) sz [.ref (ad (9 + k))] (cW ad cy pm rj σ)) (sp_Q D (some (.int (σ (9 + k) 8 + 1))) (cW ad cy (pm) (rj) (sp_st σ (9 + k) 8 (σ (9 + k) 8 + 1))) (sp_A ad 459 sz)) 0 0 (sp_A ad 459 sz) := by
  refine Met.ofW (cc := cX3_raiseDoubt) (maxL := 1) (ret := (some .int)) (by decide) rfl ?_
  intro p e s m args below meth c s₁ B hml hv
  obtain ⟨rfl, hsz, hP, hK⟩ := hv
  have hx := B.exec
  have hb := B.bytes
  have hr := B.returns
  have hts := atoms_spec (ws := wsX3_raiseDoubt) B.pre
  have hown : s.vm.findClass RX3 = some m.cls := findClass_of_methodNamed B.named
  have hlocks := B.notSynchronized
  subst hsz
  have hS : va_S (sp_A ad 459 s.heap.size) s.heap s.heap [] := va_S.rf
  have hAk : ∀ k, k < 459 → (sp_A ad 459 s.heap.size) (ad k) := fun k hk => Or.inl ⟨k, hk, rfl⟩
  skip
  have hl := lv_entry ([.ref (ad (9 + k))]) (n := 1) (Nat.le_of_ble_eq_true rfl)
  refine W.eq (lg_entry_eq _ ([.ref (ad (9 + k))]) _) ?_
  generalize (lg_sl ([.ref (ad (9 + k))]) ++ List.replicate (1 - (lg_sl ([.ref (ad (9 + k))])).length) Slot.unset).toArray = ls at hl ⊢
  have hl : lv_has ls 1 [(0, .ref (ad (9 + k)))] := hl
  refine lv_aload_n hx hb dX3_raiseDoubt_0 rfl (lv_at hl 0 rfl) ?_
  refine lv_dup hx hb dX3_raiseDoubt_1 rfl ?_
  refine sp_get hx hb hts wi_X3_raiseDoubt_X3 hown hK hP (κ := 9 + k) (by omega) (cE_print (by omega) (by omega)) rfl 8 (by decide) (hts _ (List.mem_of_getElem? (i := 1) rfl)) (fun _ h => h) rfl dX3_raiseDoubt_2 ?_
  refine lv_iconst (v := 1) hx hb dX3_raiseDoubt_5 (by decide) ?_
  refine lv_iadd hx hb dX3_raiseDoubt_6 ?_
  refine sp_put hx hb hts wi_X3_raiseDoubt_X3 tyX3 tyX3_ok nmX3 hown hK hP hi hAk hS (κ := 9 + k) (by omega) (cE_print (by omega) (by omega)) rfl 8 (by decide) (hts _ (List.mem_of_getElem? (i := 1) rfl)) (fun _ h => h) rfl (ty := tyX3 8) (by decide +kernel) ⟨rfl, rfl⟩ (Nat.le_of_ble_eq_true rfl) (r1 := upd (σ (9 + k)) 8 ((σ (9 + k) 8) + 1)) (cE_of (cE_print (by omega) (by omega)) (by simp [upd])) dX3_raiseDoubt_7 (fun H locs hP hS => ?_)
  have hP : va_P D vwCl (cW ad cy pm rj (sp_st σ (9 + k) 8 ((σ (9 + k) 8) + 1))) H := hP
  refine lv_aload_n hx hb dX3_raiseDoubt_10 rfl (lv_at hl 0 rfl) ?_
  refine sp_get hx hb hts wi_X3_raiseDoubt_X3 hown hK hP (κ := 9 + k) (by omega) (cE_print (by omega) (by omega)) rfl 8 (by decide) (hts _ (List.mem_of_getElem? (i := 1) rfl)) (fun _ h => h) rfl dX3_raiseDoubt_11 ?_
  refine W.eq (g2 := F0 m 14 ls [.int ((σ (9 + k) 8) + 1)]) (by rw [sp_st_s]) ?_
  have hE9 : cW ad cy (pm) (rj) (sp_st σ (9 + k) 8 ((σ (9 + k) 8) + 1)) = cW ad cy (pm) (rj) (sp_st σ (9 + k) 8 (σ (9 + k) 8 + 1)) := by first | rfl | exact cW_eq rfl (by simp [])
  have hP : va_P D vwCl (cW ad cy (pm) (rj) (sp_st σ (9 + k) 8 (σ (9 + k) 8 + 1))) H := by rw [← hE9]; exact hP
  exact W.iret (v := (σ (9 + k) 8) + 1) hx hb hr (fun T9 hT9 _ => ⟨congrArg (fun z9 => Outcome.returned (some (Value.int z9))) (show ((σ (9 + k) 8) + 1 : Int32) = σ (9 + k) 8 + 1 from (by first | rfl | (simp [b2i]; done))), by rw [hT9]; exact hP, hS.F hT9⟩) hS.2.2 dX3_raiseDoubt_14

theorem wi_X3_settleDoubts_X3 : ∀ w ∈ wsX30, w ∈ wsX3_settleDoubts := by decide +kernel
set_option maxHeartbeats 4000000 in
set_option maxRecDepth 100000 in
theorem c_X3_settleDoubts (l : Launch) (D : va_G) (ad : Nat → Nat) (cy : Nat → ClassId) (pm : Nat → Nat) (rj : Option Nat) (σ : Nat → Nat → Int32) (sz : Nat) (hi : sp_inj ad 459) (k : Nat) (hk : k < 30) : Met l yX3_settleDoubts wsX3_settleDoubts ({ frames := 0, cells := 0, slots := 0, locals := 0 } : Room) (sp_Pm D (tyG cy) sz [.ref (ad (9 + k))] (cW ad cy pm rj σ)) (sp_Q D (some (.int (σ (9 + k) 8))) (cW ad cy (pm) (rj) (sp_st σ (9 + k) 8 0)) (sp_A ad 459 sz)) 0 0 (sp_A ad 459 sz) := by
  refine Met.ofW (cc := cX3_settleDoubts) (maxL := 2) (ret := (some .int)) (by decide) rfl ?_
  intro p e s m args below meth c s₁ B hml hv
  obtain ⟨rfl, hsz, hP, hK⟩ := hv
  have hx := B.exec
  have hb := B.bytes
  have hr := B.returns
  have hts := atoms_spec (ws := wsX3_settleDoubts) B.pre
  have hown : s.vm.findClass RX3 = some m.cls := findClass_of_methodNamed B.named
  have hlocks := B.notSynchronized
  subst hsz
  have hS : va_S (sp_A ad 459 s.heap.size) s.heap s.heap [] := va_S.rf
  have hAk : ∀ k, k < 459 → (sp_A ad 459 s.heap.size) (ad k) := fun k hk => Or.inl ⟨k, hk, rfl⟩
  skip
  have hl := lv_entry ([.ref (ad (9 + k))]) (n := 2) (Nat.le_of_ble_eq_true rfl)
  refine W.eq (lg_entry_eq _ ([.ref (ad (9 + k))]) _) ?_
  generalize (lg_sl ([.ref (ad (9 + k))]) ++ List.replicate (2 - (lg_sl ([.ref (ad (9 + k))])).length) Slot.unset).toArray = ls at hl ⊢
  have hl : lv_has ls 2 [(0, .ref (ad (9 + k)))] := hl
  refine lv_aload_n hx hb dX3_settleDoubts_0 rfl (lv_at hl 0 rfl) ?_
  refine sp_get hx hb hts wi_X3_settleDoubts_X3 hown hK hP (κ := 9 + k) (by omega) (cE_print (by omega) (by omega)) rfl 8 (by decide) (hts _ (List.mem_of_getElem? (i := 1) rfl)) (fun _ h => h) rfl dX3_settleDoubts_1 ?_
  refine lv_istore_n (lv' := [(1, .int (σ (9 + k) 8)), (0, .ref (ad (9 + k)))]) hx hb dX3_settleDoubts_4 rfl hl (by decide) rfl (fun ls hl => ?_)
  refine lv_aload_n hx hb dX3_settleDoubts_5 rfl (lv_at hl 1 rfl) ?_
  refine lv_iconst (v := 0) hx hb dX3_settleDoubts_6 (by decide) ?_
  refine sp_put hx hb hts wi_X3_settleDoubts_X3 tyX3 tyX3_ok nmX3 hown hK hP hi hAk hS (κ := 9 + k) (by omega) (cE_print (by omega) (by omega)) rfl 8 (by decide) (hts _ (List.mem_of_getElem? (i := 1) rfl)) (fun _ h => h) rfl (ty := tyX3 8) (by decide +kernel) ⟨rfl, rfl⟩ (Nat.le_of_ble_eq_true rfl) (r1 := upd (σ (9 + k)) 8 0) (cE_of (cE_print (by omega) (by omega)) (by simp [upd])) dX3_settleDoubts_7 (fun H locs hP hS => ?_)
  have hP : va_P D vwCl (cW ad cy pm rj (sp_st σ (9 + k) 8 0)) H := hP
  refine lv_iload_n hx hb dX3_settleDoubts_10 rfl (lv_at hl 0 rfl) ?_
  exact W.iret (v := σ (9 + k) 8) hx hb hr (fun T9 hT9 _ => ⟨congrArg (fun z9 => Outcome.returned (some (Value.int z9))) (show (σ (9 + k) 8 : Int32) = σ (9 + k) 8 from (by first | rfl | (simp [b2i]; done))), by rw [hT9]; exact hP, hS.F hT9⟩) hS.2.2 dX3_settleDoubts_11

theorem wi_X0_copyFrom_X0 : ∀ w ∈ wsX00, w ∈ wsX0_copyFrom := by decide +kernel
set_option maxHeartbeats 4000000 in
set_option maxRecDepth 100000 in
theorem c_X0_copyFrom (l : Launch) (D : va_G) (ad : Nat → Nat) (cy : Nat → ClassId) (pm : Nat → Nat) (rj : Option Nat) (σ : Nat → Nat → Int32) (sz : Nat) (hi : sp_inj ad 459) (a : Nat) (ha : a < 11) (b : Nat) (hb2 : b < 11) (hab : a ≠ b) : Met l yX0_copyFrom wsX0_copyFrom ({ frames := 1, cells := 0, slots := 0, locals := 21 } : Room) (sp_Pm D (tyG cy) sz [.ref (ad (39 * a)), .ref (ad (39 * b))] (cW ad cy pm rj σ)) (sp_Q D (none) (cW ad cy (pm) (rj) (f_copyB σ a b)) (sp_A ad 459 sz)) 0 0 (sp_A ad 459 sz) := by
  refine Met.ofW (cc := cX0_copyFrom) (maxL := 3) (ret := none) (by decide) rfl ?_
  intro p e s m args below meth c s₁ B hml hv
  obtain ⟨rfl, hsz, hP, hK⟩ := hv
  have hx := B.exec
  have hb := B.bytes
  have hr := B.returns
  have hts := atoms_spec (ws := wsX0_copyFrom) B.pre
  have hown : s.vm.findClass RX0 = some m.cls := findClass_of_methodNamed B.named
  have hlocks := B.notSynchronized
  subst hsz
  have hS : va_S (sp_A ad 459 s.heap.size) s.heap s.heap [] := va_S.rf
  have hAk : ∀ k, k < 459 → (sp_A ad 459 s.heap.size) (ad k) := fun k hk => Or.inl ⟨k, hk, rfl⟩
  skip
  have hl := lv_entry ([.ref (ad (39 * a)), .ref (ad (39 * b))]) (n := 3) (Nat.le_of_ble_eq_true rfl)
  refine W.eq (lg_entry_eq _ ([.ref (ad (39 * a)), .ref (ad (39 * b))]) _) ?_
  generalize (lg_sl ([.ref (ad (39 * a)), .ref (ad (39 * b))]) ++ List.replicate (3 - (lg_sl ([.ref (ad (39 * a)), .ref (ad (39 * b))])).length) Slot.unset).toArray = ls at hl ⊢
  have hl : lv_has ls 3 [(0, .ref (ad (39 * a))), (1, .ref (ad (39 * b)))] := hl
  refine lv_iconst (v := 0) hx hb dX0_copyFrom_0 (by decide) ?_
  refine lv_istore_n (lv' := [(2, .int (0)), (0, .ref (ad (39 * a))), (1, .ref (ad (39 * b)))]) hx hb dX0_copyFrom_1 rfl hl (by decide) rfl (fun ls hl => ?_)
  have loop_2 : ∀ (n i : Nat) (H : Heap) (locs : List Loc), (i ≤ 6) → (6 - i < n) → (va_P D vwCl (cW ad cy pm rj (f_cpT σ a b i)) H) → (va_S (sp_A ad 459 s.heap.size) s.heap H locs) → ∀ ls : Array Slot, lv_has ls 3 [(2, .int (nI i)), (0, .ref (ad (39 * a))), (1, .ref (ad (39 * b)))] → W p l e (headSpec wsX0_copyFrom ({ frames := 1, cells := 0, slots := 0, locals := 21 } : Room)).room s m ([.ref (ad (39 * a)), .ref (ad (39 * b))] : List Value).toArray below meth c H locs 0 0 (MQ below (sp_Q D (none) (cW ad cy (pm) (rj) (f_copyB σ a b)) (sp_A ad 459 s.heap.size)) ([.ref (ad (39 * a)), .ref (ad (39 * b))] : List Value).toArray s 0 0 (sp_A ad 459 s.heap.size)) (F0 m 2 ls []) := by
    intro n
    induction n with
    | zero => intro i H locs hle hlt hP hS ls hl; exact absurd hlt (Nat.not_lt_zero _)
    | succ n ih =>
      intro i H locs hle hlt hP hS ls hl
      refine lv_iload_n hx hb dX0_copyFrom_2 rfl (lv_at hl 0 rfl) ?_
      refine lv_aload_n hx hb dX0_copyFrom_3 rfl (lv_at hl 1 rfl) ?_
      refine sp_get hx hb hts wi_X0_copyFrom_X0 hown hK hP (κ := 39 * a) (by omega) (cE_beach (by omega) (by omega)) rfl 0 (by decide) (hts _ (List.mem_of_getElem? (i := 1) rfl)) (fun _ h => h) rfl dX0_copyFrom_4 ?_
      refine sp_alen hx hb hK hP (κ := 39 * a + 1) (by omega) 5 (cE_tracks (by omega) (by omega)) rfl (v := 6) rfl dX0_copyFrom_7 ?_
      refine lv_icmp_ge (tgt := 41) hx hb dX0_copyFrom_8 (by decide) (fun c_1 => ?_) (fun c_1 => ?_)
      · skip
        have c_1d := Int32.not_lt.mpr c_1
        have hx_i : i = 6 := by have := (nI_leI (a := 6) (b := i) (by omega) (by omega)).mp c_1; omega
        refine lv_iconst (v := 0) hx hb dX0_copyFrom_41 (by decide) ?_
        refine lv_istore_n (lv' := [(2, .int (0)), (0, .ref (ad (39 * a))), (1, .ref (ad (39 * b)))]) hx hb dX0_copyFrom_42 rfl hl (by decide) rfl (fun ls hl => ?_)
        have loop_43 : ∀ (n j : Nat) (H : Heap) (locs : List Loc), (j ≤ 30) → (30 - j < n) → (va_P D vwCl (cW ad cy pm rj (f_cpT σ a b (6 + j))) H) → (va_S (sp_A ad 459 s.heap.size) s.heap H locs) → ∀ ls : Array Slot, lv_has ls 3 [(2, .int (nI j)), (0, .ref (ad (39 * a))), (1, .ref (ad (39 * b)))] → W p l e (headSpec wsX0_copyFrom ({ frames := 1, cells := 0, slots := 0, locals := 21 } : Room)).room s m ([.ref (ad (39 * a)), .ref (ad (39 * b))] : List Value).toArray below meth c H locs 0 0 (MQ below (sp_Q D (none) (cW ad cy (pm) (rj) (f_copyB σ a b)) (sp_A ad 459 s.heap.size)) ([.ref (ad (39 * a)), .ref (ad (39 * b))] : List Value).toArray s 0 0 (sp_A ad 459 s.heap.size)) (F0 m 43 ls []) := by
          intro n
          induction n with
          | zero => intro j H locs hle hlt hP hS ls hl; exact absurd hlt (Nat.not_lt_zero _)
          | succ n ih =>
            intro j H locs hle hlt hP hS ls hl
            refine lv_iload_n hx hb dX0_copyFrom_43 rfl (lv_at hl 0 rfl) ?_
            refine lv_aload_n hx hb dX0_copyFrom_44 rfl (lv_at hl 1 rfl) ?_
            refine sp_get hx hb hts wi_X0_copyFrom_X0 hown hK hP (κ := 39 * a) (by omega) (cE_beach (by omega) (by omega)) rfl 1 (by decide) (hts _ (List.mem_of_getElem? (i := 2) rfl)) (fun _ h => h) rfl dX0_copyFrom_45 ?_
            refine sp_alen hx hb hK hP (κ := 39 * a + 2) (by omega) 4 (cE_prints (by omega) (by omega)) rfl (v := 30) rfl dX0_copyFrom_48 ?_
            refine lv_icmp_ge (tgt := 82) hx hb dX0_copyFrom_49 (by decide) (fun c_2 => ?_) (fun c_2 => ?_)
            · skip
              have c_2d := Int32.not_lt.mpr c_2
              have hx_j : j = 30 := by have := (nI_leI (a := 30) (b := j) (by omega) (by omega)).mp c_2; omega
              have hj30 : 6 + j = 36 := by omega
              rw [hj30] at hP
              refine lv_aload_n hx hb dX0_copyFrom_82 rfl (lv_at hl 1 rfl) ?_
              refine lv_aload_n hx hb dX0_copyFrom_83 rfl (lv_at hl 2 rfl) ?_
              refine sp_get hx hb hts wi_X0_copyFrom_X0 hown hK hP (κ := 39 * b) (by omega) (cE_beach (by omega) (by omega)) rfl 2 (by decide) (hts _ (List.mem_of_getElem? (i := 3) rfl)) (fun _ h => h) rfl dX0_copyFrom_84 ?_
              refine sp_put hx hb hts wi_X0_copyFrom_X0 tyX0 tyX0_ok nmX0 hown hK hP hi hAk hS (κ := 39 * a) (by omega) (cE_beach (by omega) (by omega)) rfl 2 (by decide) (hts _ (List.mem_of_getElem? (i := 3) rfl)) (fun _ h => h) rfl (ty := tyX0 2) (by decide +kernel) ⟨rfl, rfl⟩ (Nat.le_of_ble_eq_true rfl) (r1 := upd ((f_cpT σ a b 36) (39 * a)) 2 (f_cpT σ a b 36 (39 * b) 2)) (cE_of (cE_beach (by omega) (by omega)) (by simp [upd])) dX0_copyFrom_87 (fun H locs hP hS => ?_)
              have hP : va_P D vwCl (cW ad cy pm rj (sp_st (f_cpT σ a b 36) (39 * a) 2 (f_cpT σ a b 36 (39 * b) 2))) H := hP
              refine lv_aload_n hx hb dX0_copyFrom_90 rfl (lv_at hl 1 rfl) ?_
              refine lv_aload_n hx hb dX0_copyFrom_91 rfl (lv_at hl 2 rfl) ?_
              refine sp_get hx hb hts wi_X0_copyFrom_X0 hown hK hP (κ := 39 * b) (by omega) (cE_beach (by omega) (by omega)) rfl 3 (by decide) (hts _ (List.mem_of_getElem? (i := 4) rfl)) (fun _ h => h) rfl dX0_copyFrom_92 ?_
              refine W.eq (g2 := F0 m 95 ls [.int (f_cpT σ a b 36 (39 * b) 3), .ref (ad (39 * a))]) (by rw [sp_st_j _ _ _ _ _ _ (by decide)]) ?_
              refine sp_put hx hb hts wi_X0_copyFrom_X0 tyX0 tyX0_ok nmX0 hown hK hP hi hAk hS (κ := 39 * a) (by omega) (cE_beach (by omega) (by omega)) rfl 3 (by decide) (hts _ (List.mem_of_getElem? (i := 4) rfl)) (fun _ h => h) rfl (ty := tyX0 3) (by decide +kernel) ⟨rfl, rfl⟩ (Nat.le_of_ble_eq_true rfl) (r1 := upd ((sp_st (f_cpT σ a b 36) (39 * a) 2 (f_cpT σ a b 36 (39 * b) 2)) (39 * a)) 3 (f_cpT σ a b 36 (39 * b) 3)) (cE_of (cE_beach (by omega) (by omega)) (by simp [upd])) dX0_copyFrom_95 (fun H locs hP hS => ?_)
              have hP : va_P D vwCl (cW ad cy pm rj (sp_st (sp_st (f_cpT σ a b 36) (39 * a) 2 (f_cpT σ a b 36 (39 * b) 2)) (39 * a) 3 (f_cpT σ a b 36 (39 * b) 3))) H := hP
              refine lv_aload_n hx hb dX0_copyFrom_98 rfl (lv_at hl 1 rfl) ?_
              refine lv_aload_n hx hb dX0_copyFrom_99 rfl (lv_at hl 2 rfl) ?_
              refine sp_get hx hb hts wi_X0_copyFrom_X0 hown hK hP (κ := 39 * b) (by omega) (cE_beach (by omega) (by omega)) rfl 4 (by decide) (hts _ (List.mem_of_getElem? (i := 5) rfl)) (fun _ h => h) rfl dX0_copyFrom_100 ?_
              refine W.eq (g2 := F0 m 103 ls [.int (f_cpT σ a b 36 (39 * b) 4), .ref (ad (39 * a))]) (by rw [sp_st_j _ _ _ _ _ _ (by decide), sp_st_j _ _ _ _ _ _ (by decide)]) ?_
              refine sp_put hx hb hts wi_X0_copyFrom_X0 tyX0 tyX0_ok nmX0 hown hK hP hi hAk hS (κ := 39 * a) (by omega) (cE_beach (by omega) (by omega)) rfl 4 (by decide) (hts _ (List.mem_of_getElem? (i := 5) rfl)) (fun _ h => h) rfl (ty := tyX0 4) (by decide +kernel) ⟨rfl, rfl⟩ (Nat.le_of_ble_eq_true rfl) (r1 := upd ((sp_st (sp_st (f_cpT σ a b 36) (39 * a) 2 (f_cpT σ a b 36 (39 * b) 2)) (39 * a) 3 (f_cpT σ a b 36 (39 * b) 3)) (39 * a)) 4 (f_cpT σ a b 36 (39 * b) 4)) (cE_of (cE_beach (by omega) (by omega)) (by simp [upd])) dX0_copyFrom_103 (fun H locs hP hS => ?_)
              have hP : va_P D vwCl (cW ad cy pm rj (sp_st (sp_st (sp_st (f_cpT σ a b 36) (39 * a) 2 (f_cpT σ a b 36 (39 * b) 2)) (39 * a) 3 (f_cpT σ a b 36 (39 * b) 3)) (39 * a) 4 (f_cpT σ a b 36 (39 * b) 4))) H := hP
              refine lv_aload_n hx hb dX0_copyFrom_106 rfl (lv_at hl 1 rfl) ?_
              refine lv_aload_n hx hb dX0_copyFrom_107 rfl (lv_at hl 2 rfl) ?_
              refine sp_get hx hb hts wi_X0_copyFrom_X0 hown hK hP (κ := 39 * b) (by omega) (cE_beach (by omega) (by omega)) rfl 5 (by decide) (hts _ (List.mem_of_getElem? (i := 6) rfl)) (fun _ h => h) rfl dX0_copyFrom_108 ?_
              refine W.eq (g2 := F0 m 111 ls [.int (f_cpT σ a b 36 (39 * b) 5), .ref (ad (39 * a))]) (by rw [sp_st_j _ _ _ _ _ _ (by decide), sp_st_j _ _ _ _ _ _ (by decide), sp_st_j _ _ _ _ _ _ (by decide)]) ?_
              refine sp_put hx hb hts wi_X0_copyFrom_X0 tyX0 tyX0_ok nmX0 hown hK hP hi hAk hS (κ := 39 * a) (by omega) (cE_beach (by omega) (by omega)) rfl 5 (by decide) (hts _ (List.mem_of_getElem? (i := 6) rfl)) (fun _ h => h) rfl (ty := tyX0 5) (by decide +kernel) ⟨rfl, rfl⟩ (Nat.le_of_ble_eq_true rfl) (r1 := upd ((sp_st (sp_st (sp_st (f_cpT σ a b 36) (39 * a) 2 (f_cpT σ a b 36 (39 * b) 2)) (39 * a) 3 (f_cpT σ a b 36 (39 * b) 3)) (39 * a) 4 (f_cpT σ a b 36 (39 * b) 4)) (39 * a)) 5 (f_cpT σ a b 36 (39 * b) 5)) (cE_of (cE_beach (by omega) (by omega)) (by simp [upd])) dX0_copyFrom_111 (fun H locs hP hS => ?_)
              have hP : va_P D vwCl (cW ad cy pm rj (sp_st (sp_st (sp_st (sp_st (f_cpT σ a b 36) (39 * a) 2 (f_cpT σ a b 36 (39 * b) 2)) (39 * a) 3 (f_cpT σ a b 36 (39 * b) 3)) (39 * a) 4 (f_cpT σ a b 36 (39 * b) 4)) (39 * a) 5 (f_cpT σ a b 36 (39 * b) 5))) H := hP
              refine lv_aload_n hx hb dX0_copyFrom_114 rfl (lv_at hl 1 rfl) ?_
              refine lv_aload_n hx hb dX0_copyFrom_115 rfl (lv_at hl 2 rfl) ?_
              refine sp_get hx hb hts wi_X0_copyFrom_X0 hown hK hP (κ := 39 * b) (by omega) (cE_beach (by omega) (by omega)) rfl 6 (by decide) (hts _ (List.mem_of_getElem? (i := 7) rfl)) (fun _ h => h) rfl dX0_copyFrom_116 ?_
              refine W.eq (g2 := F0 m 119 ls [.int (f_cpT σ a b 36 (39 * b) 6), .ref (ad (39 * a))]) (by rw [sp_st_j _ _ _ _ _ _ (by decide), sp_st_j _ _ _ _ _ _ (by decide), sp_st_j _ _ _ _ _ _ (by decide), sp_st_j _ _ _ _ _ _ (by decide)]) ?_
              refine sp_put hx hb hts wi_X0_copyFrom_X0 tyX0 tyX0_ok nmX0 hown hK hP hi hAk hS (κ := 39 * a) (by omega) (cE_beach (by omega) (by omega)) rfl 6 (by decide) (hts _ (List.mem_of_getElem? (i := 7) rfl)) (fun _ h => h) rfl (ty := tyX0 6) (by decide +kernel) ⟨rfl, rfl⟩ (Nat.le_of_ble_eq_true rfl) (r1 := upd ((sp_st (sp_st (sp_st (sp_st (f_cpT σ a b 36) (39 * a) 2 (f_cpT σ a b 36 (39 * b) 2)) (39 * a) 3 (f_cpT σ a b 36 (39 * b) 3)) (39 * a) 4 (f_cpT σ a b 36 (39 * b) 4)) (39 * a) 5 (f_cpT σ a b 36 (39 * b) 5)) (39 * a)) 6 (f_cpT σ a b 36 (39 * b) 6)) (cE_of (cE_beach (by omega) (by omega)) (by simp [upd])) dX0_copyFrom_119 (fun H locs hP hS => ?_)
              have hP : va_P D vwCl (cW ad cy pm rj (sp_st (sp_st (sp_st (sp_st (sp_st (f_cpT σ a b 36) (39 * a) 2 (f_cpT σ a b 36 (39 * b) 2)) (39 * a) 3 (f_cpT σ a b 36 (39 * b) 3)) (39 * a) 4 (f_cpT σ a b 36 (39 * b) 4)) (39 * a) 5 (f_cpT σ a b 36 (39 * b) 5)) (39 * a) 6 (f_cpT σ a b 36 (39 * b) 6))) H := hP
              have hE9 : cW ad cy (pm) (rj) (sp_st (sp_st (sp_st (sp_st (sp_st (f_cpT σ a b 36) (39 * a) 2 (f_cpT σ a b 36 (39 * b) 2)) (39 * a) 3 (f_cpT σ a b 36 (39 * b) 3)) (39 * a) 4 (f_cpT σ a b 36 (39 * b) 4)) (39 * a) 5 (f_cpT σ a b 36 (39 * b) 5)) (39 * a) 6 (f_cpT σ a b 36 (39 * b) 6)) = cW ad cy (pm) (rj) (f_copyB σ a b) := by exact copyB_world (by omega) (by omega) (by omega)
              have hP : va_P D vwCl (cW ad cy (pm) (rj) (f_copyB σ a b)) H := by rw [← hE9]; exact hP
              exact W.vret hx hb hr (fun T9 hT9 _ => ⟨rfl, by rw [hT9]; exact hP, hS.F hT9⟩) hS.2.2 dX0_copyFrom_122
            · skip
              have c_2d := Int32.not_le.mp c_2
              have hb_j : j < 30 := Nat.lt_of_not_le (fun z => c_2 (nI_le z (by omega)))
              refine lv_iload_n hx hb dX0_copyFrom_52 rfl (lv_at hl 0 rfl) ?_
              refine lv_aload_n hx hb dX0_copyFrom_53 rfl (lv_at hl 2 rfl) ?_
              refine sp_get hx hb hts wi_X0_copyFrom_X0 hown hK hP (κ := 39 * b) (by omega) (cE_beach (by omega) (by omega)) rfl 1 (by decide) (hts _ (List.mem_of_getElem? (i := 2) rfl)) (fun _ h => h) rfl dX0_copyFrom_54 ?_
              refine sp_alen hx hb hK hP (κ := 39 * b + 2) (by omega) 4 (cE_prints (by omega) (by omega)) rfl (v := 30) rfl dX0_copyFrom_57 ?_
              refine lv_icmp_ge (tgt := 82) hx hb dX0_copyFrom_58 (by decide) (fun c_3 => ?_) (fun c_3 => ?_)
              · exact absurd ((nI_leI (a := 30) (b := j) (by omega) (by omega)).mp c_3) (by omega)
              · skip
                have c_3d := Int32.not_le.mp c_3
                refine lv_aload_n hx hb dX0_copyFrom_61 rfl (lv_at hl 1 rfl) ?_
                refine sp_get hx hb hts wi_X0_copyFrom_X0 hown hK hP (κ := 39 * a) (by omega) (cE_beach (by omega) (by omega)) rfl 1 (by decide) (hts _ (List.mem_of_getElem? (i := 2) rfl)) (fun _ h => h) rfl dX0_copyFrom_62 ?_
                refine lv_iload_n hx hb dX0_copyFrom_65 rfl (lv_at hl 0 rfl) ?_
                refine sp_aald hx hb hK hP (κ := 39 * a + 2) (by omega) 4 (cE_prints (by omega) (by omega)) rfl j rfl (by omega) (by decide) (q := ad (39 * a + 9 + j)) rfl dX0_copyFrom_66 ?_
                refine lv_aload_n hx hb dX0_copyFrom_67 rfl (lv_at hl 2 rfl) ?_
                refine sp_get hx hb hts wi_X0_copyFrom_X0 hown hK hP (κ := 39 * b) (by omega) (cE_beach (by omega) (by omega)) rfl 1 (by decide) (hts _ (List.mem_of_getElem? (i := 2) rfl)) (fun _ h => h) rfl dX0_copyFrom_68 ?_
                refine lv_iload_n hx hb dX0_copyFrom_71 rfl (lv_at hl 0 rfl) ?_
                refine sp_aald hx hb hK hP (κ := 39 * b + 2) (by omega) 4 (cE_prints (by omega) (by omega)) rfl j rfl (by omega) (by decide) (q := ad (39 * b + 9 + j)) rfl dX0_copyFrom_72 ?_
                refine sp_callm (va_runV (As := [.ref (ad (39 * b + 9 + j))]) (rest := []) ⟨hx, hb, hml, hown, hts⟩ (c_X3_copyFrom l D ad cy pm rj (f_cpT σ a b (6 + j)) _ hi (39 * a + 9 + j) (by omega) (by omega) (39 * b + 9 + j) (by omega) (by omega)) (cwV 1 hts gX0_copyFrom_X3_copyFrom rfl rfl rfl (by decide +kernel) ⟨Nat.le_of_ble_eq_true rfl, Nat.le_of_ble_eq_true rfl⟩) (sp_preVm hK hP (κ := 39 * a + 9 + j) (by omega) (cE_print (by omega) (by omega)) rfl) rfl rfl hl.1 rfl (lv_room (Nat.le_of_ble_eq_true rfl)) dX0_copyFrom_73 ⟨Nat.le_of_ble_eq_true rfl, Nat.le_of_ble_eq_true rfl⟩) hS (fun q h1 h2 => sp_Alt h1 h2) (sp_Ale hS.1) (fun H locs hP hle hfr hS => ?_)
                refine W.eq (g2 := F0 m 76 ls []) rfl ?_
                refine lv_iinc (v := nI (j + 1)) (lv' := [(2, .int (nI (j + 1))), (0, .ref (ad (39 * a))), (1, .ref (ad (39 * b)))]) hx hb dX0_copyFrom_76 hl (k := 0) rfl (nI_1 _) (by decide) rfl (fun ls hl => ?_)
                refine lv_goto (tgt := 43) hx hb dX0_copyFrom_79 (by decide) ?_
                exact ih (j + 1)  _ _ (by omega) (by omega)  ((show cW ad cy pm rj (sp_up (f_cpT σ a b (6 + j)) (39 * a + 9 + j) ((f_cpT σ a b (6 + j)) (39 * b + 9 + j))) = cW ad cy pm rj (f_cpT σ a b (6 + (j + 1))) from (by refine cW_eq rfl ?_; exact f_cpT_p (by omega) (by omega))) ▸ hP) hS ls (lv_sub hl [0, 1, 2] rfl)
        exact loop_43 (30 + 1) (0)  _ _ (by omega) (by omega)  ((show cW ad cy pm rj (f_cpT σ a b i) = cW ad cy pm rj (f_cpT σ a b (6 + 0)) from (by rw [hx_i])) ▸ hP) hS ls (lv_sub hl [0, 1, 2] rfl)
      · skip
        have c_1d := Int32.not_le.mp c_1
        have hb_i : i < 6 := Nat.lt_of_not_le (fun z => c_1 (nI_le z (by omega)))
        refine lv_iload_n hx hb dX0_copyFrom_11 rfl (lv_at hl 0 rfl) ?_
        refine lv_aload_n hx hb dX0_copyFrom_12 rfl (lv_at hl 2 rfl) ?_
        refine sp_get hx hb hts wi_X0_copyFrom_X0 hown hK hP (κ := 39 * b) (by omega) (cE_beach (by omega) (by omega)) rfl 0 (by decide) (hts _ (List.mem_of_getElem? (i := 1) rfl)) (fun _ h => h) rfl dX0_copyFrom_13 ?_
        refine sp_alen hx hb hK hP (κ := 39 * b + 1) (by omega) 5 (cE_tracks (by omega) (by omega)) rfl (v := 6) rfl dX0_copyFrom_16 ?_
        refine lv_icmp_ge (tgt := 41) hx hb dX0_copyFrom_17 (by decide) (fun c_4 => ?_) (fun c_4 => ?_)
        · exact absurd ((nI_leI (a := 6) (b := i) (by omega) (by omega)).mp c_4) (by omega)
        · skip
          have c_4d := Int32.not_le.mp c_4
          refine lv_aload_n hx hb dX0_copyFrom_20 rfl (lv_at hl 1 rfl) ?_
          refine sp_get hx hb hts wi_X0_copyFrom_X0 hown hK hP (κ := 39 * a) (by omega) (cE_beach (by omega) (by omega)) rfl 0 (by decide) (hts _ (List.mem_of_getElem? (i := 1) rfl)) (fun _ h => h) rfl dX0_copyFrom_21 ?_
          refine lv_iload_n hx hb dX0_copyFrom_24 rfl (lv_at hl 0 rfl) ?_
          refine sp_aald hx hb hK hP (κ := 39 * a + 1) (by omega) 5 (cE_tracks (by omega) (by omega)) rfl i rfl (by omega) (by decide) (q := ad (39 * a + 3 + i)) rfl dX0_copyFrom_25 ?_
          refine lv_aload_n hx hb dX0_copyFrom_26 rfl (lv_at hl 2 rfl) ?_
          refine sp_get hx hb hts wi_X0_copyFrom_X0 hown hK hP (κ := 39 * b) (by omega) (cE_beach (by omega) (by omega)) rfl 0 (by decide) (hts _ (List.mem_of_getElem? (i := 1) rfl)) (fun _ h => h) rfl dX0_copyFrom_27 ?_
          refine lv_iload_n hx hb dX0_copyFrom_30 rfl (lv_at hl 0 rfl) ?_
          refine sp_aald hx hb hK hP (κ := 39 * b + 1) (by omega) 5 (cE_tracks (by omega) (by omega)) rfl i rfl (by omega) (by decide) (q := ad (39 * b + 3 + i)) rfl dX0_copyFrom_31 ?_
          refine sp_callm (va_runV (As := [.ref (ad (39 * b + 3 + i))]) (rest := []) ⟨hx, hb, hml, hown, hts⟩ (c_X8_copyFrom l D ad cy pm rj (f_cpT σ a b i) _ hi (39 * a + 3 + i) (by omega) (by omega) (39 * b + 3 + i) (by omega) (by omega)) (cwV 1 hts gX0_copyFrom_X8_copyFrom rfl rfl rfl (by decide +kernel) ⟨Nat.le_of_ble_eq_true rfl, Nat.le_of_ble_eq_true rfl⟩) (sp_preVm hK hP (κ := 39 * a + 3 + i) (by omega) (cE_track (by omega) (by omega)) rfl) rfl rfl hl.1 rfl (lv_room (Nat.le_of_ble_eq_true rfl)) dX0_copyFrom_32 ⟨Nat.le_of_ble_eq_true rfl, Nat.le_of_ble_eq_true rfl⟩) hS (fun q h1 h2 => sp_Alt h1 h2) (sp_Ale hS.1) (fun H locs hP hle hfr hS => ?_)
          refine W.eq (g2 := F0 m 35 ls []) rfl ?_
          refine lv_iinc (v := nI (i + 1)) (lv' := [(2, .int (nI (i + 1))), (0, .ref (ad (39 * a))), (1, .ref (ad (39 * b)))]) hx hb dX0_copyFrom_35 hl (k := 0) rfl (nI_1 _) (by decide) rfl (fun ls hl => ?_)
          refine lv_goto (tgt := 2) hx hb dX0_copyFrom_38 (by decide) ?_
          exact ih (i + 1)  _ _ (by omega) (by omega)  ((show cW ad cy pm rj (sp_up (f_cpT σ a b i) (39 * a + 3 + i) ((f_cpT σ a b i) (39 * b + 3 + i))) = cW ad cy pm rj (f_cpT σ a b (i + 1)) from (by refine cW_eq rfl ?_; exact f_cpT_s (by omega) (by omega))) ▸ hP) hS ls (lv_sub hl [0, 1, 2] rfl)
  exact loop_2 (6 + 1) (0)  _ _ (by omega) (by omega)  ((show cW ad cy pm rj (σ) = cW ad cy pm rj (f_cpT σ a b 0) from (by refine cW_eq rfl ?_; exact (f_cpT_0 σ a b).symm)) ▸ hP) hS ls (lv_sub hl [0, 1, 2] rfl)

theorem wi_X0_putTrack_X0 : ∀ w ∈ wsX00, w ∈ wsX0_putTrack := by decide +kernel
theorem wi_X0_putTrack_X8 : ∀ w ∈ wsX80, w ∈ wsX0_putTrack := by decide +kernel
set_option maxHeartbeats 4000000 in
set_option maxRecDepth 100000 in
theorem c_X0_putTrack (l : Launch) (D : va_G) (ad : Nat → Nat) (cy : Nat → ClassId) (pm : Nat → Nat) (rj : Option Nat) (σ : Nat → Nat → Int32) (sz : Nat) (hi : sp_inj ad 459) (z : Int32) : Met l yX0_putTrack wsX0_putTrack ({ frames := 0, cells := 0, slots := 0, locals := 0 } : Room) (sp_Pm D (tyG cy) sz [.ref (ad (0)), .int (z)] (cW ad cy pm rj σ)) (sp_Q D (some (.int (f_putTv σ))) (cW ad cy (pm) (rj) (f_putT σ z)) (sp_A ad 459 sz)) 0 0 (sp_A ad 459 sz) := by
  refine Met.ofW (cc := cX0_putTrack) (maxL := 6) (ret := (some .int)) (by decide) rfl ?_
  intro p e s m args below meth c s₁ B hml hv
  obtain ⟨rfl, hsz, hP, hK⟩ := hv
  have hx := B.exec
  have hb := B.bytes
  have hr := B.returns
  have hts := atoms_spec (ws := wsX0_putTrack) B.pre
  have hown : s.vm.findClass RX0 = some m.cls := findClass_of_methodNamed B.named
  have hlocks := B.notSynchronized
  subst hsz
  have hS : va_S (sp_A ad 459 s.heap.size) s.heap s.heap [] := va_S.rf
  have hAk : ∀ k, k < 459 → (sp_A ad 459 s.heap.size) (ad k) := fun k hk => Or.inl ⟨k, hk, rfl⟩
  skip
  have hl := lv_entry ([.ref (ad (0)), .int (z)]) (n := 6) (Nat.le_of_ble_eq_true rfl)
  refine W.eq (lg_entry_eq _ ([.ref (ad (0)), .int (z)]) _) ?_
  generalize (lg_sl ([.ref (ad (0)), .int (z)]) ++ List.replicate (6 - (lg_sl ([.ref (ad (0)), .int (z)])).length) Slot.unset).toArray = ls at hl ⊢
  have hl : lv_has ls 6 [(0, .ref (ad (0))), (1, .int (z))] := hl
  refine lv_aload_n hx hb dX0_putTrack_0 rfl (lv_at hl 0 rfl) ?_
  refine sp_get hx hb hts wi_X0_putTrack_X0 hown hK hP (κ := 0) (by omega) (cE_beach (by omega) (by omega)) rfl 0 (by decide) (hts _ (List.mem_of_getElem? (i := 1) rfl)) (fun _ h => h) rfl dX0_putTrack_1 ?_
  refine lv_astore_n (lv' := [(2, .ref (ad (1))), (0, .ref (ad (0))), (1, .int (z))]) hx hb dX0_putTrack_4 rfl hl (by decide) rfl (fun ls hl => ?_)
  refine lv_aload_n hx hb dX0_putTrack_5 rfl (lv_at hl 0 rfl) ?_
  refine sp_alen hx hb hK hP (κ := 1) (by omega) 5 (cE_tracks (by omega) (by omega)) rfl (v := 6) rfl dX0_putTrack_6 ?_
  refine lv_istore_n (lv' := [(3, .int (6)), (2, .ref (ad (1))), (0, .ref (ad (0))), (1, .int (z))]) hx hb dX0_putTrack_7 rfl hl (by decide) rfl (fun ls hl => ?_)
  refine lv_iconst (v := 0) hx hb dX0_putTrack_8 (by decide) ?_
  refine lv_istore (lv' := [(4, .int (0)), (3, .int (6)), (2, .ref (ad (1))), (0, .ref (ad (0))), (1, .int (z))]) hx hb dX0_putTrack_9 hl (by decide) rfl (fun ls hl => ?_)
  have loop_11 : ∀ (n i : Nat), (i ≤ 6) → (6 - i < n) → (fstI (P_freeT σ) i = none) → ∀ ls : Array Slot, lv_has ls 6 [(4, .int (nI i)), (3, .int (6)), (2, .ref (ad (1))), (0, .ref (ad (0))), (1, .int (z))] → W p l e (headSpec wsX0_putTrack ({ frames := 0, cells := 0, slots := 0, locals := 0 } : Room)).room s m ([.ref (ad (0)), .int (z)] : List Value).toArray below meth c s.heap [] 0 0 (MQ below (sp_Q D (some (.int (f_putTv σ))) (cW ad cy (pm) (rj) (f_putT σ z)) (sp_A ad 459 s.heap.size)) ([.ref (ad (0)), .int (z)] : List Value).toArray s 0 0 (sp_A ad 459 s.heap.size)) (F0 m 11 ls []) := by
    intro n
    induction n with
    | zero => intro i hle hlt hi_0 ls hl; exact absurd hlt (Nat.not_lt_zero _)
    | succ n ih =>
      intro i hle hlt hi_0 ls hl
      refine lv_iload hx hb dX0_putTrack_11 (lv_at hl 0 rfl) ?_
      refine lv_iload_n hx hb dX0_putTrack_13 rfl (lv_at hl 1 rfl) ?_
      refine lv_icmp_ge (tgt := 74) hx hb dX0_putTrack_14 (by decide) (fun c_1 => ?_) (fun c_1 => ?_)
      · skip
        have c_1d := Int32.not_lt.mpr c_1
        have hx_i : i = 6 := by have := (nI_leI (a := 6) (b := i) (by omega) (by omega)).mp c_1; omega
        try rw [hx_i] at hi_0
        have hf : f_freeT σ = none := hi_0
        refine lv_iconst (v := (-1)) hx hb dX0_putTrack_74 (by decide) ?_
        have hE9 : cW ad cy (pm) (rj) (σ) = cW ad cy (pm) (rj) (f_putT σ z) := by exact cW_eq rfl (by simp only [f_putT, hf])
        have hP : va_P D vwCl (cW ad cy (pm) (rj) (f_putT σ z)) s.heap := by rw [← hE9]; exact hP
        exact W.iret (v := (-1)) hx hb hr (fun T9 hT9 _ => ⟨congrArg (fun z9 => Outcome.returned (some (Value.int z9))) (show ((-1) : Int32) = f_putTv σ from (by simp only [f_putTv, hf])), by rw [hT9]; exact hP, hS.F hT9⟩) hS.2.2 dX0_putTrack_75
      · skip
        have c_1d := Int32.not_le.mp c_1
        have hb_i : i < 6 := Nat.lt_of_not_le (fun z => c_1 (nI_le z (by omega)))
        refine lv_aload_n hx hb dX0_putTrack_17 rfl (lv_at hl 2 rfl) ?_
        refine lv_iload hx hb dX0_putTrack_18 (lv_at hl 0 rfl) ?_
        refine sp_aald hx hb hK hP (κ := 1) (by omega) 5 (cE_tracks (by omega) (by omega)) rfl i rfl (by omega) (by decide) (q := ad (3 + i)) rfl dX0_putTrack_20 ?_
        refine lv_astore (lv' := [(5, .ref (ad (3 + i))), (4, .int (nI i)), (3, .int (6)), (2, .ref (ad (1))), (0, .ref (ad (0))), (1, .int (z))]) hx hb dX0_putTrack_21 hl (by decide) rfl (fun ls hl => ?_)
        refine lv_aload hx hb dX0_putTrack_23 (lv_at hl 0 rfl) ?_
        refine sp_get hx hb hts wi_X0_putTrack_X8 hown hK hP (κ := 3 + i) (by omega) (cE_track (by omega) (by omega)) rfl 0 (by decide) (hts _ (List.mem_of_getElem? (i := 2) rfl)) (fun _ h => h) rfl dX0_putTrack_25 ?_
        refine lv_if_ne (tgt := 68) hx hb dX0_putTrack_28 (by decide) (fun c_2 => ?_) (fun c_2 => ?_)
        · rw [bz_eq0] at c_2
          refine lv_iinc (v := nI (i + 1)) (lv' := [(4, .int (nI (i + 1))), (5, .ref (ad (3 + i))), (3, .int (6)), (2, .ref (ad (1))), (0, .ref (ad (0))), (1, .int (z))]) hx hb dX0_putTrack_68 hl (k := 1) rfl (nI_1 _) (by decide) rfl (fun ls hl => ?_)
          refine lv_goto (tgt := 11) hx hb dX0_putTrack_71 (by decide) ?_
          exact ih (i + 1) (by omega) (by omega) (fstI_succ_no hi_0 (by simp [P_freeT, b2i, c_2])) ls (lv_sub hl [0, 2, 3, 4, 5] rfl)
        · rw [bz_eq0] at c_2
          have hf : f_freeT σ = some i := fstI_hit hi_0 (by simp [P_freeT, c_2]) hb_i
          refine lv_aload hx hb dX0_putTrack_31 (lv_at hl 0 rfl) ?_
          refine lv_iconst (v := 1) hx hb dX0_putTrack_33 (by decide) ?_
          refine sp_put hx hb hts wi_X0_putTrack_X8 tyX8 tyX8_ok nmX8 hown hK hP hi hAk hS (κ := 3 + i) (by omega) (cE_track (by omega) (by omega)) rfl 0 (by decide) (hts _ (List.mem_of_getElem? (i := 2) rfl)) (fun _ h => h) rfl (ty := tyX8 0) (by decide +kernel) (nz_of (show bz 1 = 1 by decide)) (Nat.le_of_ble_eq_true rfl) (r1 := upd (σ (3 + i)) 0 1) (cE_of (cE_track (by omega) (by omega)) (by simp [upd, (show bz 1 = 1 by decide)])) dX0_putTrack_34 (fun H locs hP hS => ?_)
          have hP : va_P D vwCl (cW ad cy pm rj (sp_st σ (3 + i) 0 1)) H := hP
          refine lv_aload hx hb dX0_putTrack_37 (lv_at hl 0 rfl) ?_
          refine lv_aload_n hx hb dX0_putTrack_39 rfl (lv_at hl 4 rfl) ?_
          refine sp_get hx hb hts wi_X0_putTrack_X0 hown hK hP (κ := 0) (by omega) (cE_beach (by omega) (by omega)) rfl 3 (by decide) (hts _ (List.mem_of_getElem? (i := 3) rfl)) (fun _ h => h) rfl dX0_putTrack_40 ?_
          refine W.eq (g2 := F0 m 43 ls [.int (σ 0 3), .ref (ad (3 + i))]) (by rw [sp_st_k _ _ _ _ _ _ (by omega)]) ?_
          refine sp_put hx hb hts wi_X0_putTrack_X8 tyX8 tyX8_ok nmX8 hown hK hP hi hAk hS (κ := 3 + i) (by omega) (cE_track (by omega) (by omega)) rfl 1 (by decide) (hts _ (List.mem_of_getElem? (i := 4) rfl)) (fun _ h => h) rfl (ty := tyX8 1) (by decide +kernel) ⟨rfl, rfl⟩ (Nat.le_of_ble_eq_true rfl) (r1 := upd ((sp_st σ (3 + i) 0 1) (3 + i)) 1 (σ 0 3)) (cE_of (cE_track (by omega) (by omega)) (by simp [upd])) dX0_putTrack_43 (fun H locs hP hS => ?_)
          have hP : va_P D vwCl (cW ad cy pm rj (sp_st (sp_st σ (3 + i) 0 1) (3 + i) 1 (σ 0 3))) H := hP
          refine lv_aload hx hb dX0_putTrack_46 (lv_at hl 0 rfl) ?_
          refine lv_iload_n hx hb dX0_putTrack_48 rfl (lv_at hl 5 rfl) ?_
          refine sp_put hx hb hts wi_X0_putTrack_X8 tyX8 tyX8_ok nmX8 hown hK hP hi hAk hS (κ := 3 + i) (by omega) (cE_track (by omega) (by omega)) rfl 2 (by decide) (hts _ (List.mem_of_getElem? (i := 5) rfl)) (fun _ h => h) rfl (ty := tyX8 2) (by decide +kernel) ⟨rfl, rfl⟩ (Nat.le_of_ble_eq_true rfl) (r1 := upd ((sp_st (sp_st σ (3 + i) 0 1) (3 + i) 1 (σ 0 3)) (3 + i)) 2 z) (cE_of (cE_track (by omega) (by omega)) (by simp [upd])) dX0_putTrack_49 (fun H locs hP hS => ?_)
          have hP : va_P D vwCl (cW ad cy pm rj (sp_st (sp_st (sp_st σ (3 + i) 0 1) (3 + i) 1 (σ 0 3)) (3 + i) 2 z)) H := hP
          refine lv_aload_n hx hb dX0_putTrack_52 rfl (lv_at hl 4 rfl) ?_
          refine lv_dup hx hb dX0_putTrack_53 rfl ?_
          refine sp_get hx hb hts wi_X0_putTrack_X0 hown hK hP (κ := 0) (by omega) (cE_beach (by omega) (by omega)) rfl 3 (by decide) (hts _ (List.mem_of_getElem? (i := 3) rfl)) (fun _ h => h) rfl dX0_putTrack_54 ?_
          refine W.eq (g2 := F0 m 57 ls [.int (σ 0 3), .ref (ad (0))]) (by rw [sp_st_k _ _ _ _ _ _ (by omega), sp_st_k _ _ _ _ _ _ (by omega), sp_st_k _ _ _ _ _ _ (by omega)]) ?_
          refine lv_iconst (v := 1) hx hb dX0_putTrack_57 (by decide) ?_
          refine lv_iadd hx hb dX0_putTrack_58 ?_
          refine sp_put hx hb hts wi_X0_putTrack_X0 tyX0 tyX0_ok nmX0 hown hK hP hi hAk hS (κ := 0) (by omega) (cE_beach (by omega) (by omega)) rfl 3 (by decide) (hts _ (List.mem_of_getElem? (i := 3) rfl)) (fun _ h => h) rfl (ty := tyX0 3) (by decide +kernel) ⟨rfl, rfl⟩ (Nat.le_of_ble_eq_true rfl) (r1 := upd ((sp_st (sp_st (sp_st σ (3 + i) 0 1) (3 + i) 1 (σ 0 3)) (3 + i) 2 z) 0) 3 ((σ 0 3) + 1)) (cE_of (cE_beach (by omega) (by omega)) (by simp [upd])) dX0_putTrack_59 (fun H locs hP hS => ?_)
          have hP : va_P D vwCl (cW ad cy pm rj (sp_st (sp_st (sp_st (sp_st σ (3 + i) 0 1) (3 + i) 1 (σ 0 3)) (3 + i) 2 z) 0 3 ((σ 0 3) + 1))) H := hP
          refine lv_aload hx hb dX0_putTrack_62 (lv_at hl 0 rfl) ?_
          refine sp_get hx hb hts wi_X0_putTrack_X8 hown hK hP (κ := 3 + i) (by omega) (cE_track (by omega) (by omega)) rfl 1 (by decide) (hts _ (List.mem_of_getElem? (i := 4) rfl)) (fun _ h => h) rfl dX0_putTrack_64 ?_
          refine W.eq (g2 := F0 m 67 ls [.int (σ 0 3)]) (by rw [sp_st_k _ _ _ _ _ _ (by omega), sp_st_j _ _ _ _ _ _ (by decide), sp_st_s]) ?_
          have hE9 : cW ad cy (pm) (rj) (sp_st (sp_st (sp_st (sp_st σ (3 + i) 0 1) (3 + i) 1 (σ 0 3)) (3 + i) 2 z) 0 3 ((σ 0 3) + 1)) = cW ad cy (pm) (rj) (f_putT σ z) := by exact cW_eq rfl (by simp only [f_putT, hf])
          have hP : va_P D vwCl (cW ad cy (pm) (rj) (f_putT σ z)) H := by rw [← hE9]; exact hP
          exact W.iret (v := σ 0 3) hx hb hr (fun T9 hT9 _ => ⟨congrArg (fun z9 => Outcome.returned (some (Value.int z9))) (show (σ 0 3 : Int32) = f_putTv σ from (by simp only [f_putTv, hf])), by rw [hT9]; exact hP, hS.F hT9⟩) hS.2.2 dX0_putTrack_67
  exact loop_11 (6 + 1) (0)  (by omega) (by omega) (rfl) ls (lv_sub hl [0, 1, 2, 3, 4] rfl)

theorem wi_X0_putPrint_X0 : ∀ w ∈ wsX00, w ∈ wsX0_putPrint := by decide +kernel
theorem wi_X0_putPrint_X3 : ∀ w ∈ wsX30, w ∈ wsX0_putPrint := by decide +kernel
set_option maxHeartbeats 4000000 in
set_option maxRecDepth 100000 in
theorem c_X0_putPrint (l : Launch) (D : va_G) (ad : Nat → Nat) (cy : Nat → ClassId) (pm : Nat → Nat) (rj : Option Nat) (σ : Nat → Nat → Int32) (sz : Nat) (hi : sp_inj ad 459) (t : Int32) (u : Int32) (r : Int32) (c1 : Int32) (lf : Bool) (z : Int32) : Met l yX0_putPrint wsX0_putPrint ({ frames := 2, cells := 0, slots := 0, locals := 49 } : Room) (sp_Pm D (tyG cy) sz [.ref (ad (0)), .int (t), .int (u), .int (r), .int (c1), .int (b2i lf), .int (z)] (cW ad cy pm rj σ)) (sp_Q D (some (.int (f_putPv σ))) (cW ad cy (pm) (rj) (f_putP σ t u r c1 lf z)) (sp_A ad 459 sz)) 0 0 (sp_A ad 459 sz) := by
  refine Met.ofW (cc := cX0_putPrint) (maxL := 12) (ret := (some .int)) (by decide) rfl ?_
  intro p e s m args below meth c s₁ B hml hv
  obtain ⟨rfl, hsz, hP, hK⟩ := hv
  have hx := B.exec
  have hb := B.bytes
  have hr := B.returns
  have hts := atoms_spec (ws := wsX0_putPrint) B.pre
  have hown : s.vm.findClass RX0 = some m.cls := findClass_of_methodNamed B.named
  have hlocks := B.notSynchronized
  subst hsz
  have hS : va_S (sp_A ad 459 s.heap.size) s.heap s.heap [] := va_S.rf
  have hAk : ∀ k, k < 459 → (sp_A ad 459 s.heap.size) (ad k) := fun k hk => Or.inl ⟨k, hk, rfl⟩
  skip
  have hl := lv_entry ([.ref (ad (0)), .int (t), .int (u), .int (r), .int (c1), .int (b2i lf), .int (z)]) (n := 12) (Nat.le_of_ble_eq_true rfl)
  refine W.eq (lg_entry_eq _ ([.ref (ad (0)), .int (t), .int (u), .int (r), .int (c1), .int (b2i lf), .int (z)]) _) ?_
  generalize (lg_sl ([.ref (ad (0)), .int (t), .int (u), .int (r), .int (c1), .int (b2i lf), .int (z)]) ++ List.replicate (12 - (lg_sl ([.ref (ad (0)), .int (t), .int (u), .int (r), .int (c1), .int (b2i lf), .int (z)])).length) Slot.unset).toArray = ls at hl ⊢
  have hl : lv_has ls 12 [(0, .ref (ad (0))), (1, .int (t)), (2, .int (u)), (3, .int (r)), (4, .int (c1)), (5, .int (b2i lf)), (6, .int (z))] := hl
  refine lv_aload_n hx hb dX0_putPrint_0 rfl (lv_at hl 0 rfl) ?_
  refine lv_iload_n hx hb dX0_putPrint_1 rfl (lv_at hl 1 rfl) ?_
  refine lv_iload_n hx hb dX0_putPrint_2 rfl (lv_at hl 2 rfl) ?_
  refine lv_sipush (v := 1000) hx hb dX0_putPrint_3 (by decide) ?_
  refine sp_call (W.runV (As := [.int (t), .int (u), .int (1000)]) (rest := []) ⟨hx, hb, hml, hown, hts⟩ (c_X0_countPrintsBetween l D ad cy pm rj σ t u 1000) (cwV 3 hts gX0_putPrint_X0_countPrintsBetween rfl rfl rfl (by decide +kernel) ⟨Nat.le_of_ble_eq_true rfl, Nat.le_of_ble_eq_true rfl⟩) (sp_preV hK hP (κ := 0) (by omega) (cE_beach (by omega) (by omega)) rfl) rfl rfl hl.1 rfl (lv_room (Nat.le_of_ble_eq_true rfl)) dX0_putPrint_6 ⟨Nat.le_of_ble_eq_true rfl, Nat.le_of_ble_eq_true rfl⟩) ?_
  refine W.eq (g2 := F0 m 9 ls [.int (f_countPrintsBetween σ t u 1000)]) rfl ?_
  refine lv_if_le (tgt := 16) hx hb dX0_putPrint_9 (by decide) (fun c_1 => ?_) (fun c_1 => ?_)
  · skip
    have c_1d := Int32.not_lt.mpr c_1
    have hlate : b2i (decide (0 < f_countPrintsBetween σ t u 1000)) = 0 := by rw [decide_eq_false c_1d]; rfl
    refine lv_iconst (v := 0) hx hb dX0_putPrint_16 (by decide) ?_
    refine lv_istore (lv' := [(7, .int (0)), (0, .ref (ad (0))), (1, .int (t)), (2, .int (u)), (3, .int (r)), (4, .int (c1)), (5, .int (b2i lf)), (6, .int (z))]) hx hb dX0_putPrint_17 hl (by decide) rfl (fun ls hl => ?_)
    refine lv_aload_n hx hb dX0_putPrint_19 rfl (lv_at hl 1 rfl) ?_
    refine sp_get hx hb hts wi_X0_putPrint_X0 hown hK hP (κ := 0) (by omega) (cE_beach (by omega) (by omega)) rfl 1 (by decide) (hts _ (List.mem_of_getElem? (i := 1) rfl)) (fun _ h => h) rfl dX0_putPrint_20 ?_
    refine lv_astore (lv' := [(8, .ref (ad (2))), (7, .int (0)), (0, .ref (ad (0))), (1, .int (t)), (2, .int (u)), (3, .int (r)), (4, .int (c1)), (5, .int (b2i lf)), (6, .int (z))]) hx hb dX0_putPrint_23 hl (by decide) rfl (fun ls hl => ?_)
    refine lv_aload hx hb dX0_putPrint_25 (lv_at hl 0 rfl) ?_
    refine sp_alen hx hb hK hP (κ := 2) (by omega) 4 (cE_prints (by omega) (by omega)) rfl (v := 30) rfl dX0_putPrint_27 ?_
    refine lv_istore (lv' := [(9, .int (30)), (8, .ref (ad (2))), (7, .int (0)), (0, .ref (ad (0))), (1, .int (t)), (2, .int (u)), (3, .int (r)), (4, .int (c1)), (5, .int (b2i lf)), (6, .int (z))]) hx hb dX0_putPrint_28 hl (by decide) rfl (fun ls hl => ?_)
    refine lv_iconst (v := 0) hx hb dX0_putPrint_30 (by decide) ?_
    refine lv_istore (lv' := [(10, .int (0)), (9, .int (30)), (8, .ref (ad (2))), (7, .int (0)), (0, .ref (ad (0))), (1, .int (t)), (2, .int (u)), (3, .int (r)), (4, .int (c1)), (5, .int (b2i lf)), (6, .int (z))]) hx hb dX0_putPrint_31 hl (by decide) rfl (fun ls hl => ?_)
    have loop_33 : ∀ (n i : Nat), (i ≤ 30) → (30 - i < n) → (fstI (P_freeP σ) i = none) → ∀ ls : Array Slot, lv_has ls 12 [(10, .int (nI i)), (9, .int (30)), (8, .ref (ad (2))), (7, .int (0)), (0, .ref (ad (0))), (1, .int (t)), (2, .int (u)), (3, .int (r)), (4, .int (c1)), (5, .int (b2i lf)), (6, .int (z))] → W p l e (headSpec wsX0_putPrint ({ frames := 2, cells := 0, slots := 0, locals := 49 } : Room)).room s m ([.ref (ad (0)), .int (t), .int (u), .int (r), .int (c1), .int (b2i lf), .int (z)] : List Value).toArray below meth c s.heap [] 0 0 (MQ below (sp_Q D (some (.int (f_putPv σ))) (cW ad cy (pm) (rj) (f_putP σ t u r c1 lf z)) (sp_A ad 459 s.heap.size)) ([.ref (ad (0)), .int (t), .int (u), .int (r), .int (c1), .int (b2i lf), .int (z)] : List Value).toArray s 0 0 (sp_A ad 459 s.heap.size)) (F0 m 33 ls []) := by
      intro n
      induction n with
      | zero => intro i hle hlt hi_0 ls hl; exact absurd hlt (Nat.not_lt_zero _)
      | succ n ih =>
        intro i hle hlt hi_0 ls hl
        refine lv_iload hx hb dX0_putPrint_33 (lv_at hl 0 rfl) ?_
        refine lv_iload hx hb dX0_putPrint_35 (lv_at hl 1 rfl) ?_
        refine lv_icmp_ge (tgt := 144) hx hb dX0_putPrint_37 (by decide) (fun c_2 => ?_) (fun c_2 => ?_)
        · skip
          have c_2d := Int32.not_lt.mpr c_2
          have hx_i : i = 30 := by have := (nI_leI (a := 30) (b := i) (by omega) (by omega)).mp c_2; omega
          try rw [hx_i] at hi_0
          have hf : f_freeP σ = none := hi_0
          refine lv_iconst (v := (-1)) hx hb dX0_putPrint_144 (by decide) ?_
          have hE9 : cW ad cy (pm) (rj) (σ) = cW ad cy (pm) (rj) (f_putP σ t u r c1 lf z) := by exact cW_eq rfl (by first | exact (f_putP_none hf).symm | exact (f_putP_some hf hlate).symm)
          have hP : va_P D vwCl (cW ad cy (pm) (rj) (f_putP σ t u r c1 lf z)) s.heap := by rw [← hE9]; exact hP
          exact W.iret (v := (-1)) hx hb hr (fun T9 hT9 _ => ⟨congrArg (fun z9 => Outcome.returned (some (Value.int z9))) (show ((-1) : Int32) = f_putPv σ from (by exact (f_putPv_none hf).symm)), by rw [hT9]; exact hP, hS.F hT9⟩) hS.2.2 dX0_putPrint_145
        · skip
          have c_2d := Int32.not_le.mp c_2
          have hb_i : i < 30 := Nat.lt_of_not_le (fun z => c_2 (nI_le z (by omega)))
          refine lv_aload hx hb dX0_putPrint_40 (lv_at hl 2 rfl) ?_
          refine lv_iload hx hb dX0_putPrint_42 (lv_at hl 0 rfl) ?_
          refine sp_aald hx hb hK hP (κ := 2) (by omega) 4 (cE_prints (by omega) (by omega)) rfl i rfl (by omega) (by decide) (q := ad (9 + i)) rfl dX0_putPrint_44 ?_
          refine lv_astore (lv' := [(11, .ref (ad (9 + i))), (10, .int (nI i)), (9, .int (30)), (8, .ref (ad (2))), (7, .int (0)), (0, .ref (ad (0))), (1, .int (t)), (2, .int (u)), (3, .int (r)), (4, .int (c1)), (5, .int (b2i lf)), (6, .int (z))]) hx hb dX0_putPrint_45 hl (by decide) rfl (fun ls hl => ?_)
          refine lv_aload hx hb dX0_putPrint_47 (lv_at hl 0 rfl) ?_
          refine sp_get hx hb hts wi_X0_putPrint_X3 hown hK hP (κ := 9 + i) (by omega) (cE_print (by omega) (by omega)) rfl 0 (by decide) (hts _ (List.mem_of_getElem? (i := 2) rfl)) (fun _ h => h) rfl dX0_putPrint_49 ?_
          refine lv_if_ne (tgt := 138) hx hb dX0_putPrint_52 (by decide) (fun c_3 => ?_) (fun c_3 => ?_)
          · rw [bz_eq0] at c_3
            refine lv_iinc (v := nI (i + 1)) (lv' := [(10, .int (nI (i + 1))), (11, .ref (ad (9 + i))), (9, .int (30)), (8, .ref (ad (2))), (7, .int (0)), (0, .ref (ad (0))), (1, .int (t)), (2, .int (u)), (3, .int (r)), (4, .int (c1)), (5, .int (b2i lf)), (6, .int (z))]) hx hb dX0_putPrint_138 hl (k := 1) rfl (nI_1 _) (by decide) rfl (fun ls hl => ?_)
            refine lv_goto (tgt := 33) hx hb dX0_putPrint_141 (by decide) ?_
            exact ih (i + 1) (by omega) (by omega) (fstI_succ_no hi_0 (by simp [P_freeP, b2i, c_1, c_1d, c_3])) ls (lv_sub hl [0, 2, 3, 4, 5, 6, 7, 8, 9, 10, 11] rfl)
          · rw [bz_eq0] at c_3
            have hf : f_freeP σ = some i := fstI_hit hi_0 (by simp [P_freeP, c_1, c_1d, c_3]) hb_i
            refine lv_aload hx hb dX0_putPrint_55 (lv_at hl 0 rfl) ?_
            refine lv_iconst (v := 1) hx hb dX0_putPrint_57 (by decide) ?_
            refine sp_put hx hb hts wi_X0_putPrint_X3 tyX3 tyX3_ok nmX3 hown hK hP hi hAk hS (κ := 9 + i) (by omega) (cE_print (by omega) (by omega)) rfl 0 (by decide) (hts _ (List.mem_of_getElem? (i := 2) rfl)) (fun _ h => h) rfl (ty := tyX3 0) (by decide +kernel) (nz_of (show bz 1 = 1 by decide)) (Nat.le_of_ble_eq_true rfl) (r1 := upd (σ (9 + i)) 0 1) (cE_of (cE_print (by omega) (by omega)) (by simp [upd, (show bz 1 = 1 by decide)])) dX0_putPrint_58 (fun H locs hP hS => ?_)
            have hP : va_P D vwCl (cW ad cy pm rj (sp_st σ (9 + i) 0 1)) H := hP
            refine lv_aload hx hb dX0_putPrint_61 (lv_at hl 0 rfl) ?_
            refine lv_aload_n hx hb dX0_putPrint_63 rfl (lv_at hl 5 rfl) ?_
            refine sp_get hx hb hts wi_X0_putPrint_X0 hown hK hP (κ := 0) (by omega) (cE_beach (by omega) (by omega)) rfl 4 (by decide) (hts _ (List.mem_of_getElem? (i := 3) rfl)) (fun _ h => h) rfl dX0_putPrint_64 ?_
            refine W.eq (g2 := F0 m 67 ls [.int (σ 0 4), .ref (ad (9 + i))]) (by rw [sp_st_k _ _ _ _ _ _ (by omega)]) ?_
            refine sp_put hx hb hts wi_X0_putPrint_X3 tyX3 tyX3_ok nmX3 hown hK hP hi hAk hS (κ := 9 + i) (by omega) (cE_print (by omega) (by omega)) rfl 1 (by decide) (hts _ (List.mem_of_getElem? (i := 4) rfl)) (fun _ h => h) rfl (ty := tyX3 1) (by decide +kernel) ⟨rfl, rfl⟩ (Nat.le_of_ble_eq_true rfl) (r1 := upd ((sp_st σ (9 + i) 0 1) (9 + i)) 1 (σ 0 4)) (cE_of (cE_print (by omega) (by omega)) (by simp [upd])) dX0_putPrint_67 (fun H locs hP hS => ?_)
            have hP : va_P D vwCl (cW ad cy pm rj (sp_st (sp_st σ (9 + i) 0 1) (9 + i) 1 (σ 0 4))) H := hP
            refine lv_aload hx hb dX0_putPrint_70 (lv_at hl 0 rfl) ?_
            refine lv_iload_n hx hb dX0_putPrint_72 rfl (lv_at hl 6 rfl) ?_
            refine sp_put hx hb hts wi_X0_putPrint_X3 tyX3 tyX3_ok nmX3 hown hK hP hi hAk hS (κ := 9 + i) (by omega) (cE_print (by omega) (by omega)) rfl 2 (by decide) (hts _ (List.mem_of_getElem? (i := 5) rfl)) (fun _ h => h) rfl (ty := tyX3 2) (by decide +kernel) ⟨rfl, rfl⟩ (Nat.le_of_ble_eq_true rfl) (r1 := upd ((sp_st (sp_st σ (9 + i) 0 1) (9 + i) 1 (σ 0 4)) (9 + i)) 2 t) (cE_of (cE_print (by omega) (by omega)) (by simp [upd])) dX0_putPrint_73 (fun H locs hP hS => ?_)
            have hP : va_P D vwCl (cW ad cy pm rj (sp_st (sp_st (sp_st σ (9 + i) 0 1) (9 + i) 1 (σ 0 4)) (9 + i) 2 t)) H := hP
            refine lv_aload hx hb dX0_putPrint_76 (lv_at hl 0 rfl) ?_
            refine lv_iload_n hx hb dX0_putPrint_78 rfl (lv_at hl 7 rfl) ?_
            refine sp_put hx hb hts wi_X0_putPrint_X3 tyX3 tyX3_ok nmX3 hown hK hP hi hAk hS (κ := 9 + i) (by omega) (cE_print (by omega) (by omega)) rfl 3 (by decide) (hts _ (List.mem_of_getElem? (i := 6) rfl)) (fun _ h => h) rfl (ty := tyX3 3) (by decide +kernel) ⟨rfl, rfl⟩ (Nat.le_of_ble_eq_true rfl) (r1 := upd ((sp_st (sp_st (sp_st σ (9 + i) 0 1) (9 + i) 1 (σ 0 4)) (9 + i) 2 t) (9 + i)) 3 u) (cE_of (cE_print (by omega) (by omega)) (by simp [upd])) dX0_putPrint_79 (fun H locs hP hS => ?_)
            have hP : va_P D vwCl (cW ad cy pm rj (sp_st (sp_st (sp_st (sp_st σ (9 + i) 0 1) (9 + i) 1 (σ 0 4)) (9 + i) 2 t) (9 + i) 3 u)) H := hP
            refine lv_aload hx hb dX0_putPrint_82 (lv_at hl 0 rfl) ?_
            refine lv_iload_n hx hb dX0_putPrint_84 rfl (lv_at hl 8 rfl) ?_
            refine sp_put hx hb hts wi_X0_putPrint_X3 tyX3 tyX3_ok nmX3 hown hK hP hi hAk hS (κ := 9 + i) (by omega) (cE_print (by omega) (by omega)) rfl 4 (by decide) (hts _ (List.mem_of_getElem? (i := 7) rfl)) (fun _ h => h) rfl (ty := tyX3 4) (by decide +kernel) ⟨rfl, rfl⟩ (Nat.le_of_ble_eq_true rfl) (r1 := upd ((sp_st (sp_st (sp_st (sp_st σ (9 + i) 0 1) (9 + i) 1 (σ 0 4)) (9 + i) 2 t) (9 + i) 3 u) (9 + i)) 4 r) (cE_of (cE_print (by omega) (by omega)) (by simp [upd])) dX0_putPrint_85 (fun H locs hP hS => ?_)
            have hP : va_P D vwCl (cW ad cy pm rj (sp_st (sp_st (sp_st (sp_st (sp_st σ (9 + i) 0 1) (9 + i) 1 (σ 0 4)) (9 + i) 2 t) (9 + i) 3 u) (9 + i) 4 r)) H := hP
            refine lv_aload hx hb dX0_putPrint_88 (lv_at hl 0 rfl) ?_
            refine lv_iload hx hb dX0_putPrint_90 (lv_at hl 9 rfl) ?_
            refine sp_put hx hb hts wi_X0_putPrint_X3 tyX3 tyX3_ok nmX3 hown hK hP hi hAk hS (κ := 9 + i) (by omega) (cE_print (by omega) (by omega)) rfl 5 (by decide) (hts _ (List.mem_of_getElem? (i := 8) rfl)) (fun _ h => h) rfl (ty := tyX3 5) (by decide +kernel) ⟨rfl, rfl⟩ (Nat.le_of_ble_eq_true rfl) (r1 := upd ((sp_st (sp_st (sp_st (sp_st (sp_st σ (9 + i) 0 1) (9 + i) 1 (σ 0 4)) (9 + i) 2 t) (9 + i) 3 u) (9 + i) 4 r) (9 + i)) 5 c1) (cE_of (cE_print (by omega) (by omega)) (by simp [upd])) dX0_putPrint_92 (fun H locs hP hS => ?_)
            have hP : va_P D vwCl (cW ad cy pm rj (sp_st (sp_st (sp_st (sp_st (sp_st (sp_st σ (9 + i) 0 1) (9 + i) 1 (σ 0 4)) (9 + i) 2 t) (9 + i) 3 u) (9 + i) 4 r) (9 + i) 5 c1)) H := hP
            refine lv_aload hx hb dX0_putPrint_95 (lv_at hl 0 rfl) ?_
            refine lv_iload hx hb dX0_putPrint_97 (lv_at hl 10 rfl) ?_
            refine sp_put hx hb hts wi_X0_putPrint_X3 tyX3 tyX3_ok nmX3 hown hK hP hi hAk hS (κ := 9 + i) (by omega) (cE_print (by omega) (by omega)) rfl 6 (by decide) (hts _ (List.mem_of_getElem? (i := 9) rfl)) (fun _ h => h) rfl (ty := tyX3 6) (by decide +kernel) (nz_of (bz_b2i _)) (Nat.le_of_ble_eq_true rfl) (r1 := upd ((sp_st (sp_st (sp_st (sp_st (sp_st (sp_st σ (9 + i) 0 1) (9 + i) 1 (σ 0 4)) (9 + i) 2 t) (9 + i) 3 u) (9 + i) 4 r) (9 + i) 5 c1) (9 + i)) 6 (b2i lf)) (cE_of (cE_print (by omega) (by omega)) (by simp [upd, (bz_b2i _)])) dX0_putPrint_99 (fun H locs hP hS => ?_)
            have hP : va_P D vwCl (cW ad cy pm rj (sp_st (sp_st (sp_st (sp_st (sp_st (sp_st (sp_st σ (9 + i) 0 1) (9 + i) 1 (σ 0 4)) (9 + i) 2 t) (9 + i) 3 u) (9 + i) 4 r) (9 + i) 5 c1) (9 + i) 6 (b2i lf))) H := hP
            refine lv_aload hx hb dX0_putPrint_102 (lv_at hl 0 rfl) ?_
            refine lv_iload hx hb dX0_putPrint_104 (lv_at hl 11 rfl) ?_
            refine sp_put hx hb hts wi_X0_putPrint_X3 tyX3 tyX3_ok nmX3 hown hK hP hi hAk hS (κ := 9 + i) (by omega) (cE_print (by omega) (by omega)) rfl 7 (by decide) (hts _ (List.mem_of_getElem? (i := 10) rfl)) (fun _ h => h) rfl (ty := tyX3 7) (by decide +kernel) ⟨rfl, rfl⟩ (Nat.le_of_ble_eq_true rfl) (r1 := upd ((sp_st (sp_st (sp_st (sp_st (sp_st (sp_st (sp_st σ (9 + i) 0 1) (9 + i) 1 (σ 0 4)) (9 + i) 2 t) (9 + i) 3 u) (9 + i) 4 r) (9 + i) 5 c1) (9 + i) 6 (b2i lf)) (9 + i)) 7 z) (cE_of (cE_print (by omega) (by omega)) (by simp [upd])) dX0_putPrint_106 (fun H locs hP hS => ?_)
            have hP : va_P D vwCl (cW ad cy pm rj (sp_st (sp_st (sp_st (sp_st (sp_st (sp_st (sp_st (sp_st σ (9 + i) 0 1) (9 + i) 1 (σ 0 4)) (9 + i) 2 t) (9 + i) 3 u) (9 + i) 4 r) (9 + i) 5 c1) (9 + i) 6 (b2i lf)) (9 + i) 7 z)) H := hP
            refine lv_aload hx hb dX0_putPrint_109 (lv_at hl 0 rfl) ?_
            refine lv_iconst (v := 0) hx hb dX0_putPrint_111 (by decide) ?_
            refine sp_put hx hb hts wi_X0_putPrint_X3 tyX3 tyX3_ok nmX3 hown hK hP hi hAk hS (κ := 9 + i) (by omega) (cE_print (by omega) (by omega)) rfl 8 (by decide) (hts _ (List.mem_of_getElem? (i := 11) rfl)) (fun _ h => h) rfl (ty := tyX3 8) (by decide +kernel) ⟨rfl, rfl⟩ (Nat.le_of_ble_eq_true rfl) (r1 := upd ((sp_st (sp_st (sp_st (sp_st (sp_st (sp_st (sp_st (sp_st σ (9 + i) 0 1) (9 + i) 1 (σ 0 4)) (9 + i) 2 t) (9 + i) 3 u) (9 + i) 4 r) (9 + i) 5 c1) (9 + i) 6 (b2i lf)) (9 + i) 7 z) (9 + i)) 8 0) (cE_of (cE_print (by omega) (by omega)) (by simp [upd])) dX0_putPrint_112 (fun H locs hP hS => ?_)
            have hP : va_P D vwCl (cW ad cy pm rj (sp_st (sp_st (sp_st (sp_st (sp_st (sp_st (sp_st (sp_st (sp_st σ (9 + i) 0 1) (9 + i) 1 (σ 0 4)) (9 + i) 2 t) (9 + i) 3 u) (9 + i) 4 r) (9 + i) 5 c1) (9 + i) 6 (b2i lf)) (9 + i) 7 z) (9 + i) 8 0)) H := hP
            refine lv_aload hx hb dX0_putPrint_115 (lv_at hl 0 rfl) ?_
            refine lv_iload hx hb dX0_putPrint_117 (lv_at hl 4 rfl) ?_
            refine sp_put hx hb hts wi_X0_putPrint_X3 tyX3 tyX3_ok nmX3 hown hK hP hi hAk hS (κ := 9 + i) (by omega) (cE_print (by omega) (by omega)) rfl 9 (by decide) (hts _ (List.mem_of_getElem? (i := 12) rfl)) (fun _ h => h) rfl (ty := tyX3 9) (by decide +kernel) (nz_of (show bz 0 = 0 by decide)) (Nat.le_of_ble_eq_true rfl) (r1 := upd ((sp_st (sp_st (sp_st (sp_st (sp_st (sp_st (sp_st (sp_st (sp_st σ (9 + i) 0 1) (9 + i) 1 (σ 0 4)) (9 + i) 2 t) (9 + i) 3 u) (9 + i) 4 r) (9 + i) 5 c1) (9 + i) 6 (b2i lf)) (9 + i) 7 z) (9 + i) 8 0) (9 + i)) 9 0) (cE_of (cE_print (by omega) (by omega)) (by simp [upd, (show bz 0 = 0 by decide)])) dX0_putPrint_119 (fun H locs hP hS => ?_)
            have hP : va_P D vwCl (cW ad cy pm rj (sp_st (sp_st (sp_st (sp_st (sp_st (sp_st (sp_st (sp_st (sp_st (sp_st σ (9 + i) 0 1) (9 + i) 1 (σ 0 4)) (9 + i) 2 t) (9 + i) 3 u) (9 + i) 4 r) (9 + i) 5 c1) (9 + i) 6 (b2i lf)) (9 + i) 7 z) (9 + i) 8 0) (9 + i) 9 0)) H := hP
            refine lv_aload_n hx hb dX0_putPrint_122 rfl (lv_at hl 5 rfl) ?_
            refine lv_dup hx hb dX0_putPrint_123 rfl ?_
            refine sp_get hx hb hts wi_X0_putPrint_X0 hown hK hP (κ := 0) (by omega) (cE_beach (by omega) (by omega)) rfl 4 (by decide) (hts _ (List.mem_of_getElem? (i := 3) rfl)) (fun _ h => h) rfl dX0_putPrint_124 ?_
            refine W.eq (g2 := F0 m 127 ls [.int (σ 0 4), .ref (ad (0))]) (by rw [sp_st_k _ _ _ _ _ _ (by omega), sp_st_k _ _ _ _ _ _ (by omega), sp_st_k _ _ _ _ _ _ (by omega), sp_st_k _ _ _ _ _ _ (by omega), sp_st_k _ _ _ _ _ _ (by omega), sp_st_k _ _ _ _ _ _ (by omega), sp_st_k _ _ _ _ _ _ (by omega), sp_st_k _ _ _ _ _ _ (by omega), sp_st_k _ _ _ _ _ _ (by omega), sp_st_k _ _ _ _ _ _ (by omega)]) ?_
            refine lv_iconst (v := 1) hx hb dX0_putPrint_127 (by decide) ?_
            refine lv_iadd hx hb dX0_putPrint_128 ?_
            refine sp_put hx hb hts wi_X0_putPrint_X0 tyX0 tyX0_ok nmX0 hown hK hP hi hAk hS (κ := 0) (by omega) (cE_beach (by omega) (by omega)) rfl 4 (by decide) (hts _ (List.mem_of_getElem? (i := 3) rfl)) (fun _ h => h) rfl (ty := tyX0 4) (by decide +kernel) ⟨rfl, rfl⟩ (Nat.le_of_ble_eq_true rfl) (r1 := upd ((sp_st (sp_st (sp_st (sp_st (sp_st (sp_st (sp_st (sp_st (sp_st (sp_st σ (9 + i) 0 1) (9 + i) 1 (σ 0 4)) (9 + i) 2 t) (9 + i) 3 u) (9 + i) 4 r) (9 + i) 5 c1) (9 + i) 6 (b2i lf)) (9 + i) 7 z) (9 + i) 8 0) (9 + i) 9 0) 0) 4 ((σ 0 4) + 1)) (cE_of (cE_beach (by omega) (by omega)) (by simp [upd])) dX0_putPrint_129 (fun H locs hP hS => ?_)
            have hP : va_P D vwCl (cW ad cy pm rj (sp_st (sp_st (sp_st (sp_st (sp_st (sp_st (sp_st (sp_st (sp_st (sp_st (sp_st σ (9 + i) 0 1) (9 + i) 1 (σ 0 4)) (9 + i) 2 t) (9 + i) 3 u) (9 + i) 4 r) (9 + i) 5 c1) (9 + i) 6 (b2i lf)) (9 + i) 7 z) (9 + i) 8 0) (9 + i) 9 0) 0 4 ((σ 0 4) + 1))) H := hP
            refine lv_aload hx hb dX0_putPrint_132 (lv_at hl 0 rfl) ?_
            refine sp_get hx hb hts wi_X0_putPrint_X3 hown hK hP (κ := 9 + i) (by omega) (cE_print (by omega) (by omega)) rfl 1 (by decide) (hts _ (List.mem_of_getElem? (i := 4) rfl)) (fun _ h => h) rfl dX0_putPrint_134 ?_
            refine W.eq (g2 := F0 m 137 ls [.int (σ 0 4)]) (by rw [sp_st_k _ _ _ _ _ _ (by omega), sp_st_j _ _ _ _ _ _ (by decide), sp_st_j _ _ _ _ _ _ (by decide), sp_st_j _ _ _ _ _ _ (by decide), sp_st_j _ _ _ _ _ _ (by decide), sp_st_j _ _ _ _ _ _ (by decide), sp_st_j _ _ _ _ _ _ (by decide), sp_st_j _ _ _ _ _ _ (by decide), sp_st_j _ _ _ _ _ _ (by decide), sp_st_s]) ?_
            have hE9 : cW ad cy (pm) (rj) (sp_st (sp_st (sp_st (sp_st (sp_st (sp_st (sp_st (sp_st (sp_st (sp_st (sp_st σ (9 + i) 0 1) (9 + i) 1 (σ 0 4)) (9 + i) 2 t) (9 + i) 3 u) (9 + i) 4 r) (9 + i) 5 c1) (9 + i) 6 (b2i lf)) (9 + i) 7 z) (9 + i) 8 0) (9 + i) 9 0) 0 4 ((σ 0 4) + 1)) = cW ad cy (pm) (rj) (f_putP σ t u r c1 lf z) := by exact cW_eq rfl (by first | exact (f_putP_none hf).symm | exact (f_putP_some hf hlate).symm)
            have hP : va_P D vwCl (cW ad cy (pm) (rj) (f_putP σ t u r c1 lf z)) H := by rw [← hE9]; exact hP
            exact W.iret (v := σ 0 4) hx hb hr (fun T9 hT9 _ => ⟨congrArg (fun z9 => Outcome.returned (some (Value.int z9))) (show (σ 0 4 : Int32) = f_putPv σ from (by exact (f_putPv_some hf).symm)), by rw [hT9]; exact hP, hS.F hT9⟩) hS.2.2 dX0_putPrint_137
    exact loop_33 (30 + 1) (0)  (by omega) (by omega) (rfl) ls (lv_sub hl [0, 1, 2, 3, 4, 5, 6, 7, 8, 9, 10] rfl)
  · skip
    have c_1d := Int32.not_le.mp c_1
    have hlate : b2i (decide (0 < f_countPrintsBetween σ t u 1000)) = 1 := by rw [decide_eq_true c_1d]; rfl
    refine lv_iconst (v := 1) hx hb dX0_putPrint_12 (by decide) ?_
    refine lv_goto (tgt := 17) hx hb dX0_putPrint_13 (by decide) ?_
    refine lv_istore (lv' := [(7, .int (1)), (0, .ref (ad (0))), (1, .int (t)), (2, .int (u)), (3, .int (r)), (4, .int (c1)), (5, .int (b2i lf)), (6, .int (z))]) hx hb dX0_putPrint_17 hl (by decide) rfl (fun ls hl => ?_)
    refine lv_aload_n hx hb dX0_putPrint_19 rfl (lv_at hl 1 rfl) ?_
    refine sp_get hx hb hts wi_X0_putPrint_X0 hown hK hP (κ := 0) (by omega) (cE_beach (by omega) (by omega)) rfl 1 (by decide) (hts _ (List.mem_of_getElem? (i := 1) rfl)) (fun _ h => h) rfl dX0_putPrint_20 ?_
    refine lv_astore (lv' := [(8, .ref (ad (2))), (7, .int (1)), (0, .ref (ad (0))), (1, .int (t)), (2, .int (u)), (3, .int (r)), (4, .int (c1)), (5, .int (b2i lf)), (6, .int (z))]) hx hb dX0_putPrint_23 hl (by decide) rfl (fun ls hl => ?_)
    refine lv_aload hx hb dX0_putPrint_25 (lv_at hl 0 rfl) ?_
    refine sp_alen hx hb hK hP (κ := 2) (by omega) 4 (cE_prints (by omega) (by omega)) rfl (v := 30) rfl dX0_putPrint_27 ?_
    refine lv_istore (lv' := [(9, .int (30)), (8, .ref (ad (2))), (7, .int (1)), (0, .ref (ad (0))), (1, .int (t)), (2, .int (u)), (3, .int (r)), (4, .int (c1)), (5, .int (b2i lf)), (6, .int (z))]) hx hb dX0_putPrint_28 hl (by decide) rfl (fun ls hl => ?_)
    refine lv_iconst (v := 0) hx hb dX0_putPrint_30 (by decide) ?_
    refine lv_istore (lv' := [(10, .int (0)), (9, .int (30)), (8, .ref (ad (2))), (7, .int (1)), (0, .ref (ad (0))), (1, .int (t)), (2, .int (u)), (3, .int (r)), (4, .int (c1)), (5, .int (b2i lf)), (6, .int (z))]) hx hb dX0_putPrint_31 hl (by decide) rfl (fun ls hl => ?_)
    have loop_33 : ∀ (n i : Nat), (i ≤ 30) → (30 - i < n) → (fstI (P_freeP σ) i = none) → ∀ ls : Array Slot, lv_has ls 12 [(10, .int (nI i)), (9, .int (30)), (8, .ref (ad (2))), (7, .int (1)), (0, .ref (ad (0))), (1, .int (t)), (2, .int (u)), (3, .int (r)), (4, .int (c1)), (5, .int (b2i lf)), (6, .int (z))] → W p l e (headSpec wsX0_putPrint ({ frames := 2, cells := 0, slots := 0, locals := 49 } : Room)).room s m ([.ref (ad (0)), .int (t), .int (u), .int (r), .int (c1), .int (b2i lf), .int (z)] : List Value).toArray below meth c s.heap [] 0 0 (MQ below (sp_Q D (some (.int (f_putPv σ))) (cW ad cy (pm) (rj) (f_putP σ t u r c1 lf z)) (sp_A ad 459 s.heap.size)) ([.ref (ad (0)), .int (t), .int (u), .int (r), .int (c1), .int (b2i lf), .int (z)] : List Value).toArray s 0 0 (sp_A ad 459 s.heap.size)) (F0 m 33 ls []) := by
      intro n
      induction n with
      | zero => intro i hle hlt hi_0 ls hl; exact absurd hlt (Nat.not_lt_zero _)
      | succ n ih =>
        intro i hle hlt hi_0 ls hl
        refine lv_iload hx hb dX0_putPrint_33 (lv_at hl 0 rfl) ?_
        refine lv_iload hx hb dX0_putPrint_35 (lv_at hl 1 rfl) ?_
        refine lv_icmp_ge (tgt := 144) hx hb dX0_putPrint_37 (by decide) (fun c_4 => ?_) (fun c_4 => ?_)
        · skip
          have c_4d := Int32.not_lt.mpr c_4
          have hx_i : i = 30 := by have := (nI_leI (a := 30) (b := i) (by omega) (by omega)).mp c_4; omega
          try rw [hx_i] at hi_0
          have hf : f_freeP σ = none := hi_0
          refine lv_iconst (v := (-1)) hx hb dX0_putPrint_144 (by decide) ?_
          have hE9 : cW ad cy (pm) (rj) (σ) = cW ad cy (pm) (rj) (f_putP σ t u r c1 lf z) := by exact cW_eq rfl (by first | exact (f_putP_none hf).symm | exact (f_putP_some hf hlate).symm)
          have hP : va_P D vwCl (cW ad cy (pm) (rj) (f_putP σ t u r c1 lf z)) s.heap := by rw [← hE9]; exact hP
          exact W.iret (v := (-1)) hx hb hr (fun T9 hT9 _ => ⟨congrArg (fun z9 => Outcome.returned (some (Value.int z9))) (show ((-1) : Int32) = f_putPv σ from (by exact (f_putPv_none hf).symm)), by rw [hT9]; exact hP, hS.F hT9⟩) hS.2.2 dX0_putPrint_145
        · skip
          have c_4d := Int32.not_le.mp c_4
          have hb_i : i < 30 := Nat.lt_of_not_le (fun z => c_4 (nI_le z (by omega)))
          refine lv_aload hx hb dX0_putPrint_40 (lv_at hl 2 rfl) ?_
          refine lv_iload hx hb dX0_putPrint_42 (lv_at hl 0 rfl) ?_
          refine sp_aald hx hb hK hP (κ := 2) (by omega) 4 (cE_prints (by omega) (by omega)) rfl i rfl (by omega) (by decide) (q := ad (9 + i)) rfl dX0_putPrint_44 ?_
          refine lv_astore (lv' := [(11, .ref (ad (9 + i))), (10, .int (nI i)), (9, .int (30)), (8, .ref (ad (2))), (7, .int (1)), (0, .ref (ad (0))), (1, .int (t)), (2, .int (u)), (3, .int (r)), (4, .int (c1)), (5, .int (b2i lf)), (6, .int (z))]) hx hb dX0_putPrint_45 hl (by decide) rfl (fun ls hl => ?_)
          refine lv_aload hx hb dX0_putPrint_47 (lv_at hl 0 rfl) ?_
          refine sp_get hx hb hts wi_X0_putPrint_X3 hown hK hP (κ := 9 + i) (by omega) (cE_print (by omega) (by omega)) rfl 0 (by decide) (hts _ (List.mem_of_getElem? (i := 2) rfl)) (fun _ h => h) rfl dX0_putPrint_49 ?_
          refine lv_if_ne (tgt := 138) hx hb dX0_putPrint_52 (by decide) (fun c_5 => ?_) (fun c_5 => ?_)
          · rw [bz_eq0] at c_5
            refine lv_iinc (v := nI (i + 1)) (lv' := [(10, .int (nI (i + 1))), (11, .ref (ad (9 + i))), (9, .int (30)), (8, .ref (ad (2))), (7, .int (1)), (0, .ref (ad (0))), (1, .int (t)), (2, .int (u)), (3, .int (r)), (4, .int (c1)), (5, .int (b2i lf)), (6, .int (z))]) hx hb dX0_putPrint_138 hl (k := 1) rfl (nI_1 _) (by decide) rfl (fun ls hl => ?_)
            refine lv_goto (tgt := 33) hx hb dX0_putPrint_141 (by decide) ?_
            exact ih (i + 1) (by omega) (by omega) (fstI_succ_no hi_0 (by simp [P_freeP, b2i, c_1, c_1d, c_5])) ls (lv_sub hl [0, 2, 3, 4, 5, 6, 7, 8, 9, 10, 11] rfl)
          · rw [bz_eq0] at c_5
            have hf : f_freeP σ = some i := fstI_hit hi_0 (by simp [P_freeP, c_1, c_1d, c_5]) hb_i
            refine lv_aload hx hb dX0_putPrint_55 (lv_at hl 0 rfl) ?_
            refine lv_iconst (v := 1) hx hb dX0_putPrint_57 (by decide) ?_
            refine sp_put hx hb hts wi_X0_putPrint_X3 tyX3 tyX3_ok nmX3 hown hK hP hi hAk hS (κ := 9 + i) (by omega) (cE_print (by omega) (by omega)) rfl 0 (by decide) (hts _ (List.mem_of_getElem? (i := 2) rfl)) (fun _ h => h) rfl (ty := tyX3 0) (by decide +kernel) (nz_of (show bz 1 = 1 by decide)) (Nat.le_of_ble_eq_true rfl) (r1 := upd (σ (9 + i)) 0 1) (cE_of (cE_print (by omega) (by omega)) (by simp [upd, (show bz 1 = 1 by decide)])) dX0_putPrint_58 (fun H locs hP hS => ?_)
            have hP : va_P D vwCl (cW ad cy pm rj (sp_st σ (9 + i) 0 1)) H := hP
            refine lv_aload hx hb dX0_putPrint_61 (lv_at hl 0 rfl) ?_
            refine lv_aload_n hx hb dX0_putPrint_63 rfl (lv_at hl 5 rfl) ?_
            refine sp_get hx hb hts wi_X0_putPrint_X0 hown hK hP (κ := 0) (by omega) (cE_beach (by omega) (by omega)) rfl 4 (by decide) (hts _ (List.mem_of_getElem? (i := 3) rfl)) (fun _ h => h) rfl dX0_putPrint_64 ?_
            refine W.eq (g2 := F0 m 67 ls [.int (σ 0 4), .ref (ad (9 + i))]) (by rw [sp_st_k _ _ _ _ _ _ (by omega)]) ?_
            refine sp_put hx hb hts wi_X0_putPrint_X3 tyX3 tyX3_ok nmX3 hown hK hP hi hAk hS (κ := 9 + i) (by omega) (cE_print (by omega) (by omega)) rfl 1 (by decide) (hts _ (List.mem_of_getElem? (i := 4) rfl)) (fun _ h => h) rfl (ty := tyX3 1) (by decide +kernel) ⟨rfl, rfl⟩ (Nat.le_of_ble_eq_true rfl) (r1 := upd ((sp_st σ (9 + i) 0 1) (9 + i)) 1 (σ 0 4)) (cE_of (cE_print (by omega) (by omega)) (by simp [upd])) dX0_putPrint_67 (fun H locs hP hS => ?_)
            have hP : va_P D vwCl (cW ad cy pm rj (sp_st (sp_st σ (9 + i) 0 1) (9 + i) 1 (σ 0 4))) H := hP
            refine lv_aload hx hb dX0_putPrint_70 (lv_at hl 0 rfl) ?_
            refine lv_iload_n hx hb dX0_putPrint_72 rfl (lv_at hl 6 rfl) ?_
            refine sp_put hx hb hts wi_X0_putPrint_X3 tyX3 tyX3_ok nmX3 hown hK hP hi hAk hS (κ := 9 + i) (by omega) (cE_print (by omega) (by omega)) rfl 2 (by decide) (hts _ (List.mem_of_getElem? (i := 5) rfl)) (fun _ h => h) rfl (ty := tyX3 2) (by decide +kernel) ⟨rfl, rfl⟩ (Nat.le_of_ble_eq_true rfl) (r1 := upd ((sp_st (sp_st σ (9 + i) 0 1) (9 + i) 1 (σ 0 4)) (9 + i)) 2 t) (cE_of (cE_print (by omega) (by omega)) (by simp [upd])) dX0_putPrint_73 (fun H locs hP hS => ?_)
            have hP : va_P D vwCl (cW ad cy pm rj (sp_st (sp_st (sp_st σ (9 + i) 0 1) (9 + i) 1 (σ 0 4)) (9 + i) 2 t)) H := hP
            refine lv_aload hx hb dX0_putPrint_76 (lv_at hl 0 rfl) ?_
            refine lv_iload_n hx hb dX0_putPrint_78 rfl (lv_at hl 7 rfl) ?_
            refine sp_put hx hb hts wi_X0_putPrint_X3 tyX3 tyX3_ok nmX3 hown hK hP hi hAk hS (κ := 9 + i) (by omega) (cE_print (by omega) (by omega)) rfl 3 (by decide) (hts _ (List.mem_of_getElem? (i := 6) rfl)) (fun _ h => h) rfl (ty := tyX3 3) (by decide +kernel) ⟨rfl, rfl⟩ (Nat.le_of_ble_eq_true rfl) (r1 := upd ((sp_st (sp_st (sp_st σ (9 + i) 0 1) (9 + i) 1 (σ 0 4)) (9 + i) 2 t) (9 + i)) 3 u) (cE_of (cE_print (by omega) (by omega)) (by simp [upd])) dX0_putPrint_79 (fun H locs hP hS => ?_)
            have hP : va_P D vwCl (cW ad cy pm rj (sp_st (sp_st (sp_st (sp_st σ (9 + i) 0 1) (9 + i) 1 (σ 0 4)) (9 + i) 2 t) (9 + i) 3 u)) H := hP
            refine lv_aload hx hb dX0_putPrint_82 (lv_at hl 0 rfl) ?_
            refine lv_iload_n hx hb dX0_putPrint_84 rfl (lv_at hl 8 rfl) ?_
            refine sp_put hx hb hts wi_X0_putPrint_X3 tyX3 tyX3_ok nmX3 hown hK hP hi hAk hS (κ := 9 + i) (by omega) (cE_print (by omega) (by omega)) rfl 4 (by decide) (hts _ (List.mem_of_getElem? (i := 7) rfl)) (fun _ h => h) rfl (ty := tyX3 4) (by decide +kernel) ⟨rfl, rfl⟩ (Nat.le_of_ble_eq_true rfl) (r1 := upd ((sp_st (sp_st (sp_st (sp_st σ (9 + i) 0 1) (9 + i) 1 (σ 0 4)) (9 + i) 2 t) (9 + i) 3 u) (9 + i)) 4 r) (cE_of (cE_print (by omega) (by omega)) (by simp [upd])) dX0_putPrint_85 (fun H locs hP hS => ?_)
            have hP : va_P D vwCl (cW ad cy pm rj (sp_st (sp_st (sp_st (sp_st (sp_st σ (9 + i) 0 1) (9 + i) 1 (σ 0 4)) (9 + i) 2 t) (9 + i) 3 u) (9 + i) 4 r)) H := hP
            refine lv_aload hx hb dX0_putPrint_88 (lv_at hl 0 rfl) ?_
            refine lv_iload hx hb dX0_putPrint_90 (lv_at hl 9 rfl) ?_
            refine sp_put hx hb hts wi_X0_putPrint_X3 tyX3 tyX3_ok nmX3 hown hK hP hi hAk hS (κ := 9 + i) (by omega) (cE_print (by omega) (by omega)) rfl 5 (by decide) (hts _ (List.mem_of_getElem? (i := 8) rfl)) (fun _ h => h) rfl (ty := tyX3 5) (by decide +kernel) ⟨rfl, rfl⟩ (Nat.le_of_ble_eq_true rfl) (r1 := upd ((sp_st (sp_st (sp_st (sp_st (sp_st σ (9 + i) 0 1) (9 + i) 1 (σ 0 4)) (9 + i) 2 t) (9 + i) 3 u) (9 + i) 4 r) (9 + i)) 5 c1) (cE_of (cE_print (by omega) (by omega)) (by simp [upd])) dX0_putPrint_92 (fun H locs hP hS => ?_)
            have hP : va_P D vwCl (cW ad cy pm rj (sp_st (sp_st (sp_st (sp_st (sp_st (sp_st σ (9 + i) 0 1) (9 + i) 1 (σ 0 4)) (9 + i) 2 t) (9 + i) 3 u) (9 + i) 4 r) (9 + i) 5 c1)) H := hP
            refine lv_aload hx hb dX0_putPrint_95 (lv_at hl 0 rfl) ?_
            refine lv_iload hx hb dX0_putPrint_97 (lv_at hl 10 rfl) ?_
            refine sp_put hx hb hts wi_X0_putPrint_X3 tyX3 tyX3_ok nmX3 hown hK hP hi hAk hS (κ := 9 + i) (by omega) (cE_print (by omega) (by omega)) rfl 6 (by decide) (hts _ (List.mem_of_getElem? (i := 9) rfl)) (fun _ h => h) rfl (ty := tyX3 6) (by decide +kernel) (nz_of (bz_b2i _)) (Nat.le_of_ble_eq_true rfl) (r1 := upd ((sp_st (sp_st (sp_st (sp_st (sp_st (sp_st σ (9 + i) 0 1) (9 + i) 1 (σ 0 4)) (9 + i) 2 t) (9 + i) 3 u) (9 + i) 4 r) (9 + i) 5 c1) (9 + i)) 6 (b2i lf)) (cE_of (cE_print (by omega) (by omega)) (by simp [upd, (bz_b2i _)])) dX0_putPrint_99 (fun H locs hP hS => ?_)
            have hP : va_P D vwCl (cW ad cy pm rj (sp_st (sp_st (sp_st (sp_st (sp_st (sp_st (sp_st σ (9 + i) 0 1) (9 + i) 1 (σ 0 4)) (9 + i) 2 t) (9 + i) 3 u) (9 + i) 4 r) (9 + i) 5 c1) (9 + i) 6 (b2i lf))) H := hP
            refine lv_aload hx hb dX0_putPrint_102 (lv_at hl 0 rfl) ?_
            refine lv_iload hx hb dX0_putPrint_104 (lv_at hl 11 rfl) ?_
            refine sp_put hx hb hts wi_X0_putPrint_X3 tyX3 tyX3_ok nmX3 hown hK hP hi hAk hS (κ := 9 + i) (by omega) (cE_print (by omega) (by omega)) rfl 7 (by decide) (hts _ (List.mem_of_getElem? (i := 10) rfl)) (fun _ h => h) rfl (ty := tyX3 7) (by decide +kernel) ⟨rfl, rfl⟩ (Nat.le_of_ble_eq_true rfl) (r1 := upd ((sp_st (sp_st (sp_st (sp_st (sp_st (sp_st (sp_st σ (9 + i) 0 1) (9 + i) 1 (σ 0 4)) (9 + i) 2 t) (9 + i) 3 u) (9 + i) 4 r) (9 + i) 5 c1) (9 + i) 6 (b2i lf)) (9 + i)) 7 z) (cE_of (cE_print (by omega) (by omega)) (by simp [upd])) dX0_putPrint_106 (fun H locs hP hS => ?_)
            have hP : va_P D vwCl (cW ad cy pm rj (sp_st (sp_st (sp_st (sp_st (sp_st (sp_st (sp_st (sp_st σ (9 + i) 0 1) (9 + i) 1 (σ 0 4)) (9 + i) 2 t) (9 + i) 3 u) (9 + i) 4 r) (9 + i) 5 c1) (9 + i) 6 (b2i lf)) (9 + i) 7 z)) H := hP
            refine lv_aload hx hb dX0_putPrint_109 (lv_at hl 0 rfl) ?_
            refine lv_iconst (v := 0) hx hb dX0_putPrint_111 (by decide) ?_
            refine sp_put hx hb hts wi_X0_putPrint_X3 tyX3 tyX3_ok nmX3 hown hK hP hi hAk hS (κ := 9 + i) (by omega) (cE_print (by omega) (by omega)) rfl 8 (by decide) (hts _ (List.mem_of_getElem? (i := 11) rfl)) (fun _ h => h) rfl (ty := tyX3 8) (by decide +kernel) ⟨rfl, rfl⟩ (Nat.le_of_ble_eq_true rfl) (r1 := upd ((sp_st (sp_st (sp_st (sp_st (sp_st (sp_st (sp_st (sp_st σ (9 + i) 0 1) (9 + i) 1 (σ 0 4)) (9 + i) 2 t) (9 + i) 3 u) (9 + i) 4 r) (9 + i) 5 c1) (9 + i) 6 (b2i lf)) (9 + i) 7 z) (9 + i)) 8 0) (cE_of (cE_print (by omega) (by omega)) (by simp [upd])) dX0_putPrint_112 (fun H locs hP hS => ?_)
            have hP : va_P D vwCl (cW ad cy pm rj (sp_st (sp_st (sp_st (sp_st (sp_st (sp_st (sp_st (sp_st (sp_st σ (9 + i) 0 1) (9 + i) 1 (σ 0 4)) (9 + i) 2 t) (9 + i) 3 u) (9 + i) 4 r) (9 + i) 5 c1) (9 + i) 6 (b2i lf)) (9 + i) 7 z) (9 + i) 8 0)) H := hP
            refine lv_aload hx hb dX0_putPrint_115 (lv_at hl 0 rfl) ?_
            refine lv_iload hx hb dX0_putPrint_117 (lv_at hl 4 rfl) ?_
            refine sp_put hx hb hts wi_X0_putPrint_X3 tyX3 tyX3_ok nmX3 hown hK hP hi hAk hS (κ := 9 + i) (by omega) (cE_print (by omega) (by omega)) rfl 9 (by decide) (hts _ (List.mem_of_getElem? (i := 12) rfl)) (fun _ h => h) rfl (ty := tyX3 9) (by decide +kernel) (nz_of (show bz 1 = 1 by decide)) (Nat.le_of_ble_eq_true rfl) (r1 := upd ((sp_st (sp_st (sp_st (sp_st (sp_st (sp_st (sp_st (sp_st (sp_st σ (9 + i) 0 1) (9 + i) 1 (σ 0 4)) (9 + i) 2 t) (9 + i) 3 u) (9 + i) 4 r) (9 + i) 5 c1) (9 + i) 6 (b2i lf)) (9 + i) 7 z) (9 + i) 8 0) (9 + i)) 9 1) (cE_of (cE_print (by omega) (by omega)) (by simp [upd, (show bz 1 = 1 by decide)])) dX0_putPrint_119 (fun H locs hP hS => ?_)
            have hP : va_P D vwCl (cW ad cy pm rj (sp_st (sp_st (sp_st (sp_st (sp_st (sp_st (sp_st (sp_st (sp_st (sp_st σ (9 + i) 0 1) (9 + i) 1 (σ 0 4)) (9 + i) 2 t) (9 + i) 3 u) (9 + i) 4 r) (9 + i) 5 c1) (9 + i) 6 (b2i lf)) (9 + i) 7 z) (9 + i) 8 0) (9 + i) 9 1)) H := hP
            refine lv_aload_n hx hb dX0_putPrint_122 rfl (lv_at hl 5 rfl) ?_
            refine lv_dup hx hb dX0_putPrint_123 rfl ?_
            refine sp_get hx hb hts wi_X0_putPrint_X0 hown hK hP (κ := 0) (by omega) (cE_beach (by omega) (by omega)) rfl 4 (by decide) (hts _ (List.mem_of_getElem? (i := 3) rfl)) (fun _ h => h) rfl dX0_putPrint_124 ?_
            refine W.eq (g2 := F0 m 127 ls [.int (σ 0 4), .ref (ad (0))]) (by rw [sp_st_k _ _ _ _ _ _ (by omega), sp_st_k _ _ _ _ _ _ (by omega), sp_st_k _ _ _ _ _ _ (by omega), sp_st_k _ _ _ _ _ _ (by omega), sp_st_k _ _ _ _ _ _ (by omega), sp_st_k _ _ _ _ _ _ (by omega), sp_st_k _ _ _ _ _ _ (by omega), sp_st_k _ _ _ _ _ _ (by omega), sp_st_k _ _ _ _ _ _ (by omega), sp_st_k _ _ _ _ _ _ (by omega)]) ?_
            refine lv_iconst (v := 1) hx hb dX0_putPrint_127 (by decide) ?_
            refine lv_iadd hx hb dX0_putPrint_128 ?_
            refine sp_put hx hb hts wi_X0_putPrint_X0 tyX0 tyX0_ok nmX0 hown hK hP hi hAk hS (κ := 0) (by omega) (cE_beach (by omega) (by omega)) rfl 4 (by decide) (hts _ (List.mem_of_getElem? (i := 3) rfl)) (fun _ h => h) rfl (ty := tyX0 4) (by decide +kernel) ⟨rfl, rfl⟩ (Nat.le_of_ble_eq_true rfl) (r1 := upd ((sp_st (sp_st (sp_st (sp_st (sp_st (sp_st (sp_st (sp_st (sp_st (sp_st σ (9 + i) 0 1) (9 + i) 1 (σ 0 4)) (9 + i) 2 t) (9 + i) 3 u) (9 + i) 4 r) (9 + i) 5 c1) (9 + i) 6 (b2i lf)) (9 + i) 7 z) (9 + i) 8 0) (9 + i) 9 1) 0) 4 ((σ 0 4) + 1)) (cE_of (cE_beach (by omega) (by omega)) (by simp [upd])) dX0_putPrint_129 (fun H locs hP hS => ?_)
            have hP : va_P D vwCl (cW ad cy pm rj (sp_st (sp_st (sp_st (sp_st (sp_st (sp_st (sp_st (sp_st (sp_st (sp_st (sp_st σ (9 + i) 0 1) (9 + i) 1 (σ 0 4)) (9 + i) 2 t) (9 + i) 3 u) (9 + i) 4 r) (9 + i) 5 c1) (9 + i) 6 (b2i lf)) (9 + i) 7 z) (9 + i) 8 0) (9 + i) 9 1) 0 4 ((σ 0 4) + 1))) H := hP
            refine lv_aload hx hb dX0_putPrint_132 (lv_at hl 0 rfl) ?_
            refine sp_get hx hb hts wi_X0_putPrint_X3 hown hK hP (κ := 9 + i) (by omega) (cE_print (by omega) (by omega)) rfl 1 (by decide) (hts _ (List.mem_of_getElem? (i := 4) rfl)) (fun _ h => h) rfl dX0_putPrint_134 ?_
            refine W.eq (g2 := F0 m 137 ls [.int (σ 0 4)]) (by rw [sp_st_k _ _ _ _ _ _ (by omega), sp_st_j _ _ _ _ _ _ (by decide), sp_st_j _ _ _ _ _ _ (by decide), sp_st_j _ _ _ _ _ _ (by decide), sp_st_j _ _ _ _ _ _ (by decide), sp_st_j _ _ _ _ _ _ (by decide), sp_st_j _ _ _ _ _ _ (by decide), sp_st_j _ _ _ _ _ _ (by decide), sp_st_j _ _ _ _ _ _ (by decide), sp_st_s]) ?_
            have hE9 : cW ad cy (pm) (rj) (sp_st (sp_st (sp_st (sp_st (sp_st (sp_st (sp_st (sp_st (sp_st (sp_st (sp_st σ (9 + i) 0 1) (9 + i) 1 (σ 0 4)) (9 + i) 2 t) (9 + i) 3 u) (9 + i) 4 r) (9 + i) 5 c1) (9 + i) 6 (b2i lf)) (9 + i) 7 z) (9 + i) 8 0) (9 + i) 9 1) 0 4 ((σ 0 4) + 1)) = cW ad cy (pm) (rj) (f_putP σ t u r c1 lf z) := by exact cW_eq rfl (by first | exact (f_putP_none hf).symm | exact (f_putP_some hf hlate).symm)
            have hP : va_P D vwCl (cW ad cy (pm) (rj) (f_putP σ t u r c1 lf z)) H := by rw [← hE9]; exact hP
            exact W.iret (v := σ 0 4) hx hb hr (fun T9 hT9 _ => ⟨congrArg (fun z9 => Outcome.returned (some (Value.int z9))) (show (σ 0 4 : Int32) = f_putPv σ from (by exact (f_putPv_some hf).symm)), by rw [hT9]; exact hP, hS.F hT9⟩) hS.2.2 dX0_putPrint_137
    exact loop_33 (30 + 1) (0)  (by omega) (by omega) (rfl) ls (lv_sub hl [0, 1, 2, 3, 4, 5, 6, 7, 8, 9, 10] rfl)

theorem wi_X0_dropTrack_X0 : ∀ w ∈ wsX00, w ∈ wsX0_dropTrack := by decide +kernel
theorem wi_X0_dropTrack_X8 : ∀ w ∈ wsX80, w ∈ wsX0_dropTrack := by decide +kernel
theorem wi_X0_dropTrack_X3 : ∀ w ∈ wsX30, w ∈ wsX0_dropTrack := by decide +kernel
set_option maxHeartbeats 4000000 in
set_option maxRecDepth 100000 in
theorem c_X0_dropTrack (l : Launch) (D : va_G) (ad : Nat → Nat) (cy : Nat → ClassId) (pm : Nat → Nat) (rj : Option Nat) (σ : Nat → Nat → Int32) (sz : Nat) (hi : sp_inj ad 459) (k : Nat) (hk : k < 6) : Met l yX0_dropTrack wsX0_dropTrack ({ frames := 1, cells := 0, slots := 0, locals := 21 } : Room) (sp_Pm D (tyG cy) sz [.ref (ad (0)), .ref (ad (3 + k))] (cW ad cy pm rj σ)) (sp_Q D (some (.int (f_dropTv σ k))) (cW ad cy (pm) (rj) (sp_st (f_dropP σ (σ (3 + k) 1) 30) (3 + k) 0 0)) (sp_A ad 459 sz)) 0 0 (sp_A ad 459 sz) := by
  refine Met.ofW (cc := cX0_dropTrack) (maxL := 7) (ret := (some .int)) (by decide) rfl ?_
  intro p e s m args below meth c s₁ B hml hv
  obtain ⟨rfl, hsz, hP, hK⟩ := hv
  have hx := B.exec
  have hb := B.bytes
  have hr := B.returns
  have hts := atoms_spec (ws := wsX0_dropTrack) B.pre
  have hown : s.vm.findClass RX0 = some m.cls := findClass_of_methodNamed B.named
  have hlocks := B.notSynchronized
  subst hsz
  have hS : va_S (sp_A ad 459 s.heap.size) s.heap s.heap [] := va_S.rf
  have hAk : ∀ k, k < 459 → (sp_A ad 459 s.heap.size) (ad k) := fun k hk => Or.inl ⟨k, hk, rfl⟩
  skip
  have hl := lv_entry ([.ref (ad (0)), .ref (ad (3 + k))]) (n := 7) (Nat.le_of_ble_eq_true rfl)
  refine W.eq (lg_entry_eq _ ([.ref (ad (0)), .ref (ad (3 + k))]) _) ?_
  generalize (lg_sl ([.ref (ad (0)), .ref (ad (3 + k))]) ++ List.replicate (7 - (lg_sl ([.ref (ad (0)), .ref (ad (3 + k))])).length) Slot.unset).toArray = ls at hl ⊢
  have hl : lv_has ls 7 [(0, .ref (ad (0))), (1, .ref (ad (3 + k)))] := hl
  refine lv_iconst (v := 0) hx hb dX0_dropTrack_0 (by decide) ?_
  refine lv_istore_n (lv' := [(2, .int (0)), (0, .ref (ad (0))), (1, .ref (ad (3 + k)))]) hx hb dX0_dropTrack_1 rfl hl (by decide) rfl (fun ls hl => ?_)
  refine lv_aload_n hx hb dX0_dropTrack_2 rfl (lv_at hl 1 rfl) ?_
  refine sp_get hx hb hts wi_X0_dropTrack_X0 hown hK hP (κ := 0) (by omega) (cE_beach (by omega) (by omega)) rfl 1 (by decide) (hts _ (List.mem_of_getElem? (i := 1) rfl)) (fun _ h => h) rfl dX0_dropTrack_3 ?_
  refine lv_astore_n (lv' := [(3, .ref (ad (2))), (2, .int (0)), (0, .ref (ad (0))), (1, .ref (ad (3 + k)))]) hx hb dX0_dropTrack_6 rfl hl (by decide) rfl (fun ls hl => ?_)
  refine lv_aload_n hx hb dX0_dropTrack_7 rfl (lv_at hl 0 rfl) ?_
  refine sp_alen hx hb hK hP (κ := 2) (by omega) 4 (cE_prints (by omega) (by omega)) rfl (v := 30) rfl dX0_dropTrack_8 ?_
  refine lv_istore (lv' := [(4, .int (30)), (3, .ref (ad (2))), (2, .int (0)), (0, .ref (ad (0))), (1, .ref (ad (3 + k)))]) hx hb dX0_dropTrack_9 hl (by decide) rfl (fun ls hl => ?_)
  refine lv_iconst (v := 0) hx hb dX0_dropTrack_11 (by decide) ?_
  refine lv_istore (lv' := [(5, .int (0)), (4, .int (30)), (3, .ref (ad (2))), (2, .int (0)), (0, .ref (ad (0))), (1, .ref (ad (3 + k)))]) hx hb dX0_dropTrack_12 hl (by decide) rfl (fun ls hl => ?_)
  have loop_14 : ∀ (n i : Nat) (x : Int32) (H : Heap) (locs : List Loc), (i ≤ 30) → (30 - i < n) → (x = sumI (F_onT σ (σ (3 + k) 1)) i) → (va_P D vwCl (cW ad cy pm rj (f_dropP σ (σ (3 + k) 1) i)) H) → (va_S (sp_A ad 459 s.heap.size) s.heap H locs) → ∀ ls : Array Slot, lv_has ls 7 [(5, .int (nI i)), (4, .int (30)), (3, .ref (ad (2))), (2, .int (x)), (0, .ref (ad (0))), (1, .ref (ad (3 + k)))] → W p l e (headSpec wsX0_dropTrack ({ frames := 1, cells := 0, slots := 0, locals := 21 } : Room)).room s m ([.ref (ad (0)), .ref (ad (3 + k))] : List Value).toArray below meth c H locs 0 0 (MQ below (sp_Q D (some (.int (f_dropTv σ k))) (cW ad cy (pm) (rj) (sp_st (f_dropP σ (σ (3 + k) 1) 30) (3 + k) 0 0)) (sp_A ad 459 s.heap.size)) ([.ref (ad (0)), .ref (ad (3 + k))] : List Value).toArray s 0 0 (sp_A ad 459 s.heap.size)) (F0 m 14 ls []) := by
    intro n
    induction n with
    | zero => intro i x H locs hle hlt hi_0 hP hS ls hl; exact absurd hlt (Nat.not_lt_zero _)
    | succ n ih =>
      intro i x H locs hle hlt hi_0 hP hS ls hl
      refine lv_iload hx hb dX0_dropTrack_14 (lv_at hl 0 rfl) ?_
      refine lv_iload hx hb dX0_dropTrack_16 (lv_at hl 1 rfl) ?_
      refine lv_icmp_ge (tgt := 54) hx hb dX0_dropTrack_18 (by decide) (fun c_1 => ?_) (fun c_1 => ?_)
      · skip
        have c_1d := Int32.not_lt.mpr c_1
        have hx_i : i = 30 := by have := (nI_leI (a := 30) (b := i) (by omega) (by omega)).mp c_1; omega
        try rw [hx_i] at hi_0
        rw [hx_i] at hP
        refine lv_aload_n hx hb dX0_dropTrack_54 rfl (lv_at hl 5 rfl) ?_
        refine lv_iconst (v := 0) hx hb dX0_dropTrack_55 (by decide) ?_
        refine sp_put hx hb hts wi_X0_dropTrack_X8 tyX8 tyX8_ok nmX8 hown hK hP hi hAk hS (κ := 3 + k) (by omega) (cE_track (by omega) (by omega)) rfl 0 (by decide) (hts _ (List.mem_of_getElem? (i := 4) rfl)) (fun _ h => h) rfl (ty := tyX8 0) (by decide +kernel) (nz_of (show bz 0 = 0 by decide)) (Nat.le_of_ble_eq_true rfl) (r1 := upd ((f_dropP σ (σ (3 + k) 1) 30) (3 + k)) 0 0) (cE_of (cE_track (by omega) (by omega)) (by simp [upd, (show bz 0 = 0 by decide)])) dX0_dropTrack_56 (fun H locs hP hS => ?_)
        have hP : va_P D vwCl (cW ad cy pm rj (sp_st (f_dropP σ (σ (3 + k) 1) 30) (3 + k) 0 0)) H := hP
        refine lv_iload_n hx hb dX0_dropTrack_59 rfl (lv_at hl 3 rfl) ?_
        exact W.iret (v := x) hx hb hr (fun T9 hT9 _ => ⟨congrArg (fun z9 => Outcome.returned (some (Value.int z9))) (show (x : Int32) = f_dropTv σ k from (by exact hi_0)), by rw [hT9]; exact hP, hS.F hT9⟩) hS.2.2 dX0_dropTrack_60
      · skip
        have c_1d := Int32.not_le.mp c_1
        have hb_i : i < 30 := Nat.lt_of_not_le (fun z => c_1 (nI_le z (by omega)))
        refine lv_aload_n hx hb dX0_dropTrack_21 rfl (lv_at hl 2 rfl) ?_
        refine lv_iload hx hb dX0_dropTrack_22 (lv_at hl 0 rfl) ?_
        refine sp_aald hx hb hK hP (κ := 2) (by omega) 4 (cE_prints (by omega) (by omega)) rfl i rfl (by omega) (by decide) (q := ad (9 + i)) rfl dX0_dropTrack_24 ?_
        refine lv_astore (lv' := [(6, .ref (ad (9 + i))), (5, .int (nI i)), (4, .int (30)), (3, .ref (ad (2))), (2, .int (x)), (0, .ref (ad (0))), (1, .ref (ad (3 + k)))]) hx hb dX0_dropTrack_25 hl (by decide) rfl (fun ls hl => ?_)
        refine lv_aload hx hb dX0_dropTrack_27 (lv_at hl 0 rfl) ?_
        refine lv_aload_n hx hb dX0_dropTrack_29 rfl (lv_at hl 6 rfl) ?_
        refine sp_get hx hb hts wi_X0_dropTrack_X8 hown hK hP (κ := 3 + k) (by omega) (cE_track (by omega) (by omega)) rfl 1 (by decide) (hts _ (List.mem_of_getElem? (i := 2) rfl)) (fun _ h => h) rfl dX0_dropTrack_30 ?_
        refine W.eq (g2 := F0 m 33 ls [.int (σ (3 + k) 1), .ref (ad (9 + i))]) (by rw [f_dropP_j _ _ _ _ (by decide)]) ?_
        refine sp_call (W.runV (As := [.int (σ (3 + k) 1)]) (rest := []) ⟨hx, hb, hml, hown, hts⟩ (c_X3_isOn l D ad cy pm rj (f_dropP σ (σ (3 + k) 1) i) (9 + i) (by omega) (by omega) (σ (3 + k) 1)) (cwV 1 hts gX0_dropTrack_X3_isOn rfl rfl rfl (by decide +kernel) ⟨Nat.le_of_ble_eq_true rfl, Nat.le_of_ble_eq_true rfl⟩) (sp_preV hK hP (κ := 9 + i) (by omega) (cE_print (by omega) (by omega)) rfl) rfl rfl hl.1 rfl (lv_room (Nat.le_of_ble_eq_true rfl)) dX0_dropTrack_33 ⟨Nat.le_of_ble_eq_true rfl, Nat.le_of_ble_eq_true rfl⟩) ?_
        refine W.eq (g2 := F0 m 36 ls [.int (b2i (f_isOn (f_dropP σ (σ (3 + k) 1) i) (9 + i) (σ (3 + k) 1)))]) rfl ?_
        refine W.eq (g2 := F0 m 36 ls [.int (b2i (f_isOn σ (9 + i) (σ (3 + k) 1)))]) (by rw [f_isOn_drop]) ?_
        refine lv_if_eq (tgt := 48) hx hb dX0_dropTrack_36 (by decide) (fun c_2 => ?_) (fun c_2 => ?_)
        · rw [b2i_eq0] at c_2
          refine lv_iinc (v := nI (i + 1)) (lv' := [(5, .int (nI (i + 1))), (6, .ref (ad (9 + i))), (4, .int (30)), (3, .ref (ad (2))), (2, .int (x)), (0, .ref (ad (0))), (1, .ref (ad (3 + k)))]) hx hb dX0_dropTrack_48 hl (k := 1) rfl (nI_1 _) (by decide) rfl (fun ls hl => ?_)
          refine lv_goto (tgt := 14) hx hb dX0_dropTrack_51 (by decide) ?_
          exact ih (i + 1) x  _ _ (by omega) (by omega) (by rw [sumI_succ, ← hi_0]; simp [F_onT, b2i, c_2]) ((show cW ad cy pm rj (f_dropP σ (σ (3 + k) 1) i) = cW ad cy pm rj (f_dropP σ (σ (3 + k) 1) (i + 1)) from (by refine cW_eq rfl ?_; first | exact f_dropP_y c_2 | exact f_dropP_n c_2)) ▸ hP) hS ls (lv_sub hl [0, 2, 3, 4, 5, 6] rfl)
        · rw [b2i_eq0] at c_2
          refine lv_aload hx hb dX0_dropTrack_39 (lv_at hl 0 rfl) ?_
          refine lv_iconst (v := 0) hx hb dX0_dropTrack_41 (by decide) ?_
          refine sp_put hx hb hts wi_X0_dropTrack_X3 tyX3 tyX3_ok nmX3 hown hK hP hi hAk hS (κ := 9 + i) (by omega) (cE_print (by omega) (by omega)) rfl 0 (by decide) (hts _ (List.mem_of_getElem? (i := 3) rfl)) (fun _ h => h) rfl (ty := tyX3 0) (by decide +kernel) (nz_of (show bz 0 = 0 by decide)) (Nat.le_of_ble_eq_true rfl) (r1 := upd ((f_dropP σ (σ (3 + k) 1) i) (9 + i)) 0 0) (cE_of (cE_print (by omega) (by omega)) (by simp [upd, (show bz 0 = 0 by decide)])) dX0_dropTrack_42 (fun H locs hP hS => ?_)
          have hP : va_P D vwCl (cW ad cy pm rj (sp_st (f_dropP σ (σ (3 + k) 1) i) (9 + i) 0 0)) H := hP
          refine lv_iinc (v := x + 1) (lv' := [(2, .int (x + 1)), (6, .ref (ad (9 + i))), (5, .int (nI i)), (4, .int (30)), (3, .ref (ad (2))), (0, .ref (ad (0))), (1, .ref (ad (3 + k)))]) hx hb dX0_dropTrack_45 hl (k := 4) rfl rfl (by decide) rfl (fun ls hl => ?_)
          refine lv_iinc (v := nI (i + 1)) (lv' := [(5, .int (nI (i + 1))), (2, .int (x + 1)), (6, .ref (ad (9 + i))), (4, .int (30)), (3, .ref (ad (2))), (0, .ref (ad (0))), (1, .ref (ad (3 + k)))]) hx hb dX0_dropTrack_48 hl (k := 2) rfl (nI_1 _) (by decide) rfl (fun ls hl => ?_)
          refine lv_goto (tgt := 14) hx hb dX0_dropTrack_51 (by decide) ?_
          exact ih (i + 1) (x + 1)  _ _ (by omega) (by omega) (by rw [sumI_succ, ← hi_0]; simp [F_onT, b2i, c_2]) ((show cW ad cy pm rj (sp_st (f_dropP σ (σ (3 + k) 1) i) (9 + i) 0 0) = cW ad cy pm rj (f_dropP σ (σ (3 + k) 1) (i + 1)) from (by refine cW_eq rfl ?_; first | exact f_dropP_y c_2 | exact f_dropP_n c_2)) ▸ hP) hS ls (lv_sub hl [0, 3, 4, 1, 5, 6] rfl)
  exact loop_14 (30 + 1) (0) (0)  _ _ (by omega) (by omega) (rfl) ((show cW ad cy pm rj (σ) = cW ad cy pm rj (f_dropP σ (σ (3 + k) 1) 0) from (by refine cW_eq rfl ?_; exact (f_dropP_0 σ _).symm)) ▸ hP) hS ls (lv_sub hl [0, 1, 2, 3, 4, 5] rfl)

theorem wi_X0_dropPrint_X3 : ∀ w ∈ wsX30, w ∈ wsX0_dropPrint := by decide +kernel
set_option maxHeartbeats 4000000 in
set_option maxRecDepth 100000 in
theorem c_X0_dropPrint (l : Launch) (D : va_G) (ad : Nat → Nat) (cy : Nat → ClassId) (pm : Nat → Nat) (rj : Option Nat) (σ : Nat → Nat → Int32) (sz : Nat) (hi : sp_inj ad 459) (k : Nat) (hk : k < 30) : Met l yX0_dropPrint wsX0_dropPrint ({ frames := 0, cells := 0, slots := 0, locals := 0 } : Room) (sp_Pm D (tyG cy) sz [.ref (ad (0)), .ref (ad (9 + k))] (cW ad cy pm rj σ)) (sp_Q D (none) (cW ad cy (pm) (rj) (sp_st σ (9 + k) 0 0)) (sp_A ad 459 sz)) 0 0 (sp_A ad 459 sz) := by
  refine Met.ofW (cc := cX0_dropPrint) (maxL := 2) (ret := none) (by decide) rfl ?_
  intro p e s m args below meth c s₁ B hml hv
  obtain ⟨rfl, hsz, hP, hK⟩ := hv
  have hx := B.exec
  have hb := B.bytes
  have hr := B.returns
  have hts := atoms_spec (ws := wsX0_dropPrint) B.pre
  have hown : s.vm.findClass RX0 = some m.cls := findClass_of_methodNamed B.named
  have hlocks := B.notSynchronized
  subst hsz
  have hS : va_S (sp_A ad 459 s.heap.size) s.heap s.heap [] := va_S.rf
  have hAk : ∀ k, k < 459 → (sp_A ad 459 s.heap.size) (ad k) := fun k hk => Or.inl ⟨k, hk, rfl⟩
  skip
  have hl := lv_entry ([.ref (ad (0)), .ref (ad (9 + k))]) (n := 2) (Nat.le_of_ble_eq_true rfl)
  refine W.eq (lg_entry_eq _ ([.ref (ad (0)), .ref (ad (9 + k))]) _) ?_
  generalize (lg_sl ([.ref (ad (0)), .ref (ad (9 + k))]) ++ List.replicate (2 - (lg_sl ([.ref (ad (0)), .ref (ad (9 + k))])).length) Slot.unset).toArray = ls at hl ⊢
  have hl : lv_has ls 2 [(0, .ref (ad (0))), (1, .ref (ad (9 + k)))] := hl
  refine lv_aload_n hx hb dX0_dropPrint_0 rfl (lv_at hl 1 rfl) ?_
  refine lv_iconst (v := 0) hx hb dX0_dropPrint_1 (by decide) ?_
  refine sp_put hx hb hts wi_X0_dropPrint_X3 tyX3 tyX3_ok nmX3 hown hK hP hi hAk hS (κ := 9 + k) (by omega) (cE_print (by omega) (by omega)) rfl 0 (by decide) (hts _ (List.mem_of_getElem? (i := 1) rfl)) (fun _ h => h) rfl (ty := tyX3 0) (by decide +kernel) (nz_of (show bz 0 = 0 by decide)) (Nat.le_of_ble_eq_true rfl) (r1 := upd (σ (9 + k)) 0 0) (cE_of (cE_print (by omega) (by omega)) (by simp [upd, (show bz 0 = 0 by decide)])) dX0_dropPrint_2 (fun H locs hP hS => ?_)
  have hP : va_P D vwCl (cW ad cy pm rj (sp_st σ (9 + k) 0 0)) H := hP
  exact W.vret hx hb hr (fun T9 hT9 _ => ⟨rfl, by rw [hT9]; exact hP, hS.F hT9⟩) hS.2.2 dX0_dropPrint_5

theorem wi_X0_moveHeel_X3 : ∀ w ∈ wsX30, w ∈ wsX0_moveHeel := by decide +kernel
theorem wi_X0_moveHeel_X0 : ∀ w ∈ wsX00, w ∈ wsX0_moveHeel := by decide +kernel
set_option maxHeartbeats 4000000 in
set_option maxRecDepth 100000 in
theorem c_X0_moveHeel (l : Launch) (D : va_G) (ad : Nat → Nat) (cy : Nat → ClassId) (pm : Nat → Nat) (rj : Option Nat) (σ : Nat → Nat → Int32) (sz : Nat) (hi : sp_inj ad 459) (k : Nat) (hk : k < 30) (r : Int32) (c1 : Int32) : Met l yX0_moveHeel wsX0_moveHeel ({ frames := 2, cells := 0, slots := 0, locals := 44 } : Room) (sp_Pm D (tyG cy) sz [.ref (ad (0)), .ref (ad (9 + k)), .int (r), .int (c1)] (cW ad cy pm rj σ)) (sp_Q D (some (.int (f_dist σ (9 + k) r c1))) (cW ad cy (pm) (rj) (sp_st (sp_st (sp_st σ (9 + k) 4 r) (9 + k) 5 c1) 0 6 (σ 0 6 + 1))) (sp_A ad 459 sz)) 0 0 (sp_A ad 459 sz) := by
  refine Met.ofW (cc := cX0_moveHeel) (maxL := 5) (ret := (some .int)) (by decide) rfl ?_
  intro p e s m args below meth c s₁ B hml hv
  obtain ⟨rfl, hsz, hP, hK⟩ := hv
  have hx := B.exec
  have hb := B.bytes
  have hr := B.returns
  have hts := atoms_spec (ws := wsX0_moveHeel) B.pre
  have hown : s.vm.findClass RX0 = some m.cls := findClass_of_methodNamed B.named
  have hlocks := B.notSynchronized
  subst hsz
  have hS : va_S (sp_A ad 459 s.heap.size) s.heap s.heap [] := va_S.rf
  have hAk : ∀ k, k < 459 → (sp_A ad 459 s.heap.size) (ad k) := fun k hk => Or.inl ⟨k, hk, rfl⟩
  skip
  have hl := lv_entry ([.ref (ad (0)), .ref (ad (9 + k)), .int (r), .int (c1)]) (n := 5) (Nat.le_of_ble_eq_true rfl)
  refine W.eq (lg_entry_eq _ ([.ref (ad (0)), .ref (ad (9 + k)), .int (r), .int (c1)]) _) ?_
  generalize (lg_sl ([.ref (ad (0)), .ref (ad (9 + k)), .int (r), .int (c1)]) ++ List.replicate (5 - (lg_sl ([.ref (ad (0)), .ref (ad (9 + k)), .int (r), .int (c1)])).length) Slot.unset).toArray = ls at hl ⊢
  have hl : lv_has ls 5 [(0, .ref (ad (0))), (1, .ref (ad (9 + k))), (2, .int (r)), (3, .int (c1))] := hl
  refine lv_aload_n hx hb dX0_moveHeel_0 rfl (lv_at hl 1 rfl) ?_
  refine lv_iload_n hx hb dX0_moveHeel_1 rfl (lv_at hl 2 rfl) ?_
  refine lv_iload_n hx hb dX0_moveHeel_2 rfl (lv_at hl 3 rfl) ?_
  refine sp_call (W.runV (As := [.int (r), .int (c1)]) (rest := []) ⟨hx, hb, hml, hown, hts⟩ (c_X3_distanceTo l D ad cy pm rj σ (9 + k) (by omega) (by omega) r c1) (cwV 2 hts gX0_moveHeel_X3_distanceTo rfl rfl rfl (by decide +kernel) ⟨Nat.le_of_ble_eq_true rfl, Nat.le_of_ble_eq_true rfl⟩) (sp_preV hK hP (κ := 9 + k) (by omega) (cE_print (by omega) (by omega)) rfl) rfl rfl hl.1 rfl (lv_room (Nat.le_of_ble_eq_true rfl)) dX0_moveHeel_3 ⟨Nat.le_of_ble_eq_true rfl, Nat.le_of_ble_eq_true rfl⟩) ?_
  refine W.eq (g2 := F0 m 6 ls [.int (f_dist σ (9 + k) r c1)]) rfl ?_
  refine lv_istore (lv' := [(4, .int (f_dist σ (9 + k) r c1)), (0, .ref (ad (0))), (1, .ref (ad (9 + k))), (2, .int (r)), (3, .int (c1))]) hx hb dX0_moveHeel_6 hl (by decide) rfl (fun ls hl => ?_)
  refine lv_aload_n hx hb dX0_moveHeel_8 rfl (lv_at hl 2 rfl) ?_
  refine lv_iload_n hx hb dX0_moveHeel_9 rfl (lv_at hl 3 rfl) ?_
  refine sp_put hx hb hts wi_X0_moveHeel_X3 tyX3 tyX3_ok nmX3 hown hK hP hi hAk hS (κ := 9 + k) (by omega) (cE_print (by omega) (by omega)) rfl 4 (by decide) (hts _ (List.mem_of_getElem? (i := 1) rfl)) (fun _ h => h) rfl (ty := tyX3 4) (by decide +kernel) ⟨rfl, rfl⟩ (Nat.le_of_ble_eq_true rfl) (r1 := upd (σ (9 + k)) 4 r) (cE_of (cE_print (by omega) (by omega)) (by simp [upd])) dX0_moveHeel_10 (fun H locs hP hS => ?_)
  have hP : va_P D vwCl (cW ad cy pm rj (sp_st σ (9 + k) 4 r)) H := hP
  refine lv_aload_n hx hb dX0_moveHeel_13 rfl (lv_at hl 2 rfl) ?_
  refine lv_iload_n hx hb dX0_moveHeel_14 rfl (lv_at hl 4 rfl) ?_
  refine sp_put hx hb hts wi_X0_moveHeel_X3 tyX3 tyX3_ok nmX3 hown hK hP hi hAk hS (κ := 9 + k) (by omega) (cE_print (by omega) (by omega)) rfl 5 (by decide) (hts _ (List.mem_of_getElem? (i := 2) rfl)) (fun _ h => h) rfl (ty := tyX3 5) (by decide +kernel) ⟨rfl, rfl⟩ (Nat.le_of_ble_eq_true rfl) (r1 := upd ((sp_st σ (9 + k) 4 r) (9 + k)) 5 c1) (cE_of (cE_print (by omega) (by omega)) (by simp [upd])) dX0_moveHeel_15 (fun H locs hP hS => ?_)
  have hP : va_P D vwCl (cW ad cy pm rj (sp_st (sp_st σ (9 + k) 4 r) (9 + k) 5 c1)) H := hP
  refine lv_aload_n hx hb dX0_moveHeel_18 rfl (lv_at hl 1 rfl) ?_
  refine lv_dup hx hb dX0_moveHeel_19 rfl ?_
  refine sp_get hx hb hts wi_X0_moveHeel_X0 hown hK hP (κ := 0) (by omega) (cE_beach (by omega) (by omega)) rfl 6 (by decide) (hts _ (List.mem_of_getElem? (i := 3) rfl)) (fun _ h => h) rfl dX0_moveHeel_20 ?_
  refine W.eq (g2 := F0 m 23 ls [.int (σ 0 6), .ref (ad (0))]) (by rw [sp_st_k _ _ _ _ _ _ (by omega), sp_st_k _ _ _ _ _ _ (by omega)]) ?_
  refine lv_iconst (v := 1) hx hb dX0_moveHeel_23 (by decide) ?_
  refine lv_iadd hx hb dX0_moveHeel_24 ?_
  refine sp_put hx hb hts wi_X0_moveHeel_X0 tyX0 tyX0_ok nmX0 hown hK hP hi hAk hS (κ := 0) (by omega) (cE_beach (by omega) (by omega)) rfl 6 (by decide) (hts _ (List.mem_of_getElem? (i := 3) rfl)) (fun _ h => h) rfl (ty := tyX0 6) (by decide +kernel) ⟨rfl, rfl⟩ (Nat.le_of_ble_eq_true rfl) (r1 := upd ((sp_st (sp_st σ (9 + k) 4 r) (9 + k) 5 c1) 0) 6 ((σ 0 6) + 1)) (cE_of (cE_beach (by omega) (by omega)) (by simp [upd])) dX0_moveHeel_25 (fun H locs hP hS => ?_)
  have hP : va_P D vwCl (cW ad cy pm rj (sp_st (sp_st (sp_st σ (9 + k) 4 r) (9 + k) 5 c1) 0 6 ((σ 0 6) + 1))) H := hP
  refine lv_iload hx hb dX0_moveHeel_28 (lv_at hl 0 rfl) ?_
  have hE9 : cW ad cy (pm) (rj) (sp_st (sp_st (sp_st σ (9 + k) 4 r) (9 + k) 5 c1) 0 6 ((σ 0 6) + 1)) = cW ad cy (pm) (rj) (sp_st (sp_st (sp_st σ (9 + k) 4 r) (9 + k) 5 c1) 0 6 (σ 0 6 + 1)) := by first | rfl | exact cW_eq rfl (by simp [])
  have hP : va_P D vwCl (cW ad cy (pm) (rj) (sp_st (sp_st (sp_st σ (9 + k) 4 r) (9 + k) 5 c1) 0 6 (σ 0 6 + 1))) H := by rw [← hE9]; exact hP
  exact W.iret (v := f_dist σ (9 + k) r c1) hx hb hr (fun T9 hT9 _ => ⟨congrArg (fun z9 => Outcome.returned (some (Value.int z9))) (show (f_dist σ (9 + k) r c1 : Int32) = f_dist σ (9 + k) r c1 from (by first | rfl | (simp [b2i]; done))), by rw [hT9]; exact hP, hS.F hT9⟩) hS.2.2 dX0_moveHeel_30

theorem wi_X0_moveTide_X0 : ∀ w ∈ wsX00, w ∈ wsX0_moveTide := by decide +kernel
theorem wi_X0_moveTide_X3 : ∀ w ∈ wsX30, w ∈ wsX0_moveTide := by decide +kernel
set_option maxHeartbeats 4000000 in
set_option maxRecDepth 100000 in
theorem c_X0_moveTide (l : Launch) (D : va_G) (ad : Nat → Nat) (cy : Nat → ClassId) (pm : Nat → Nat) (rj : Option Nat) (σ : Nat → Nat → Int32) (sz : Nat) (hi : sp_inj ad 459) (v : Int32) : Met l yX0_moveTide wsX0_moveTide ({ frames := 1, cells := 0, slots := 0, locals := 21 } : Room) (sp_Pm D (tyG cy) sz [.ref (ad (0)), .int (v)] (cW ad cy pm rj σ)) (sp_Q D (some (.int (f_below σ v))) (cW ad cy (pm) (rj) (sp_st (f_tideP σ v 30) 0 5 (σ 0 5 + f_below σ v))) (sp_A ad 459 sz)) 0 0 (sp_A ad 459 sz) := by
  refine Met.ofW (cc := cX0_moveTide) (maxL := 7) (ret := (some .int)) (by decide) rfl ?_
  intro p e s m args below meth c s₁ B hml hv
  obtain ⟨rfl, hsz, hP, hK⟩ := hv
  have hx := B.exec
  have hb := B.bytes
  have hr := B.returns
  have hts := atoms_spec (ws := wsX0_moveTide) B.pre
  have hown : s.vm.findClass RX0 = some m.cls := findClass_of_methodNamed B.named
  have hlocks := B.notSynchronized
  subst hsz
  have hS : va_S (sp_A ad 459 s.heap.size) s.heap s.heap [] := va_S.rf
  have hAk : ∀ k, k < 459 → (sp_A ad 459 s.heap.size) (ad k) := fun k hk => Or.inl ⟨k, hk, rfl⟩
  skip
  have hl := lv_entry ([.ref (ad (0)), .int (v)]) (n := 7) (Nat.le_of_ble_eq_true rfl)
  refine W.eq (lg_entry_eq _ ([.ref (ad (0)), .int (v)]) _) ?_
  generalize (lg_sl ([.ref (ad (0)), .int (v)]) ++ List.replicate (7 - (lg_sl ([.ref (ad (0)), .int (v)])).length) Slot.unset).toArray = ls at hl ⊢
  have hl : lv_has ls 7 [(0, .ref (ad (0))), (1, .int (v))] := hl
  refine lv_iconst (v := 0) hx hb dX0_moveTide_0 (by decide) ?_
  refine lv_istore_n (lv' := [(2, .int (0)), (0, .ref (ad (0))), (1, .int (v))]) hx hb dX0_moveTide_1 rfl hl (by decide) rfl (fun ls hl => ?_)
  refine lv_aload_n hx hb dX0_moveTide_2 rfl (lv_at hl 1 rfl) ?_
  refine lv_iload_n hx hb dX0_moveTide_3 rfl (lv_at hl 2 rfl) ?_
  refine sp_put hx hb hts wi_X0_moveTide_X0 tyX0 tyX0_ok nmX0 hown hK hP hi hAk hS (κ := 0) (by omega) (cE_beach (by omega) (by omega)) rfl 2 (by decide) (hts _ (List.mem_of_getElem? (i := 1) rfl)) (fun _ h => h) rfl (ty := tyX0 2) (by decide +kernel) ⟨rfl, rfl⟩ (Nat.le_of_ble_eq_true rfl) (r1 := upd (σ 0) 2 v) (cE_of (cE_beach (by omega) (by omega)) (by simp [upd])) dX0_moveTide_4 (fun H locs hP hS => ?_)
  have hP : va_P D vwCl (cW ad cy pm rj (sp_st σ 0 2 v)) H := hP
  refine lv_aload_n hx hb dX0_moveTide_7 rfl (lv_at hl 1 rfl) ?_
  refine sp_get hx hb hts wi_X0_moveTide_X0 hown hK hP (κ := 0) (by omega) (cE_beach (by omega) (by omega)) rfl 1 (by decide) (hts _ (List.mem_of_getElem? (i := 2) rfl)) (fun _ h => h) rfl dX0_moveTide_8 ?_
  refine lv_astore_n (lv' := [(3, .ref (ad (2))), (2, .int (0)), (0, .ref (ad (0))), (1, .int (v))]) hx hb dX0_moveTide_11 rfl hl (by decide) rfl (fun ls hl => ?_)
  refine lv_aload_n hx hb dX0_moveTide_12 rfl (lv_at hl 0 rfl) ?_
  refine sp_alen hx hb hK hP (κ := 2) (by omega) 4 (cE_prints (by omega) (by omega)) rfl (v := 30) rfl dX0_moveTide_13 ?_
  refine lv_istore (lv' := [(4, .int (30)), (3, .ref (ad (2))), (2, .int (0)), (0, .ref (ad (0))), (1, .int (v))]) hx hb dX0_moveTide_14 hl (by decide) rfl (fun ls hl => ?_)
  refine lv_iconst (v := 0) hx hb dX0_moveTide_16 (by decide) ?_
  refine lv_istore (lv' := [(5, .int (0)), (4, .int (30)), (3, .ref (ad (2))), (2, .int (0)), (0, .ref (ad (0))), (1, .int (v))]) hx hb dX0_moveTide_17 hl (by decide) rfl (fun ls hl => ?_)
  have loop_19 : ∀ (n i : Nat) (x : Int32) (H : Heap) (locs : List Loc), (i ≤ 30) → (30 - i < n) → (x = sumI (F_below σ v) i) → (va_P D vwCl (cW ad cy pm rj (f_tideP σ v i)) H) → (va_S (sp_A ad 459 s.heap.size) s.heap H locs) → ∀ ls : Array Slot, lv_has ls 7 [(5, .int (nI i)), (4, .int (30)), (3, .ref (ad (2))), (2, .int (x)), (0, .ref (ad (0))), (1, .int (v))] → W p l e (headSpec wsX0_moveTide ({ frames := 1, cells := 0, slots := 0, locals := 21 } : Room)).room s m ([.ref (ad (0)), .int (v)] : List Value).toArray below meth c H locs 0 0 (MQ below (sp_Q D (some (.int (f_below σ v))) (cW ad cy (pm) (rj) (sp_st (f_tideP σ v 30) 0 5 (σ 0 5 + f_below σ v))) (sp_A ad 459 s.heap.size)) ([.ref (ad (0)), .int (v)] : List Value).toArray s 0 0 (sp_A ad 459 s.heap.size)) (F0 m 19 ls []) := by
    intro n
    induction n with
    | zero => intro i x H locs hle hlt hi_0 hP hS ls hl; exact absurd hlt (Nat.not_lt_zero _)
    | succ n ih =>
      intro i x H locs hle hlt hi_0 hP hS ls hl
      refine lv_iload hx hb dX0_moveTide_19 (lv_at hl 0 rfl) ?_
      refine lv_iload hx hb dX0_moveTide_21 (lv_at hl 1 rfl) ?_
      refine lv_icmp_ge (tgt := 67) hx hb dX0_moveTide_23 (by decide) (fun c_1 => ?_) (fun c_1 => ?_)
      · skip
        have c_1d := Int32.not_lt.mpr c_1
        have hx_i : i = 30 := by have := (nI_leI (a := 30) (b := i) (by omega) (by omega)).mp c_1; omega
        try rw [hx_i] at hi_0
        rw [hx_i] at hP
        refine lv_aload_n hx hb dX0_moveTide_67 rfl (lv_at hl 4 rfl) ?_
        refine lv_dup hx hb dX0_moveTide_68 rfl ?_
        refine sp_get hx hb hts wi_X0_moveTide_X0 hown hK hP (κ := 0) (by omega) (cE_beach (by omega) (by omega)) rfl 5 (by decide) (hts _ (List.mem_of_getElem? (i := 5) rfl)) (fun _ h => h) rfl dX0_moveTide_69 ?_
        refine W.eq (g2 := F0 m 72 ls [.int (σ 0 5), .ref (ad (0))]) (by rw [f_tideP_j _ _ _ _ (by decide) (by decide)]) ?_
        refine lv_iload_n hx hb dX0_moveTide_72 rfl (lv_at hl 3 rfl) ?_
        refine lv_iadd hx hb dX0_moveTide_73 ?_
        refine sp_put hx hb hts wi_X0_moveTide_X0 tyX0 tyX0_ok nmX0 hown hK hP hi hAk hS (κ := 0) (by omega) (cE_beach (by omega) (by omega)) rfl 5 (by decide) (hts _ (List.mem_of_getElem? (i := 5) rfl)) (fun _ h => h) rfl (ty := tyX0 5) (by decide +kernel) ⟨rfl, rfl⟩ (Nat.le_of_ble_eq_true rfl) (r1 := upd ((f_tideP σ v 30) 0) 5 ((σ 0 5) + x)) (cE_of (cE_beach (by omega) (by omega)) (by simp [upd])) dX0_moveTide_74 (fun H locs hP hS => ?_)
        have hP : va_P D vwCl (cW ad cy pm rj (sp_st (f_tideP σ v 30) 0 5 ((σ 0 5) + x))) H := hP
        refine lv_iload_n hx hb dX0_moveTide_77 rfl (lv_at hl 3 rfl) ?_
        have hE9 : cW ad cy (pm) (rj) (sp_st (f_tideP σ v 30) 0 5 ((σ 0 5) + x)) = cW ad cy (pm) (rj) (sp_st (f_tideP σ v 30) 0 5 (σ 0 5 + f_below σ v)) := by exact cW_eq rfl (by rw [hi_0]; rfl)
        have hP : va_P D vwCl (cW ad cy (pm) (rj) (sp_st (f_tideP σ v 30) 0 5 (σ 0 5 + f_below σ v))) H := by rw [← hE9]; exact hP
        exact W.iret (v := x) hx hb hr (fun T9 hT9 _ => ⟨congrArg (fun z9 => Outcome.returned (some (Value.int z9))) (show (x : Int32) = f_below σ v from (by exact hi_0)), by rw [hT9]; exact hP, hS.F hT9⟩) hS.2.2 dX0_moveTide_78
      · skip
        have c_1d := Int32.not_le.mp c_1
        have hb_i : i < 30 := Nat.lt_of_not_le (fun z => c_1 (nI_le z (by omega)))
        refine lv_aload_n hx hb dX0_moveTide_26 rfl (lv_at hl 2 rfl) ?_
        refine lv_iload hx hb dX0_moveTide_27 (lv_at hl 0 rfl) ?_
        refine sp_aald hx hb hK hP (κ := 2) (by omega) 4 (cE_prints (by omega) (by omega)) rfl i rfl (by omega) (by decide) (q := ad (9 + i)) rfl dX0_moveTide_29 ?_
        refine lv_astore (lv' := [(6, .ref (ad (9 + i))), (5, .int (nI i)), (4, .int (30)), (3, .ref (ad (2))), (2, .int (x)), (0, .ref (ad (0))), (1, .int (v))]) hx hb dX0_moveTide_30 hl (by decide) rfl (fun ls hl => ?_)
        refine lv_aload hx hb dX0_moveTide_32 (lv_at hl 0 rfl) ?_
        refine sp_get hx hb hts wi_X0_moveTide_X3 hown hK hP (κ := 9 + i) (by omega) (cE_print (by omega) (by omega)) rfl 0 (by decide) (hts _ (List.mem_of_getElem? (i := 3) rfl)) (fun _ h => h) rfl dX0_moveTide_34 ?_
        refine W.eq (g2 := F0 m 37 ls [.int (bz (σ (9 + i) 0))]) (by rw [f_tideP_at]) ?_
        refine lv_if_eq (tgt := 61) hx hb dX0_moveTide_37 (by decide) (fun c_2 => ?_) (fun c_2 => ?_)
        · rw [bz_eq0] at c_2
          refine lv_iinc (v := nI (i + 1)) (lv' := [(5, .int (nI (i + 1))), (6, .ref (ad (9 + i))), (4, .int (30)), (3, .ref (ad (2))), (2, .int (x)), (0, .ref (ad (0))), (1, .int (v))]) hx hb dX0_moveTide_61 hl (k := 1) rfl (nI_1 _) (by decide) rfl (fun ls hl => ?_)
          refine lv_goto (tgt := 19) hx hb dX0_moveTide_64 (by decide) ?_
          exact ih (i + 1) x  _ _ (by omega) (by omega) (by rw [sumI_succ, ← hi_0]; simp only [F_below]; first | (simp [b2i, c_2]; done) | (simp [b2i, c_2, of_decide_eq_false c_2]; done) | (simp [b2i, c_2, of_decide_eq_true (by simpa using c_2)]; done)) ((show cW ad cy pm rj (f_tideP σ v i) = cW ad cy pm rj (f_tideP σ v (i + 1)) from (by refine cW_eq rfl ?_; first | exact f_tideP_n (Or.inr (of_decide_eq_false c_2)) | exact f_tideP_n (Or.inl c_2) | exact f_tideP_y (of_decide_eq_true (by simpa using c_2)))) ▸ hP) hS ls (lv_sub hl [0, 2, 3, 4, 5, 6] rfl)
        · rw [bz_eq0] at c_2
          refine lv_aload_n hx hb dX0_moveTide_40 rfl (lv_at hl 5 rfl) ?_
          refine lv_aload hx hb dX0_moveTide_41 (lv_at hl 0 rfl) ?_
          refine sp_get hx hb hts wi_X0_moveTide_X3 hown hK hP (κ := 9 + i) (by omega) (cE_print (by omega) (by omega)) rfl 4 (by decide) (hts _ (List.mem_of_getElem? (i := 4) rfl)) (fun _ h => h) rfl dX0_moveTide_43 ?_
          refine W.eq (g2 := F0 m 46 ls [.int (σ (9 + i) 4), .ref (ad (0))]) (by rw [f_tideP_at]) ?_
          refine sp_call (W.runV (As := [.int (σ (9 + i) 4)]) (rest := []) ⟨hx, hb, hml, hown, hts⟩ (c_X0_isUnderWater l D ad cy pm rj (f_tideP σ v i) (σ (9 + i) 4)) (cwV 1 hts gX0_moveTide_X0_isUnderWater rfl rfl rfl (by decide +kernel) ⟨Nat.le_of_ble_eq_true rfl, Nat.le_of_ble_eq_true rfl⟩) (sp_preV hK hP (κ := 0) (by omega) (cE_beach (by omega) (by omega)) rfl) rfl rfl hl.1 rfl (lv_room (Nat.le_of_ble_eq_true rfl)) dX0_moveTide_46 ⟨Nat.le_of_ble_eq_true rfl, Nat.le_of_ble_eq_true rfl⟩) ?_
          refine W.eq (g2 := F0 m 49 ls [.int (b2i (f_under (f_tideP σ v i) (σ (9 + i) 4)))]) rfl ?_
          refine W.eq (g2 := F0 m 49 ls [.int (b2i (decide (σ (9 + i) 4 < v)))]) (by rw [f_under_tide]) ?_
          refine lv_if_eq (tgt := 61) hx hb dX0_moveTide_49 (by decide) (fun c_3 => ?_) (fun c_3 => ?_)
          · rw [b2i_eq0] at c_3
            refine lv_iinc (v := nI (i + 1)) (lv' := [(5, .int (nI (i + 1))), (6, .ref (ad (9 + i))), (4, .int (30)), (3, .ref (ad (2))), (2, .int (x)), (0, .ref (ad (0))), (1, .int (v))]) hx hb dX0_moveTide_61 hl (k := 1) rfl (nI_1 _) (by decide) rfl (fun ls hl => ?_)
            refine lv_goto (tgt := 19) hx hb dX0_moveTide_64 (by decide) ?_
            exact ih (i + 1) x  _ _ (by omega) (by omega) (by rw [sumI_succ, ← hi_0]; simp only [F_below]; first | (simp [b2i, c_2, c_3]; done) | (simp [b2i, c_2, c_3, of_decide_eq_false c_3]; done) | (simp [b2i, c_2, c_3, of_decide_eq_true (by simpa using c_3)]; done)) ((show cW ad cy pm rj (f_tideP σ v i) = cW ad cy pm rj (f_tideP σ v (i + 1)) from (by refine cW_eq rfl ?_; first | exact f_tideP_n (Or.inr (of_decide_eq_false c_3)) | exact f_tideP_n (Or.inl c_3) | exact f_tideP_y (of_decide_eq_true (by simpa using c_3)))) ▸ hP) hS ls (lv_sub hl [0, 2, 3, 4, 5, 6] rfl)
          · rw [b2i_eq0] at c_3
            refine lv_aload hx hb dX0_moveTide_52 (lv_at hl 0 rfl) ?_
            refine lv_iconst (v := 0) hx hb dX0_moveTide_54 (by decide) ?_
            refine sp_put hx hb hts wi_X0_moveTide_X3 tyX3 tyX3_ok nmX3 hown hK hP hi hAk hS (κ := 9 + i) (by omega) (cE_print (by omega) (by omega)) rfl 0 (by decide) (hts _ (List.mem_of_getElem? (i := 3) rfl)) (fun _ h => h) rfl (ty := tyX3 0) (by decide +kernel) (nz_of (show bz 0 = 0 by decide)) (Nat.le_of_ble_eq_true rfl) (r1 := upd ((f_tideP σ v i) (9 + i)) 0 0) (cE_of (cE_print (by omega) (by omega)) (by simp [upd, (show bz 0 = 0 by decide)])) dX0_moveTide_55 (fun H locs hP hS => ?_)
            have hP : va_P D vwCl (cW ad cy pm rj (sp_st (f_tideP σ v i) (9 + i) 0 0)) H := hP
            refine lv_iinc (v := x + 1) (lv' := [(2, .int (x + 1)), (6, .ref (ad (9 + i))), (5, .int (nI i)), (4, .int (30)), (3, .ref (ad (2))), (0, .ref (ad (0))), (1, .int (v))]) hx hb dX0_moveTide_58 hl (k := 4) rfl rfl (by decide) rfl (fun ls hl => ?_)
            refine lv_iinc (v := nI (i + 1)) (lv' := [(5, .int (nI (i + 1))), (2, .int (x + 1)), (6, .ref (ad (9 + i))), (4, .int (30)), (3, .ref (ad (2))), (0, .ref (ad (0))), (1, .int (v))]) hx hb dX0_moveTide_61 hl (k := 2) rfl (nI_1 _) (by decide) rfl (fun ls hl => ?_)
            refine lv_goto (tgt := 19) hx hb dX0_moveTide_64 (by decide) ?_
            exact ih (i + 1) (x + 1)  _ _ (by omega) (by omega) (by rw [sumI_succ, ← hi_0]; simp only [F_below]; first | (simp [b2i, c_2, c_3]; done) | (simp [b2i, c_2, c_3, of_decide_eq_false c_3]; done) | (simp [b2i, c_2, c_3, of_decide_eq_true (by simpa using c_3)]; done)) ((show cW ad cy pm rj (sp_st (f_tideP σ v i) (9 + i) 0 0) = cW ad cy pm rj (f_tideP σ v (i + 1)) from (by refine cW_eq rfl ?_; first | exact f_tideP_n (Or.inr (of_decide_eq_false c_3)) | exact f_tideP_n (Or.inl c_3) | exact f_tideP_y (of_decide_eq_true (by simpa using c_3)))) ▸ hP) hS ls (lv_sub hl [0, 3, 4, 1, 5, 6] rfl)
  exact loop_19 (30 + 1) (0) (0)  _ _ (by omega) (by omega) (rfl) ((show cW ad cy pm rj (sp_st σ 0 2 v) = cW ad cy pm rj (f_tideP σ v 0) from (by refine cW_eq rfl ?_; exact (f_tideP_0 σ v).symm)) ▸ hP) hS ls (lv_sub hl [0, 1, 2, 3, 4, 5] rfl)

theorem wi_X2_push_X2 : ∀ w ∈ wsX20, w ∈ wsX2_push := by decide +kernel
set_option maxHeartbeats 4000000 in
set_option maxRecDepth 100000 in
theorem c_X2_push (l : Launch) (D : va_G) (ad : Nat → Nat) (cy : Nat → ClassId) (pm : Nat → Nat) (rj : Option Nat) (σ : Nat → Nat → Int32) (sz : Nat) (hi : sp_inj ad 459) (hpm : ∀ j, j < 8 → 1 ≤ pm j ∧ pm j ≤ 8) (b : Nat) (hb2 : b = 0 ∨ b = 9) : Met l yX2_push wsX2_push ({ frames := 2, cells := 0, slots := 0, locals := 43 } : Room) (sp_Pm D (tyG cy) sz [.ref (ad (431)), .ref (ad (39 * b))] (cW ad cy pm rj σ)) (sp_Q D (none) (cW ad cy (pm_push pm) (rj) (sp_st (f_copyB σ (pm 7) b) 431 1 (imin (σ 431 1 + 1) 8))) (sp_A ad 459 sz)) 0 0 (sp_A ad 459 sz) := by
  refine Met.ofW (cc := cX2_push) (maxL := 4) (ret := none) (by decide) rfl ?_
  intro p e s m args below meth c s₁ B hml hv
  obtain ⟨rfl, hsz, hP, hK⟩ := hv
  have hx := B.exec
  have hb := B.bytes
  have hr := B.returns
  have hts := atoms_spec (ws := wsX2_push) B.pre
  have hown : s.vm.findClass RX2 = some m.cls := findClass_of_methodNamed B.named
  have hlocks := B.notSynchronized
  subst hsz
  have hS : va_S (sp_A ad 459 s.heap.size) s.heap s.heap [] := va_S.rf
  have hAk : ∀ k, k < 459 → (sp_A ad 459 s.heap.size) (ad k) := fun k hk => Or.inl ⟨k, hk, rfl⟩
  skip
  have hpm7 := hpm 7 (by decide)
  have hpm0 := hpm 0 (by decide)
  have hpm1 := hpm 1 (by decide)
  have hpm2 := hpm 2 (by decide)
  have hpm3 := hpm 3 (by decide)
  have hpm4 := hpm 4 (by decide)
  have hpm5 := hpm 5 (by decide)
  have hpm6 := hpm 6 (by decide)
  have hl := lv_entry ([.ref (ad (431)), .ref (ad (39 * b))]) (n := 4) (Nat.le_of_ble_eq_true rfl)
  refine W.eq (lg_entry_eq _ ([.ref (ad (431)), .ref (ad (39 * b))]) _) ?_
  generalize (lg_sl ([.ref (ad (431)), .ref (ad (39 * b))]) ++ List.replicate (4 - (lg_sl ([.ref (ad (431)), .ref (ad (39 * b))])).length) Slot.unset).toArray = ls at hl ⊢
  have hl : lv_has ls 4 [(0, .ref (ad (431))), (1, .ref (ad (39 * b)))] := hl
  refine lv_aload_n hx hb dX2_push_0 rfl (lv_at hl 0 rfl) ?_
  refine sp_get hx hb hts wi_X2_push_X2 hown hK hP (κ := 431) (by decide) cE_hist rfl 0 (by decide) (hts _ (List.mem_of_getElem? (i := 1) rfl)) (fun _ h => h) rfl dX2_push_1 ?_
  refine lv_aload_n hx hb dX2_push_4 rfl (lv_at hl 0 rfl) ?_
  refine sp_get hx hb hts wi_X2_push_X2 hown hK hP (κ := 431) (by decide) cE_hist rfl 0 (by decide) (hts _ (List.mem_of_getElem? (i := 1) rfl)) (fun _ h => h) rfl dX2_push_5 ?_
  refine sp_alen hx hb hK hP (κ := 432) (by decide) 2 cE_past rfl (v := 8) rfl dX2_push_8 ?_
  refine lv_iconst (v := 1) hx hb dX2_push_9 (by decide) ?_
  refine lv_isub hx hb dX2_push_10 ?_
  refine W.eq (g2 := F0 m 11 ls [.int (7), .ref (ad (432))]) rfl ?_
  refine sp_aald hx hb hK hP (κ := 432) (by decide) 2 cE_past rfl 7 rfl (by omega) (by decide) (q := ad (39 * pm 7)) rfl dX2_push_11 ?_
  refine lv_astore_n (lv' := [(2, .ref (ad (39 * pm 7))), (0, .ref (ad (431))), (1, .ref (ad (39 * b)))]) hx hb dX2_push_12 rfl hl (by decide) rfl (fun ls hl => ?_)
  refine lv_aload_n hx hb dX2_push_13 rfl (lv_at hl 1 rfl) ?_
  refine sp_get hx hb hts wi_X2_push_X2 hown hK hP (κ := 431) (by decide) cE_hist rfl 0 (by decide) (hts _ (List.mem_of_getElem? (i := 1) rfl)) (fun _ h => h) rfl dX2_push_14 ?_
  refine sp_alen hx hb hK hP (κ := 432) (by decide) 2 cE_past rfl (v := 8) rfl dX2_push_17 ?_
  refine lv_iconst (v := 1) hx hb dX2_push_18 (by decide) ?_
  refine lv_isub hx hb dX2_push_19 ?_
  refine W.eq (g2 := F0 m 20 ls [.int (7)]) rfl ?_
  refine lv_istore_n (lv' := [(3, .int (7)), (2, .ref (ad (39 * pm 7))), (0, .ref (ad (431))), (1, .ref (ad (39 * b)))]) hx hb dX2_push_20 rfl hl (by decide) rfl (fun ls hl => ?_)
  refine lv_iload_n hx hb dX2_push_21 rfl (lv_at hl 0 rfl) ?_
  refine lv_if_le (tgt := 45) hx hb dX2_push_22 (by decide) (fun c_1 => ?_) (fun c_1 => ?_)
  · exact absurd c_1 (by decide)
  · skip
    refine lv_aload_n hx hb dX2_push_25 rfl (lv_at hl 2 rfl) ?_
    refine sp_get hx hb hts wi_X2_push_X2 hown hK hP (κ := 431) (by decide) cE_hist rfl 0 (by decide) (hts _ (List.mem_of_getElem? (i := 1) rfl)) (fun _ h => h) rfl dX2_push_26 ?_
    refine lv_iload_n hx hb dX2_push_29 rfl (lv_at hl 0 rfl) ?_
    refine lv_aload_n hx hb dX2_push_30 rfl (lv_at hl 2 rfl) ?_
    refine sp_get hx hb hts wi_X2_push_X2 hown hK hP (κ := 431) (by decide) cE_hist rfl 0 (by decide) (hts _ (List.mem_of_getElem? (i := 1) rfl)) (fun _ h => h) rfl dX2_push_31 ?_
    refine lv_iload_n hx hb dX2_push_34 rfl (lv_at hl 0 rfl) ?_
    refine lv_iconst (v := 1) hx hb dX2_push_35 (by decide) ?_
    refine lv_isub hx hb dX2_push_36 ?_
    refine W.eq (g2 := F0 m 37 ls [.int (6), .ref (ad (432)), .int (7), .ref (ad (432))]) rfl ?_
    refine sp_aald hx hb hK hP (κ := 432) (by decide) 2 cE_past rfl 6 rfl (by omega) (by decide) (q := ad (39 * pm 6)) rfl dX2_push_37 ?_
    refine sp_past hx hb hK hP hi hAk hS (b := pm 6) 7 rfl (by omega) (by omega) dX2_push_38 (fun H locs hP hS => ?_)
    refine lv_iinc (v := 6) (lv' := [(3, .int (6)), (2, .ref (ad (39 * pm 7))), (0, .ref (ad (431))), (1, .ref (ad (39 * b)))]) hx hb dX2_push_39 hl (k := 0) rfl rfl (by decide) rfl (fun ls hl => ?_)
    refine lv_goto (tgt := 21) hx hb dX2_push_42 (by decide) ?_
    refine lv_iload_n hx hb dX2_push_21 rfl (lv_at hl 0 rfl) ?_
    refine lv_if_le (tgt := 45) hx hb dX2_push_22 (by decide) (fun c_2 => ?_) (fun c_2 => ?_)
    · exact absurd c_2 (by decide)
    · skip
      refine lv_aload_n hx hb dX2_push_25 rfl (lv_at hl 2 rfl) ?_
      refine sp_get hx hb hts wi_X2_push_X2 hown hK hP (κ := 431) (by decide) cE_hist rfl 0 (by decide) (hts _ (List.mem_of_getElem? (i := 1) rfl)) (fun _ h => h) rfl dX2_push_26 ?_
      refine lv_iload_n hx hb dX2_push_29 rfl (lv_at hl 0 rfl) ?_
      refine lv_aload_n hx hb dX2_push_30 rfl (lv_at hl 2 rfl) ?_
      refine sp_get hx hb hts wi_X2_push_X2 hown hK hP (κ := 431) (by decide) cE_hist rfl 0 (by decide) (hts _ (List.mem_of_getElem? (i := 1) rfl)) (fun _ h => h) rfl dX2_push_31 ?_
      refine lv_iload_n hx hb dX2_push_34 rfl (lv_at hl 0 rfl) ?_
      refine lv_iconst (v := 1) hx hb dX2_push_35 (by decide) ?_
      refine lv_isub hx hb dX2_push_36 ?_
      refine W.eq (g2 := F0 m 37 ls [.int (5), .ref (ad (432)), .int (6), .ref (ad (432))]) rfl ?_
      refine sp_aald hx hb hK hP (κ := 432) (by decide) 2 cE_past rfl 5 rfl (by omega) (by decide) (q := ad (39 * pm 5)) rfl dX2_push_37 ?_
      refine sp_past hx hb hK hP hi hAk hS (b := pm 5) 6 rfl (by omega) (by omega) dX2_push_38 (fun H locs hP hS => ?_)
      refine lv_iinc (v := 5) (lv' := [(3, .int (5)), (2, .ref (ad (39 * pm 7))), (0, .ref (ad (431))), (1, .ref (ad (39 * b)))]) hx hb dX2_push_39 hl (k := 0) rfl rfl (by decide) rfl (fun ls hl => ?_)
      refine lv_goto (tgt := 21) hx hb dX2_push_42 (by decide) ?_
      refine lv_iload_n hx hb dX2_push_21 rfl (lv_at hl 0 rfl) ?_
      refine lv_if_le (tgt := 45) hx hb dX2_push_22 (by decide) (fun c_3 => ?_) (fun c_3 => ?_)
      · exact absurd c_3 (by decide)
      · skip
        refine lv_aload_n hx hb dX2_push_25 rfl (lv_at hl 2 rfl) ?_
        refine sp_get hx hb hts wi_X2_push_X2 hown hK hP (κ := 431) (by decide) cE_hist rfl 0 (by decide) (hts _ (List.mem_of_getElem? (i := 1) rfl)) (fun _ h => h) rfl dX2_push_26 ?_
        refine lv_iload_n hx hb dX2_push_29 rfl (lv_at hl 0 rfl) ?_
        refine lv_aload_n hx hb dX2_push_30 rfl (lv_at hl 2 rfl) ?_
        refine sp_get hx hb hts wi_X2_push_X2 hown hK hP (κ := 431) (by decide) cE_hist rfl 0 (by decide) (hts _ (List.mem_of_getElem? (i := 1) rfl)) (fun _ h => h) rfl dX2_push_31 ?_
        refine lv_iload_n hx hb dX2_push_34 rfl (lv_at hl 0 rfl) ?_
        refine lv_iconst (v := 1) hx hb dX2_push_35 (by decide) ?_
        refine lv_isub hx hb dX2_push_36 ?_
        refine W.eq (g2 := F0 m 37 ls [.int (4), .ref (ad (432)), .int (5), .ref (ad (432))]) rfl ?_
        refine sp_aald hx hb hK hP (κ := 432) (by decide) 2 cE_past rfl 4 rfl (by omega) (by decide) (q := ad (39 * pm 4)) rfl dX2_push_37 ?_
        refine sp_past hx hb hK hP hi hAk hS (b := pm 4) 5 rfl (by omega) (by omega) dX2_push_38 (fun H locs hP hS => ?_)
        refine lv_iinc (v := 4) (lv' := [(3, .int (4)), (2, .ref (ad (39 * pm 7))), (0, .ref (ad (431))), (1, .ref (ad (39 * b)))]) hx hb dX2_push_39 hl (k := 0) rfl rfl (by decide) rfl (fun ls hl => ?_)
        refine lv_goto (tgt := 21) hx hb dX2_push_42 (by decide) ?_
        refine lv_iload_n hx hb dX2_push_21 rfl (lv_at hl 0 rfl) ?_
        refine lv_if_le (tgt := 45) hx hb dX2_push_22 (by decide) (fun c_4 => ?_) (fun c_4 => ?_)
        · exact absurd c_4 (by decide)
        · skip
          refine lv_aload_n hx hb dX2_push_25 rfl (lv_at hl 2 rfl) ?_
          refine sp_get hx hb hts wi_X2_push_X2 hown hK hP (κ := 431) (by decide) cE_hist rfl 0 (by decide) (hts _ (List.mem_of_getElem? (i := 1) rfl)) (fun _ h => h) rfl dX2_push_26 ?_
          refine lv_iload_n hx hb dX2_push_29 rfl (lv_at hl 0 rfl) ?_
          refine lv_aload_n hx hb dX2_push_30 rfl (lv_at hl 2 rfl) ?_
          refine sp_get hx hb hts wi_X2_push_X2 hown hK hP (κ := 431) (by decide) cE_hist rfl 0 (by decide) (hts _ (List.mem_of_getElem? (i := 1) rfl)) (fun _ h => h) rfl dX2_push_31 ?_
          refine lv_iload_n hx hb dX2_push_34 rfl (lv_at hl 0 rfl) ?_
          refine lv_iconst (v := 1) hx hb dX2_push_35 (by decide) ?_
          refine lv_isub hx hb dX2_push_36 ?_
          refine W.eq (g2 := F0 m 37 ls [.int (3), .ref (ad (432)), .int (4), .ref (ad (432))]) rfl ?_
          refine sp_aald hx hb hK hP (κ := 432) (by decide) 2 cE_past rfl 3 rfl (by omega) (by decide) (q := ad (39 * pm 3)) rfl dX2_push_37 ?_
          refine sp_past hx hb hK hP hi hAk hS (b := pm 3) 4 rfl (by omega) (by omega) dX2_push_38 (fun H locs hP hS => ?_)
          refine lv_iinc (v := 3) (lv' := [(3, .int (3)), (2, .ref (ad (39 * pm 7))), (0, .ref (ad (431))), (1, .ref (ad (39 * b)))]) hx hb dX2_push_39 hl (k := 0) rfl rfl (by decide) rfl (fun ls hl => ?_)
          refine lv_goto (tgt := 21) hx hb dX2_push_42 (by decide) ?_
          refine lv_iload_n hx hb dX2_push_21 rfl (lv_at hl 0 rfl) ?_
          refine lv_if_le (tgt := 45) hx hb dX2_push_22 (by decide) (fun c_5 => ?_) (fun c_5 => ?_)
          · exact absurd c_5 (by decide)
          · skip
            refine lv_aload_n hx hb dX2_push_25 rfl (lv_at hl 2 rfl) ?_
            refine sp_get hx hb hts wi_X2_push_X2 hown hK hP (κ := 431) (by decide) cE_hist rfl 0 (by decide) (hts _ (List.mem_of_getElem? (i := 1) rfl)) (fun _ h => h) rfl dX2_push_26 ?_
            refine lv_iload_n hx hb dX2_push_29 rfl (lv_at hl 0 rfl) ?_
            refine lv_aload_n hx hb dX2_push_30 rfl (lv_at hl 2 rfl) ?_
            refine sp_get hx hb hts wi_X2_push_X2 hown hK hP (κ := 431) (by decide) cE_hist rfl 0 (by decide) (hts _ (List.mem_of_getElem? (i := 1) rfl)) (fun _ h => h) rfl dX2_push_31 ?_
            refine lv_iload_n hx hb dX2_push_34 rfl (lv_at hl 0 rfl) ?_
            refine lv_iconst (v := 1) hx hb dX2_push_35 (by decide) ?_
            refine lv_isub hx hb dX2_push_36 ?_
            refine W.eq (g2 := F0 m 37 ls [.int (2), .ref (ad (432)), .int (3), .ref (ad (432))]) rfl ?_
            refine sp_aald hx hb hK hP (κ := 432) (by decide) 2 cE_past rfl 2 rfl (by omega) (by decide) (q := ad (39 * pm 2)) rfl dX2_push_37 ?_
            refine sp_past hx hb hK hP hi hAk hS (b := pm 2) 3 rfl (by omega) (by omega) dX2_push_38 (fun H locs hP hS => ?_)
            refine lv_iinc (v := 2) (lv' := [(3, .int (2)), (2, .ref (ad (39 * pm 7))), (0, .ref (ad (431))), (1, .ref (ad (39 * b)))]) hx hb dX2_push_39 hl (k := 0) rfl rfl (by decide) rfl (fun ls hl => ?_)
            refine lv_goto (tgt := 21) hx hb dX2_push_42 (by decide) ?_
            refine lv_iload_n hx hb dX2_push_21 rfl (lv_at hl 0 rfl) ?_
            refine lv_if_le (tgt := 45) hx hb dX2_push_22 (by decide) (fun c_6 => ?_) (fun c_6 => ?_)
            · exact absurd c_6 (by decide)
            · skip
              refine lv_aload_n hx hb dX2_push_25 rfl (lv_at hl 2 rfl) ?_
              refine sp_get hx hb hts wi_X2_push_X2 hown hK hP (κ := 431) (by decide) cE_hist rfl 0 (by decide) (hts _ (List.mem_of_getElem? (i := 1) rfl)) (fun _ h => h) rfl dX2_push_26 ?_
              refine lv_iload_n hx hb dX2_push_29 rfl (lv_at hl 0 rfl) ?_
              refine lv_aload_n hx hb dX2_push_30 rfl (lv_at hl 2 rfl) ?_
              refine sp_get hx hb hts wi_X2_push_X2 hown hK hP (κ := 431) (by decide) cE_hist rfl 0 (by decide) (hts _ (List.mem_of_getElem? (i := 1) rfl)) (fun _ h => h) rfl dX2_push_31 ?_
              refine lv_iload_n hx hb dX2_push_34 rfl (lv_at hl 0 rfl) ?_
              refine lv_iconst (v := 1) hx hb dX2_push_35 (by decide) ?_
              refine lv_isub hx hb dX2_push_36 ?_
              refine W.eq (g2 := F0 m 37 ls [.int (1), .ref (ad (432)), .int (2), .ref (ad (432))]) rfl ?_
              refine sp_aald hx hb hK hP (κ := 432) (by decide) 2 cE_past rfl 1 rfl (by omega) (by decide) (q := ad (39 * pm 1)) rfl dX2_push_37 ?_
              refine sp_past hx hb hK hP hi hAk hS (b := pm 1) 2 rfl (by omega) (by omega) dX2_push_38 (fun H locs hP hS => ?_)
              refine lv_iinc (v := 1) (lv' := [(3, .int (1)), (2, .ref (ad (39 * pm 7))), (0, .ref (ad (431))), (1, .ref (ad (39 * b)))]) hx hb dX2_push_39 hl (k := 0) rfl rfl (by decide) rfl (fun ls hl => ?_)
              refine lv_goto (tgt := 21) hx hb dX2_push_42 (by decide) ?_
              refine lv_iload_n hx hb dX2_push_21 rfl (lv_at hl 0 rfl) ?_
              refine lv_if_le (tgt := 45) hx hb dX2_push_22 (by decide) (fun c_7 => ?_) (fun c_7 => ?_)
              · exact absurd c_7 (by decide)
              · skip
                refine lv_aload_n hx hb dX2_push_25 rfl (lv_at hl 2 rfl) ?_
                refine sp_get hx hb hts wi_X2_push_X2 hown hK hP (κ := 431) (by decide) cE_hist rfl 0 (by decide) (hts _ (List.mem_of_getElem? (i := 1) rfl)) (fun _ h => h) rfl dX2_push_26 ?_
                refine lv_iload_n hx hb dX2_push_29 rfl (lv_at hl 0 rfl) ?_
                refine lv_aload_n hx hb dX2_push_30 rfl (lv_at hl 2 rfl) ?_
                refine sp_get hx hb hts wi_X2_push_X2 hown hK hP (κ := 431) (by decide) cE_hist rfl 0 (by decide) (hts _ (List.mem_of_getElem? (i := 1) rfl)) (fun _ h => h) rfl dX2_push_31 ?_
                refine lv_iload_n hx hb dX2_push_34 rfl (lv_at hl 0 rfl) ?_
                refine lv_iconst (v := 1) hx hb dX2_push_35 (by decide) ?_
                refine lv_isub hx hb dX2_push_36 ?_
                refine W.eq (g2 := F0 m 37 ls [.int (0), .ref (ad (432)), .int (1), .ref (ad (432))]) rfl ?_
                refine sp_aald hx hb hK hP (κ := 432) (by decide) 2 cE_past rfl 0 rfl (by omega) (by decide) (q := ad (39 * pm 0)) rfl dX2_push_37 ?_
                refine sp_past hx hb hK hP hi hAk hS (b := pm 0) 1 rfl (by omega) (by omega) dX2_push_38 (fun H locs hP hS => ?_)
                refine lv_iinc (v := 0) (lv' := [(3, .int (0)), (2, .ref (ad (39 * pm 7))), (0, .ref (ad (431))), (1, .ref (ad (39 * b)))]) hx hb dX2_push_39 hl (k := 0) rfl rfl (by decide) rfl (fun ls hl => ?_)
                refine lv_goto (tgt := 21) hx hb dX2_push_42 (by decide) ?_
                refine lv_iload_n hx hb dX2_push_21 rfl (lv_at hl 0 rfl) ?_
                refine lv_if_le (tgt := 45) hx hb dX2_push_22 (by decide) (fun c_8 => ?_) (fun c_8 => ?_)
                · skip
                  refine lv_aload_n hx hb dX2_push_45 rfl (lv_at hl 2 rfl) ?_
                  refine sp_get hx hb hts wi_X2_push_X2 hown hK hP (κ := 431) (by decide) cE_hist rfl 0 (by decide) (hts _ (List.mem_of_getElem? (i := 1) rfl)) (fun _ h => h) rfl dX2_push_46 ?_
                  refine lv_iconst (v := 0) hx hb dX2_push_49 (by decide) ?_
                  refine lv_aload_n hx hb dX2_push_50 rfl (lv_at hl 1 rfl) ?_
                  refine sp_past hx hb hK hP hi hAk hS (b := pm 7) 0 rfl (by omega) (by omega) dX2_push_51 (fun H locs hP hS => ?_)
                  refine lv_aload_n hx hb dX2_push_52 rfl (lv_at hl 1 rfl) ?_
                  refine lv_aload_n hx hb dX2_push_53 rfl (lv_at hl 3 rfl) ?_
                  refine sp_callm (va_runV (As := [.ref (ad (39 * b))]) (rest := []) ⟨hx, hb, hml, hown, hts⟩ (c_X0_copyFrom l D ad cy (pmu (pmu (pmu (pmu (pmu (pmu (pmu (pmu pm 7 (pm 6)) 6 (pm 5)) 5 (pm 4)) 4 (pm 3)) 3 (pm 2)) 2 (pm 1)) 1 (pm 0)) 0 (pm 7)) rj σ _ hi (pm 7) (by omega) b (by omega) (by omega)) (cwV 1 hts gX2_push_X0_copyFrom rfl rfl rfl (by decide +kernel) ⟨Nat.le_of_ble_eq_true rfl, Nat.le_of_ble_eq_true rfl⟩) (sp_preVm hK hP (κ := 39 * pm 7) (by omega) (cE_beach (by omega) (by omega)) rfl) rfl rfl hl.1 rfl (lv_room (Nat.le_of_ble_eq_true rfl)) dX2_push_54 ⟨Nat.le_of_ble_eq_true rfl, Nat.le_of_ble_eq_true rfl⟩) hS (fun q h1 h2 => sp_Alt h1 h2) (sp_Ale hS.1) (fun H locs hP hle hfr hS => ?_)
                  refine W.eq (g2 := F0 m 57 ls []) rfl ?_
                  refine lv_aload_n hx hb dX2_push_57 rfl (lv_at hl 2 rfl) ?_
                  refine lv_aload_n hx hb dX2_push_58 rfl (lv_at hl 2 rfl) ?_
                  refine sp_get hx hb hts wi_X2_push_X2 hown hK hP (κ := 431) (by decide) cE_hist rfl 1 (by decide) (hts _ (List.mem_of_getElem? (i := 2) rfl)) (fun _ h => h) rfl dX2_push_59 ?_
                  refine W.eq (g2 := F0 m 62 ls [.int (σ 431 1), .ref (ad (431))]) (by rw [f_copyB_out _ _ _ _ (by omega)]) ?_
                  refine lv_iconst (v := 1) hx hb dX2_push_62 (by decide) ?_
                  refine lv_iadd hx hb dX2_push_63 ?_
                  refine lv_aload_n hx hb dX2_push_64 rfl (lv_at hl 2 rfl) ?_
                  refine sp_get hx hb hts wi_X2_push_X2 hown hK hP (κ := 431) (by decide) cE_hist rfl 0 (by decide) (hts _ (List.mem_of_getElem? (i := 1) rfl)) (fun _ h => h) rfl dX2_push_65 ?_
                  refine sp_alen hx hb hK hP (κ := 432) (by decide) 2 cE_past rfl (v := 8) rfl dX2_push_68 ?_
                  refine va_mmin hx hb (by rw [hml]; exact hl.1.symm) hown (hts _ (List.mem_of_getElem? (i := 3) rfl)) (hts _ (List.mem_of_getElem? (i := 4) rfl)) (hts _ (List.mem_of_getElem? (i := 5) rfl)) (hts _ (List.mem_of_getElem? (i := 6) rfl)) (Nat.le_of_ble_eq_true rfl) (Nat.le_of_ble_eq_true rfl) (Nat.le_of_ble_eq_true rfl) (Nat.le_of_ble_eq_true rfl) dX2_push_69 ?_
                  refine W.eq (g2 := F0 m 72 ls [.int (imin ((σ 431 1) + 1) 8), .ref (ad (431))]) rfl ?_
                  refine sp_put hx hb hts wi_X2_push_X2 tyX2 tyX2_ok nmX2 hown hK hP hi hAk hS (κ := 431) (by decide) cE_hist rfl 1 (by decide) (hts _ (List.mem_of_getElem? (i := 2) rfl)) (fun _ h => h) rfl (ty := tyX2 1) (by decide +kernel) ⟨rfl, rfl⟩ (Nat.le_of_ble_eq_true rfl) (r1 := upd ((f_copyB σ (pm 7) b) 431) 1 (imin ((σ 431 1) + 1) 8)) (cE_of cE_hist (by simp [upd])) dX2_push_72 (fun H locs hP hS => ?_)
                  have hP : va_P D vwCl (cW ad cy (pmu (pmu (pmu (pmu (pmu (pmu (pmu (pmu pm 7 (pm 6)) 6 (pm 5)) 5 (pm 4)) 4 (pm 3)) 3 (pm 2)) 2 (pm 1)) 1 (pm 0)) 0 (pm 7)) rj (sp_st (f_copyB σ (pm 7) b) 431 1 (imin ((σ 431 1) + 1) 8))) H := hP
                  have hE9 : cW ad cy (pmu (pmu (pmu (pmu (pmu (pmu (pmu (pmu pm 7 (pm 6)) 6 (pm 5)) 5 (pm 4)) 4 (pm 3)) 3 (pm 2)) 2 (pm 1)) 1 (pm 0)) 0 (pm 7)) (rj) (sp_st (f_copyB σ (pm 7) b) 431 1 (imin ((σ 431 1) + 1) 8)) = cW ad cy (pm_push pm) (rj) (sp_st (f_copyB σ (pm 7) b) 431 1 (imin (σ 431 1 + 1) 8)) := by exact cW_eq (pm_push_eq pm) rfl
                  have hP : va_P D vwCl (cW ad cy (pm_push pm) (rj) (sp_st (f_copyB σ (pm 7) b) 431 1 (imin (σ 431 1 + 1) 8))) H := by rw [← hE9]; exact hP
                  exact W.vret hx hb hr (fun T9 hT9 _ => ⟨rfl, by rw [hT9]; exact hP, hS.F hT9⟩) hS.2.2 dX2_push_75
                · exact absurd (by decide) c_8
