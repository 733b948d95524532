/-! writes: worlds that hold the same; whole rows copied; the row of past beaches; the latest rejection -/
theorem sp_W_congr {E : Nat → (Nat → Int32) → va_E} {ad : Nat → Nat} {K : Nat} {σ σ2 : Nat → Nat → Int32} (h : ∀ k, k < K → E k (σ k) = E k (σ2 k)) : sp_W E ad K σ = sp_W E ad K σ2 := by
  unfold sp_W
  apply List.map_congr_left
  intro k hk
  rw [h k (List.mem_range.mp hk)]
theorem sp_up_same (σ : Nat → Nat → Int32) (k : Nat) (r : Nat → Int32) : sp_up σ k r k = r := by simp [sp_up]
theorem sp_up_ne (σ : Nat → Nat → Int32) {k k2 : Nat} (r : Nat → Int32) (h : k2 ≠ k) : sp_up σ k r k2 = σ k2 := by simp [sp_up, h]
theorem sp_st_j (σ : Nat → Nat → Int32) (k j : Nat) (v : Int32) (k2 j2 : Nat) (h : j2 ≠ j) : sp_st σ k j v k2 j2 = σ k2 j2 := by rw [sp_st_at, if_neg (fun z => h z.2)]
theorem sp_st_k (σ : Nat → Nat → Int32) (k j : Nat) (v : Int32) (k2 j2 : Nat) (h : k2 ≠ k) : sp_st σ k j v k2 j2 = σ k2 j2 := by rw [sp_st_at, if_neg (fun z => h z.1)]
theorem sp_st_s (σ : Nat → Nat → Int32) (k j : Nat) (v : Int32) : sp_st σ k j v k j = v := by rw [sp_st_at, if_pos ⟨rfl, rfl⟩]
theorem sp_st_up (σ : Nat → Nat → Int32) (k j : Nat) (v : Int32) : sp_st σ k j v = sp_up σ k (upd (σ k) j v) := rfl
theorem sp_up_up (σ : Nat → Nat → Int32) (k : Nat) (r r2 : Nat → Int32) : sp_up (sp_up σ k r) k r2 = sp_up σ k r2 := by
  funext x; unfold sp_up; by_cases h : x = k <;> simp [h]
theorem sp_W_row {E : Nat → (Nat → Int32) → va_E} {ad : Nat → Nat} {K : Nat} {σ : Nat → Nat → Int32} {κ : Nat} {r r2 : Nat → Int32} (h : E κ r = E κ r2) : sp_W E ad K (sp_up σ κ r) = sp_W E ad K (sp_up σ κ r2) := sp_W_congr fun k _ => by
  by_cases hk : k = κ
  · subst hk; rw [sp_up_same, sp_up_same, h]
  · rw [sp_up_ne _ _ hk, sp_up_ne _ _ hk]
def pmu (pm : Nat → Nat) (j b : Nat) : Nat → Nat := fun x => if x = j then b else pm x
theorem cE_pm {ad : Nat → Nat} {cy : Nat → ClassId} {pm pm2 : Nat → Nat} {rj : Option Nat} {k : Nat} {r : Nat → Int32} (h : k ≠ 432) : cE ad cy pm rj k r = cE ad cy pm2 rj k r := by
  unfold cE; simp [h]
theorem cE_rj {ad : Nat → Nat} {cy : Nat → ClassId} {pm : Nat → Nat} {rj rj2 : Option Nat} {k : Nat} {r : Nat → Int32} (h : k ≠ 429) : cE ad cy pm rj k r = cE ad cy pm rj2 k r := by
  unfold cE; simp [h]
section SPX
variable {p : Program} {l : Launch} {e : Env} {R : Room} {s : State} {m : MethodId} {args : Array Value} {below : List Frame} {meth : Method} {c : Code} {H : Heap} {locs : List Loc} {cells slots : Nat} {Q : State → Prop}
variable {cc : ByteArray} {pc : Nat} {ls : Array Slot} {rest : List Value} {D : va_G} {A : Nat → Prop} {H0 : Heap}
variable {ad : Nat → Nat} {cy : Nat → ClassId} {pm : Nat → Nat} {rj : Option Nat} {σ : Nat → Nat → Int32}
theorem sp_past (hexec : p.tables.exec = Jvm.exec) (hb : c.code = cc) (hK : va_K D vwCl (tyG cy) s) (hP : va_P D vwCl (cW ad cy pm rj σ) H) (hinj : sp_inj ad 459) (hAk : ∀ k, k < 459 → A (ad k)) (hS : va_S A H0 H locs) {i : Int32} {b : Nat} (j : Nat) (hi : i = nI j) (hj : j < 8) (hb2 : b < 11) (hdg : decode cc pc = .ok (.aastore, 1))
    (kk : ∀ (H1 : Heap) (locs1 : List Loc), va_P D vwCl (cW ad cy (pmu pm j b) rj σ) H1 → va_S A H0 H1 locs1 → W p l e R s m args below meth c H1 locs1 cells slots Q (F0 m (pc + 1) ls rest)) : W p l e R s m args below meth c H locs cells slots Q (F0 m pc ls (.ref (ad (39 * b)) :: .int i :: .ref (ad 432) :: rest)) := by
  subst hi
  refine va_astq (r := (RX0, TX0, 7)) (f := fun x => some (ad (39 * pm x))) (n := 8) (cA := cy 2) hexec hb hK hP (sp_D hinj hAk) hS 432 2 (39 * b) 3 (vs := bF ad (39 * b) (σ (39 * b))) (by rw [sp_W_at (by decide), cE_past]) rfl (by rw [sp_W_at (by omega), cE_beach (by omega) (by omega)]) rfl (vp_in_nI hj (by decide)) hdg fun H1 locs1 hP1 _ hS1 => ?_
  rw [nI_clamp (by omega)] at hP1
  have he : (sp_W (cE ad cy pm rj) ad 459 σ).set 432 (ad 432, rA (cy 2) 8 (va_up (fun x => some (ad (39 * pm x))) j (some (ad (39 * b))))) = cW ad cy (pmu pm j b) rj σ := by
    refine sp_W_setE (by decide) ?_ (fun k _ hk => (cE_pm hk))
    rw [cE_past]
    congr 1
    congr 1
    congr 1
    congr 1
    congr 1
    congr 1
    funext x
    unfold pmu va_up
    by_cases hx : x = j <;> simp [hx]
  rw [he] at hP1
  exact kk H1 locs1 hP1 hS1
end SPX
