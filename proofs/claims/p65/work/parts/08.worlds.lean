/-! THE CLASS'S CELLS BY NUMBER. Beach b (b < 11: 0 the present one, 1 to 8 history, 9 beforeCommands, 10 snapshot): 39 b the beach, + 1 its row of tracks, + 2 its row of prints, + 3 + i track i, + 9 + i print i.
429 SandProofreader, 430 Proof, 431 History, 432 its row, 433 Script, 434 input, 435 its signs, 436 output, 437 its signs, 438 the row of commands, 439 + i command i. K = 459. -/
abbrev bF (ad : Nat → Nat) (k : Nat) (r : Nat → Int32) : List Value := [.ref (ad (k + 1)), .ref (ad (k + 2)), .int (r 2), .int (r 3), .int (r 4), .int (r 5), .int (r 6)]
abbrev tF (r : Nat → Int32) : List Value := [.int (bz (r 0)), .int (r 1), .int (r 2)]
abbrev pF (r : Nat → Int32) : List Value := [.int (bz (r 0)), .int (r 1), .int (r 2), .int (r 3), .int (r 4), .int (r 5), .int (bz (r 6)), .int (r 7), .int (r 8), .int (bz (r 9))]
abbrev oF (ad : Nat → Nat) (rj : Option Nat) (r : Nat → Int32) : List Value := [.ref (ad 0), .ref (ad 430), .ref (ad 431), .ref (ad 351), .ref (ad 390), .int (bz (r 5)), .ref (ad 433), .ref (ad 436), va_rf rj, .int (r 9)]
abbrev hF (ad : Nat → Nat) (r : Nat → Int32) : List Value := [.ref (ad 432), .int (r 1)]
abbrev sF (ad : Nat → Nat) (r : Nat → Int32) : List Value := [.ref (ad 434), .ref (ad 438), .int (r 2), .int (r 3), .int (bz (r 4))]
abbrev xF (q : Nat) (r : Nat → Int32) : List Value := [.ref q, .int (r 1)]
abbrev kF (r : Nat → Int32) : List Value := [.int (cz (r 0)), .int (r 1), .int (r 2), .int (r 3), .int (r 4), .int (bz (r 5)), .int (r 6)]
abbrev rA (cA : ClassId) (n : Nat) (f : Nat → Option Nat) : va_E := .inl (cA, n, .inr (.inr (.inr (.inr f))))
def cE (ad : Nat → Nat) (cy : Nat → ClassId) (pm : Nat → Nat) (rj : Option Nat) (k : Nat) (r : Nat → Int32) : va_E :=
  if k < 429 then
    if k % 39 = 0 then .inr (3, bF ad k r)
    else if k % 39 = 1 then rA (cy 5) 6 (fun j => some (ad (k + 2 + j)))
    else if k % 39 = 2 then rA (cy 4) 30 (fun j => some (ad (k + 7 + j)))
    else if k % 39 < 9 then .inr (11, tF r)
    else .inr (6, pF r)
  else if k = 429 then .inr (12, oF ad rj r)
  else if k = 430 then .inr (7, [.ref (ad 0)])
  else if k = 431 then .inr (5, hF ad r)
  else if k = 432 then rA (cy 2) 8 (fun j => some (ad (39 * pm j)))
  else if k = 433 then .inr (9, sF ad r)
  else if k = 434 then .inr (10, xF (ad 435) r)
  else if k = 435 then .inl (cy 0, 60, .inl (fun j => cz (r j)))
  else if k = 436 then .inr (10, xF (ad 437) r)
  else if k = 437 then .inl (cy 0, 90, .inl (fun j => cz (r j)))
  else if k = 438 then rA (cy 3) 20 (fun j => some (ad (439 + j)))
  else .inr (4, kF r)
abbrev cW (ad : Nat → Nat) (cy : Nat → ClassId) (pm : Nat → Nat) (rj : Option Nat) (σ : Nat → Nat → Int32) : va_W := sp_W (cE ad cy pm rj) ad 459 σ
abbrev tyG (cy : Nat → ClassId) : List (ClassId × FieldType) := [(cy 0, .char), (cy 1, .byte), (cy 2, .object "SandProofreader$Beach"), (cy 3, .object "SandProofreader$Command"), (cy 4, .object "SandProofreader$Print"), (cy 5, .object "SandProofreader$Track")]
section CEL
variable {ad : Nat → Nat} {cy : Nat → ClassId} {pm : Nat → Nat} {rj : Option Nat} {k : Nat} {r : Nat → Int32}
theorem cE_beach (h1 : k < 429) (h2 : k % 39 = 0) : cE ad cy pm rj k r = .inr (3, bF ad k r) := by unfold cE; rw [if_pos h1, if_pos h2]
theorem cE_tracks (h1 : k < 429) (h2 : k % 39 = 1) : cE ad cy pm rj k r = rA (cy 5) 6 (fun j => some (ad (k + 2 + j))) := by unfold cE; rw [if_pos h1, if_neg (by omega), if_pos h2]
theorem cE_prints (h1 : k < 429) (h2 : k % 39 = 2) : cE ad cy pm rj k r = rA (cy 4) 30 (fun j => some (ad (k + 7 + j))) := by unfold cE; rw [if_pos h1, if_neg (by omega), if_neg (by omega), if_pos h2]
theorem cE_track (h1 : k < 429) (h2 : 3 ≤ k % 39 ∧ k % 39 < 9) : cE ad cy pm rj k r = .inr (11, tF r) := by unfold cE; rw [if_pos h1, if_neg (by omega), if_neg (by omega), if_neg (by omega), if_pos h2.2]
theorem cE_print (h1 : k < 429) (h2 : 9 ≤ k % 39) : cE ad cy pm rj k r = .inr (6, pF r) := by unfold cE; rw [if_pos h1, if_neg (by omega), if_neg (by omega), if_neg (by omega), if_neg (by omega)]
theorem cE_sp : cE ad cy pm rj 429 r = .inr (12, oF ad rj r) := rfl
theorem cE_proof : cE ad cy pm rj 430 r = .inr (7, [.ref (ad 0)]) := rfl
theorem cE_hist : cE ad cy pm rj 431 r = .inr (5, hF ad r) := rfl
theorem cE_past : cE ad cy pm rj 432 r = rA (cy 2) 8 (fun j => some (ad (39 * pm j))) := rfl
theorem cE_script : cE ad cy pm rj 433 r = .inr (9, sF ad r) := rfl
theorem cE_in : cE ad cy pm rj 434 r = .inr (10, xF (ad 435) r) := rfl
theorem cE_inc : cE ad cy pm rj 435 r = .inl (cy 0, 60, .inl (fun j => cz (r j))) := rfl
theorem cE_out : cE ad cy pm rj 436 r = .inr (10, xF (ad 437) r) := rfl
theorem cE_outc : cE ad cy pm rj 437 r = .inl (cy 0, 90, .inl (fun j => cz (r j))) := rfl
theorem cE_cmds : cE ad cy pm rj 438 r = rA (cy 3) 20 (fun j => some (ad (439 + j))) := rfl
theorem cE_cmd (h : 439 ≤ k) : cE ad cy pm rj k r = .inr (4, kF r) := by
  unfold cE
  rw [if_neg (by omega), if_neg (by omega), if_neg (by omega), if_neg (by omega), if_neg (by omega), if_neg (by omega), if_neg (by omega), if_neg (by omega), if_neg (by omega), if_neg (by omega), if_neg (by omega)]
theorem cE_of {e : va_E} {n : Nat} {L L2 : List Value} (h : e = .inr (n, L)) (h2 : L = L2) : e = .inr (n, L2) := by rw [h, h2]
end CEL
/-! THE MODEL'S CELLS BY NUMBER: 0 the object, 1 all, 2 output, 3 input, 4 commands. K = 5. -/
theorem cz_nar (x : Int32) : vp_nar .char x = cz x := by rw [vp_nar_char]; unfold cz; simp
theorem cz_upd (r : Nat → Int32) (j : Nat) (x : Int32) : (fun i => cz (upd r j x i)) = upd (fun i => cz (r i)) j (vp_nar .char x) := by
  rw [cz_nar]
  funext i
  unfold upd
  by_cases h : i = j <;> simp [h]
section MEL
variable {am : Nat → Nat} {cy : Nat → ClassId} {r : Nat → Int32}
end MEL
/-! sums, folds and first places -/
def foldI {α : Type} (f : α → Nat → α) (a : α) : Nat → α
  | 0 => a
  | n + 1 => f (foldI f a n) n
theorem foldI_succ {α : Type} (f : α → Nat → α) (a : α) (n : Nat) : foldI f a (n + 1) = f (foldI f a n) n := rfl
def sumI (f : Nat → Int32) : Nat → Int32
  | 0 => 0
  | n + 1 => sumI f n + f n
theorem sumI_succ (f : Nat → Int32) (n : Nat) : sumI f (n + 1) = sumI f n + f n := rfl
/-- the first place below n where p holds -/
def fstI (p : Nat → Bool) : Nat → Option Nat
  | 0 => none
  | n + 1 => match fstI p n with
    | some j => some j
    | none => if p n then some n else none
theorem fstI_none {p : Nat → Bool} : ∀ {n : Nat}, fstI p n = none ↔ ∀ j, j < n → p j = false
  | 0 => by simp [fstI]
  | n + 1 => by
    have ih := fstI_none (p := p) (n := n)
    unfold fstI
    cases h : fstI p n with
    | some j =>
      simp only [h, reduceCtorEq, false_iff] at ih ⊢
      intro h2
      exact ih (fun j hj => h2 j (Nat.lt_succ_of_lt hj))
    | none =>
      have h1 := ih.mp h
      by_cases hn : p n = true
      · simp only [hn, if_true, reduceCtorEq, false_iff]
        intro h2
        rw [h2 n (Nat.lt_succ_self n)] at hn
        cases hn
      · have hn' : p n = false := by simpa using hn
        simp only [hn', Bool.false_eq_true, if_false, true_iff]
        intro j hj
        rcases Nat.lt_succ_iff_lt_or_eq.mp hj with q | q
        · exact h1 j q
        · subst q; exact hn'
theorem fstI_succ_no {p : Nat → Bool} {n : Nat} (h : fstI p n = none) (hp : p n = false) : fstI p (n + 1) = none := by
  unfold fstI; rw [h]; simp [hp]
theorem fstI_mono {p : Nat → Bool} {n j : Nat} (h : fstI p n = some j) : ∀ m, fstI p (n + m) = some j
  | 0 => h
  | m + 1 => by
    have ih := fstI_mono h m
    show fstI p ((n + m) + 1) = some j
    unfold fstI; rw [ih]
theorem fstI_hit {p : Nat → Bool} {i n : Nat} (h : fstI p i = none) (hp : p i = true) (hi : i < n) : fstI p n = some i := by
  have h1 : fstI p (i + 1) = some i := by unfold fstI; rw [h]; simp [hp]
  have := fstI_mono h1 (n - (i + 1))
  rwa [show i + 1 + (n - (i + 1)) = n by omega] at this
theorem fstI_some {p : Nat → Bool} : ∀ {n i : Nat}, fstI p n = some i → i < n ∧ p i = true ∧ ∀ j, j < i → p j = false
  | 0, i, h => by simp [fstI] at h
  | n + 1, i, h => by
    unfold fstI at h
    cases hn : fstI p n with
    | some j =>
      rw [hn] at h
      cases h
      obtain ⟨h1, h2, h3⟩ := fstI_some hn
      exact ⟨Nat.lt_succ_of_lt h1, h2, h3⟩
    | none =>
      rw [hn] at h
      by_cases hp : p n = true
      · simp only [hp, if_true] at h
        cases h
        exact ⟨Nat.lt_succ_self n, hp, fun j hj => fstI_none.mp hn j hj⟩
      · simp [hp] at h
