/-! AT THE START -/
theorem be_0 : BE o0 (n0 1) 1 := by
  refine ⟨0, 0, fun _ => 0, fun _ => 0, ⟨rfl, by decide, rfl, by decide⟩, ⟨fun k h => absurd h (Nat.not_lt_zero k), fun j k h => absurd h (Nat.not_lt_zero j), fun i hi h => ?_, fun k h => absurd h (Nat.not_lt_zero k), fun k h => absurd h (Nat.not_lt_zero k)⟩, ⟨fun k h => absurd h (Nat.not_lt_zero k), fun j k h => absurd h (Nat.not_lt_zero j), fun i hi h => ?_, fun k h => absurd h (Nat.not_lt_zero k), fun k h => absurd h (Nat.not_lt_zero k)⟩, ⟨rfl, rfl, rfl, rfl, rfl⟩, ?_⟩
  · exfalso
    refine h ?_
    unfold o0
    rw [if_neg (by omega)]
  · exfalso
    refine h ?_
    unfold o0
    rw [if_neg (by omega)]
  · have z9 : ∀ {P : Prop} {k : Nat}, k < 0 → P := fun h => absurd h (Nat.not_lt_zero _)
    exact ⟨fun k h => z9 h, fun j k _ h => z9 h, fun j k h => z9 h, fun _ => ⟨fun j k h => z9 h, fun k h => z9 h⟩, fun k h => z9 h, fun k h => z9 h, fun j k _ h => z9 h, by decide +kernel, by decide +kernel, by decide +kernel⟩
theorem rr_0 : RR 1 o0 (fun j => j + 1) none n0 := by
  refine ⟨be_0, ⟨⟨0, by decide, rfl, rfl, fun j hj => absurd hj (Nat.not_lt_zero j)⟩, fun j hj => ⟨by show 1 ≤ j + 1; omega, by show j + 1 ≤ 8; omega⟩, fun i j _ _ h => by (have h9 : i + 1 = j + 1 := h; omega)⟩, ⟨rfl, fun z => absurd (show n0 0 3 = 0 from rfl) z⟩, ⟨rfl, rfl⟩, ⟨0, by decide, rfl, rfl, fun j hj => absurd hj (Nat.not_lt_zero j)⟩, ⟨0, by decide, rfl, rfl, fun j hj => absurd hj (Nat.not_lt_zero j)⟩, rfl, by decide⟩
section LSTART
variable {p : Program} {l : Launch} {e : Env} {R : Room} {s : State} {m : MethodId} {args : Array Value} {below : List Frame} {meth : Method} {c : Code} {H : Heap} {locs : List Loc} {cells slots : Nat} {Q : State → Prop}
variable {pc : Nat} {ls : Array Slot} {rest st0 : List Value} {a : Array Value} {mc ms : Nat} {D : va_G} {cy : Nat → ClassId} {q : Nat}
theorem lw_i9 (hr : va_Run p l e R s m args below meth c H locs cells slots mc ms (F0 m pc ls st0) rest (iW9 D cy q a) (iA q H.size)) (hS : va_S (fun z => s.heap.size ≤ z) s.heap H locs) (hq : s.heap.size ≤ q)
    (kk : ∀ (H1 : Heap) (locs1 : List Loc) (ad : Nat → Nat), sp_inj ad 459 → ad 429 = q → (∀ k, k < 459 → ad k = q ∨ H.size ≤ ad k) → va_P D vwCl (cW ad cy (fun j => j + 1) none o0) H1 → (∀ z : Nat, z < H.size → z ≠ q → H1[z]? = H[z]?) → H.size ≤ H1.size → va_S (fun z => s.heap.size ≤ z) s.heap H1 locs1 → W p l e R s m args below meth c H1 locs1 (cells + mc) (slots + ms) Q (F0 m (pc + 3) ls rest)) : W p l e R s m args below meth c H locs cells slots Q (F0 m pc ls st0) := by
  intro T hT X
  obtain ⟨v', st₀, t, T', L9, h0, X', hL, e8, e9, ⟨ho, ⟨hz, hk⟩, ad, a1, a2, a3, a4⟩, st⟩ := hr T hT X
  cases ho
  rw [h0] at hz hk a3
  have hkk : ∀ z : Nat, z < H.size → z ≠ q → T'.heap[z]? = H[z]? := fun z h1 h2 => by
    rw [e8]
    exact hk z h1 fun w => w.elim (fun w => h2 w) (fun w => by omega)
  have hsz : H.size ≤ T'.heap.size := by rw [e8]; exact hz
  have hSs : s.heap.size ≤ H.size := hS.1
  obtain ⟨t2, b1, b2⟩ := kk T'.heap (locs ++ L9) ad a1 a2 (fun k hk9 => (a3 k hk9).elim Or.inl Or.inr) (by rw [e8]; exact a4) hkk hsz ⟨Nat.le_trans hSs hsz, fun z h1 h2 => (hkk z (Nat.lt_of_lt_of_le h1 hSs) (fun w => h2 (by rw [w]; exact hq))).trans (hS.2.1 z h1 h2), fun z hz9 => by
      rcases List.mem_append.mp hz9 with h | h
      · exact hS.2.2 z h
      · exact (hL z h).elim (fun w => by rw [w]; exact hq) (fun w => Nat.le_trans hSs w)⟩ T' rfl X'
  exact ⟨t2, st t2 b1, b2⟩
end LSTART
