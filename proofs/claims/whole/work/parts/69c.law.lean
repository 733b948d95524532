/-! WHAT A CALL OWES: the code, the answer, the relation behind it -/
section PTWO
variable {σ μ : Nat → Nat → Int32} {B n t : Nat} {pi ro pm : Nat → Nat} {rc : Option RC}
theorem RR.mono {B' : Nat} (h : RR B σ pm rc μ) (hB : B ≤ B') (hB2 : B' < 1000000) : RR B' σ pm rc μ := h.cong B' hB hB2 (fun _ _ => rfl) (fun _ _ _ _ _ _ => rfl) h.2.2.2.1
def P2 (L : List String) (x : XO) (B : Nat) (σx : Nat → Nat → Int32) (pm : Nat → Nat) (σ1 : Nat → Nat → Int32) (pm1 : Nat → Nat) (rc : Option RC) (ρ : Nat → Nat → Int32) (ok : Prop) : Prop := ρ 0 0 = kC L x ∧ (x = none → ok ∧ RR (B + 20) σ1 pm1 rc ρ) ∧ ∀ E r, x = some (E, r) → RR (B + 20) σx pm (r.or rc) ρ
theorem P2.of {L : List String} {x : XO} {σx σ1 ρ : Nat → Nat → Int32} {pm1 : Nat → Nat} {ok : Prop} {B1 B2 : Nat} (h1 : ρ 0 0 = kC L x) (h2 : x = none → ok ∧ RR B1 σ1 pm1 rc ρ) (h3 : ∀ E r, x = some (E, r) → RR B2 σx pm (r.or rc) ρ) (hB1 : B1 ≤ B + 20) (hB2 : B2 ≤ B + 20) (hB : B + 20 < 1000000) : P2 L x B σx pm σ1 pm1 rc ρ ok :=
  ⟨h1, fun e => ⟨(h2 e).1, (h2 e).2.mono hB1 hB⟩, fun E r e => (h3 E r e).mono hB2 hB⟩
theorem CHG.p2 {L : List String} {x : XO} {ς ρ : Nat → Nat → Int32} {ok : Prop} (h : CHG L x B (B + 1) σ ς pm rc ρ ok) (hB : B + 20 < 1000000) : P2 L x B σ pm ς (pm_push pm) rc ρ ok := P2.of h.1 h.2.1 h.2.2 (by omega) (by omega) hB
theorem AG.p2 {L : List String} {x : XO} {th : Int32} {ok : Prop} (a : AG L x th ok) (h : RR B σ pm rc μ) (hB : B + 20 < 1000000) : P2 L x B σ pm σ pm rc (sp_st μ 0 0 th) ok :=
  P2.of (by rw [sp_st_s]; exact a.1.symm) (fun e => ⟨a.2.2 e, h.thrown (by omega) th⟩) (fun E r e => by rw [a.2.1 E r e]; exact h.thrown (by omega) th) (Nat.le_add_right _ _) (Nat.le_add_right _ _) hB
theorem ch_app (h : RR B σ pm rc μ) (hB : B < 1000000) (x : Int32) {ty : Nat} (hty : μ 0 12 = nI ty) (ht60 : ty ≤ 60) : (if m_in x 32 126 = true then (if nI ty = 60 then sp_st μ 0 0 2 else sp_st (sp_st (sp_st μ 0 0 0) 3 ty x) 0 12 (nI ty + 1)) else sp_st μ 0 0 1) 0 0 = kC [eIAE, eISE] ((f_xIn (decide (32 ≤ x) && decide (x ≤ 126))).or (f_xIs (f_fullI σ))) ∧ ((f_xIn (decide (32 ≤ x) && decide (x ≤ 126))).or (f_xIs (f_fullI σ)) = none → f_appI σ x 434 1 = (if m_in x 32 126 = true then (if nI ty = 60 then 0 else nI ty + 1) else 0) ∧ RR B (f_appI σ x) pm rc (if m_in x 32 126 = true then (if nI ty = 60 then sp_st μ 0 0 2 else sp_st (sp_st (sp_st μ 0 0 0) 3 ty x) 0 12 (nI ty + 1)) else sp_st μ 0 0 1)) ∧ ∀ E r, (f_xIn (decide (32 ≤ x) && decide (x ≤ 126))).or (f_xIs (f_fullI σ)) = some (E, r) → RR B σ pm (r.or rc) (if m_in x 32 126 = true then (if nI ty = 60 then sp_st μ 0 0 2 else sp_st (sp_st (sp_st μ 0 0 0) 3 ty x) 0 12 (nI ty + 1)) else sp_st μ 0 0 1) := by
  have hall := h
  obtain ⟨a, ⟨⟨ch2, c1, c2, c3, c4⟩, p1, p2⟩, ⟨s1, s2⟩, hj, ho, ⟨t2, u1, u2, u3, u4⟩, he, hh⟩ := h
  have et : t2 = ty := ((nI_eq (by omega) (by omega)).mp (hty.symm.trans u2)).symm
  subst et
  have hin : (decide (32 ≤ x) && decide (x ≤ 126)) = m_in x 32 126 := rfl
  rw [hin]
  unfold f_xIn
  by_cases q : m_in x 32 126 = true
  · rw [if_pos q, if_pos q, if_pos q]
    show _ = kC [eIAE, eISE] (f_xIs (f_fullI σ)) ∧ (f_xIs (f_fullI σ) = none → _) ∧ ∀ E r, f_xIs (f_fullI σ) = some (E, r) → _
    unfold f_xIs f_fullI
    rw [u3]
    by_cases q2 : nI t2 = 60
    · rw [if_pos q2, if_pos q2, q2, if_pos (show decide ((60 : Int32) ≤ 60) = true by decide)]
      exact ⟨(sp_st_s _ _ _ _).trans (kC_2 ne_SA).symm, fun z => by (cases z), fun E r z => by (cases z; exact hall.thrown hB 2)⟩
    · have ht : t2 < 60 := nI_lt60 q2 u1
      have hlt : nI t2 < 60 := (nI_ltI (a := t2) (b := 60) (by omega) (by decide)).mpr ht
      rw [if_neg q2, if_neg q2, if_neg (show ¬ decide ((60 : Int32) ≤ nI t2) = true by rw [decide_eq_true_eq]; exact Int32.not_le.mpr hlt)]
      have e1 : f_appI σ x = sp_st (sp_st σ 435 t2 x) 434 1 (nI t2 + 1) := by unfold f_appI; rw [u3, if_pos hlt, tn_nI (by omega)]
      rw [e1]
      have hm : ∀ k j, k ≠ 3 → ¬ (k = 0 ∧ (j = 0 ∨ j = 12)) → sp_st (sp_st (sp_st μ 0 0 0) 3 t2 x) 0 12 (nI t2 + 1) k j = μ k j := fun k j q1 q3 => by
        rw [sp_st_at, if_neg (by omega), sp_st_k _ _ _ _ _ _ q1, sp_st_at, if_neg (by omega)]
      have hg : ∀ k j, k ≠ 435 → ¬ (k = 434 ∧ j = 1) → sp_st (sp_st σ 435 t2 x) 434 1 (nI t2 + 1) k j = σ k j := fun k j q1 q3 => by
        rw [sp_st_at, if_neg q3, sp_st_k _ _ _ _ _ _ q1]
      refine ⟨by rw [sp_st_j _ _ _ _ _ _ (by decide), sp_st_k _ _ _ _ _ _ (by decide), sp_st_s]; rfl, fun _ => ⟨by rw [sp_st_s], ?_⟩, fun E r z => by (cases z)⟩
      refine ⟨a.congr (fun k j hk => hg k j (by omega) (by omega)) (fun j _ => hm 1 j (by decide) (by omega)) (Nat.le_refl B) hB, ⟨⟨ch2, c1, by rw [hm 0 2 (by decide) (by decide)]; exact c2, by rw [hg 431 1 (by decide) (by decide)]; exact c3, fun j hj9 => ?_⟩, p1, p2⟩, ⟨by rw [hm 0 3 (by decide) (by decide), hg 429 5 (by decide) (by decide)]; exact s1, fun z => ?_⟩, hj.congr (fun j q1 q3 => hm 0 j (by decide) (by omega)), ho.congr (hm 0 10 (by decide) (by decide)) (fun j => hm 2 j (by decide) (by omega)) (hg 436 1 (by decide) (by decide)) (fun j => hg 437 j (by decide) (by omega)), ⟨t2 + 1, by omega, by rw [sp_st_s]; exact nI_1 t2, by rw [sp_st_s]; exact nI_1 t2, fun j hj9 => ?_⟩, by rw [hm 0 15 (by decide) (by decide), hg 429 9 (by decide) (by decide)]; exact he, by rw [hm 0 13 (by decide) (by decide)]; exact hh⟩
      · have hb9 := p1 j (by omega)
        exact (c4 j hj9).congr (fun k j2 hk => hg _ j2 (by omega) (by omega)) (fun y _ => hm 1 _ (by decide) (by omega)) (Nat.le_refl B) hB
      · rw [hm 0 3 (by decide) (by decide)] at z
        exact (s2 z).congr (fun k j2 hk => hg _ j2 (by omega) (by omega)) (fun y _ => hm 1 _ (by decide) (by omega)) (Nat.le_refl B) hB
      · rw [sp_st_k _ 0 12 _ 3 j (by decide), sp_st_k _ 434 1 _ 435 j (by decide), sp_st_at (sp_st μ 0 0 0) 3 t2 x 3 j, sp_st_at σ 435 t2 x 435 j]
        by_cases q3 : j = t2
        · rw [if_pos (show (3 : Nat) = 3 ∧ j = t2 from ⟨rfl, q3⟩), if_pos (show (435 : Nat) = 435 ∧ j = t2 from ⟨rfl, q3⟩)]
        · rw [if_neg (show ¬ ((3 : Nat) = 3 ∧ j = t2) from fun z => q3 z.2), if_neg (show ¬ ((435 : Nat) = 435 ∧ j = t2) from fun z => q3 z.2), sp_st_k _ _ _ _ _ _ (by decide)]; exact u4 j (by omega)
  · rw [if_neg q, if_neg q, if_neg q]
    exact ⟨(sp_st_s _ _ _ _).trans kC_1.symm, fun z => by (cases z), fun E r z => by (cases z; exact hall.thrown hB 1)⟩
end PTWO
/-! THE LAW'S WORLD -/
/-- the addresses: apart, and all new since the law began -/
def LA (s0 : Nat) (ad am : Nat → Nat) (qo qd : Nat) : Prop := sp_inj ad 459 ∧ sp_inj am 5 ∧ (∀ k j, k < 459 → j < 5 → ad k ≠ am j) ∧ (∀ k, k < 459 → ad k ≠ qo ∧ ad k ≠ qd) ∧ (∀ j, j < 5 → am j ≠ qo ∧ am j ≠ qd) ∧ qo ≠ qd ∧ (∀ k, k < 459 → s0 ≤ ad k) ∧ (∀ j, j < 5 → s0 ≤ am j) ∧ s0 ≤ qo ∧ s0 ≤ qd
def LPq (ad am : Nat → Nat) (qo qd q : Nat) : Prop := (∀ k, k < 459 → ad k ≠ q) ∧ (∀ j, j < 5 → am j ≠ q) ∧ q ≠ qo ∧ q ≠ qd
def RN (D : va_G) (P : Nat → Prop) (rj : Option Nat) (rc : Option RC) (H : Heap) : Prop := match rc with
  | none => rj = none
  | some x => ∃ (a : Nat) (c : Option Nat), rj = some a ∧ P a ∧ va_at D vwCl (a, .inr (7, [.int x.1, .int x.2.1, va_rf c])) H ∧ match x.2.2 with
    | none => c = none
    | some y => ∃ b : Nat, c = some b ∧ P b ∧ va_at D vwCl (b, .inr (7, [.int y.1, .int y.2, .null])) H
theorem RN.sp {D : va_G} {P : Nat → Prop} {rj : Option Nat} {rc : Option RC} {H : Heap} (h : RN D P rj rc H) : sp_N D 0 none rj rc H := by
  rcases rc with _ | ⟨x1, x2, _ | y⟩
  · exact h
  · obtain ⟨a, c, h1, -, h3, h4⟩ := h
    exact ⟨a, c, h1, Nat.zero_le _, h3, h4⟩
  · obtain ⟨a, c, h1, -, h3, b, h4, -, h6⟩ := h
    exact ⟨a, c, h1, Nat.zero_le _, h3, b, h4, Nat.zero_le _, h6⟩
theorem RN.keep {D : va_G} {P : Nat → Prop} {rj : Option Nat} {rc : Option RC} {H H1 : Heap} (h : RN D P rj rc H) (hq : ∀ q, P q → q < H.size → H1[q]? = H[q]?) : RN D P rj rc H1 := by
  rcases rc with _ | ⟨x1, x2, _ | y⟩
  · exact h
  · obtain ⟨a, c, h1, h2, h3, h4⟩ := h
    exact ⟨a, c, h1, h2, h3.kept (hq a h2 h3.lt), h4⟩
  · obtain ⟨a, c, h1, h2, h3, b, h4, h5, h6⟩ := h
    exact ⟨a, c, h1, h2, h3.kept (hq a h2 h3.lt), b, h4, h5, h6.kept (hq b h5 h6.lt)⟩
theorem RN.new {D : va_G} {P : Nat → Prop} {rj rj9 : Option Nat} {rc r : Option RC} {sz : Nat} {H : Heap} (h : RN D P rj rc H) (hn : sp_N D sz rj rj9 r H) (hP : ∀ a, sz ≤ a → P a) : RN D P rj9 (r.or rc) H := by
  rcases r with _ | ⟨x1, x2, _ | y⟩
  · have e : rj9 = rj := hn
    rw [e]; exact h
  · obtain ⟨a, c, h1, h2, h3, h4⟩ := hn
    exact ⟨a, c, h1, hP a h2, h3, h4⟩
  · obtain ⟨a, c, h1, h2, h3, b, h4, h5, h6⟩ := hn
    exact ⟨a, c, h1, hP a h2, h3, b, h4, hP b h5, h6⟩
def LW (s0 : Nat) (D : va_G) (cy : Nat → ClassId) (ad am : Nat → Nat) (qo qd : Nat) (pm : Nat → Nat) (rj : Option Nat) (rc : Option RC) (σ μ : Nat → Nat → Int32) (eo ed : va_E) (H : Heap) : Prop := LA s0 ad am qo qd ∧ va_P D vwCl (cW ad cy pm rj σ) H ∧ va_P D vwCl (mW am cy μ) H ∧ va_at D vwCl (qo, eo) H ∧ va_at D vwCl (qd, ed) H ∧ RN D (LPq ad am qo qd) rj rc H
section LWS
variable {p : Program} {l : Launch} {e : Env} {R : Room} {s : State} {m : MethodId} {args : Array Value} {below : List Frame} {meth : Method} {c : Code} {H : Heap} {locs : List Loc} {cells slots : Nat} {Q : State → Prop}
variable {pc : Nat} {ls : Array Slot} {rest st0 : List Value} {a : Array Value} {mc ms : Nat}
variable {D : va_G} {cy : Nat → ClassId} {ad am : Nat → Nat} {qo qd : Nat} {pm pm1 : Nat → Nat} {rj : Option Nat} {rc : Option RC} {σ σ1 σx μ ρ : Nat → Nat → Int32} {eo ed e1 : va_E} {x : XO} {L : List String}
/-- what a call of the class that changes nothing but its own cells and one array keeps -/
theorem LW.old (h : LW s.heap.size D cy ad am qo qd pm rj rc σ μ eo ed H) : (∀ j, j < 5 → ∀ A9 : Nat → Prop, (∀ q, A9 q → (∃ k, k < 459 ∧ q = ad k) ∨ q = qo ∨ q = qd ∨ H.size ≤ q) → ¬ A9 (am j)) ∧ (∀ q, H.size ≤ q → LPq ad am qo qd q) := by
  obtain ⟨⟨l1, l2, l3, l4, l5, l6, -⟩, hP, hM, hO, hDd, -⟩ := h
  refine ⟨fun j hj A9 hA z => ?_, fun q hq => ⟨fun k hk e9 => ?_, fun j hj e9 => ?_, fun e9 => ?_, fun e9 => ?_⟩⟩
  · have := (sp_P_at hM hj).lt
    rcases hA _ z with ⟨k, hk, e9⟩ | e9 | e9 | e9
    · exact l3 k j hk hj e9.symm
    · exact (l5 j hj).1 e9
    · exact (l5 j hj).2 e9
    · have h9 : am j < H.size := this
      omega
  · have h9 : ad k < H.size := (sp_P_at hP hk).lt
    omega
  · have h9 : am j < H.size := (sp_P_at hM hj).lt
    omega
  · have h9 : qo < H.size := hO.lt
    omega
  · have h9 : qd < H.size := hDd.lt
    omega
theorem LW.call (h : LW s.heap.size D cy ad am qo qd pm rj rc σ μ eo ed H) (hr : va_Run p l e R s m args below meth c H locs cells slots mc ms (F0 m pc ls st0) rest (wQ x L D qo eo e1 (cW ad cy pm1 rj σ1) (sp_B D ad cy pm σx H.size rj) (wA ad qo H.size) a) (wA ad qo H.size)) (hS : va_S (fun q => s.heap.size ≤ q) s.heap H locs)
    (kk : ∀ (H1 : Heap) (locs1 : List Loc) (pm2 : Nat → Nat) (rj2 : Option Nat) (rc2 : Option RC) (σ2 : Nat → Nat → Int32) (e2 : va_E), LW s.heap.size D cy ad am qo qd pm2 rj2 rc2 σ2 μ e2 ed H1 → ((x = none ∧ pm2 = pm1 ∧ rc2 = rc ∧ σ2 = σ1 ∧ e2 = e1) ∨ (∃ E r, x = some (E, r) ∧ pm2 = pm ∧ rc2 = r.or rc ∧ σ2 = σx ∧ e2 = eo)) → va_S (fun q => s.heap.size ≤ q) s.heap H1 locs1 → W p l e R s m args below meth c H1 locs1 (cells + mc) (slots + ms) Q (F0 m (pc + 3) ls (.int (kC L x) :: rest))) : W p l e R s m args below meth c H locs cells slots Q (F0 m pc ls st0) := by
  intro T hT X
  obtain ⟨v', st₀, t, T', L9, h0, X', hL, e8, e9, ⟨ho, ⟨hz, hk⟩, hc⟩, st⟩ := hr T hT X
  cases ho
  rw [h0] at hz hk
  obtain ⟨o1, o2⟩ := h.old
  have hall := h
  obtain ⟨⟨l1, l2, l3, l4, l5, l6, l7, l8, l9, l10⟩, hP, hM, hO, hDd, hR⟩ := h
  have hwA : ∀ q, wA ad qo H.size q → (∃ k, k < 459 ∧ q = ad k) ∨ q = qo ∨ q = qd ∨ H.size ≤ q := fun q z => by
    rcases z with (⟨k, hk9, e9⟩ | z) | z
    · exact Or.inl ⟨k, hk9, e9⟩
    · exact Or.inr (Or.inr (Or.inr z))
    · exact Or.inr (Or.inl z)
  have hsz : s.heap.size ≤ H.size := hS.1
  have hwS : ∀ q, wA ad qo H.size q → s.heap.size ≤ q := fun q z => by
    rcases z with (⟨k, hk9, e9⟩ | z) | z
    · rw [e9]; exact l7 k hk9
    · omega
    · rw [z]; exact l9
  have hM1 : va_P D vwCl (mW am cy μ) T'.heap := by rw [e8]; exact sp_P_kept hM fun j hj => hk _ (sp_P_at hM hj).lt (o1 j hj _ hwA)
  have hD1 : va_at D vwCl (qd, ed) T'.heap := by
    rw [e8]
    refine hDd.kept (hk qd hDd.lt fun z => ?_)
    rcases z with (⟨k, hk9, e9⟩ | z) | z
    · exact (l4 k hk9).2 e9.symm
    · have h9 : qd < H.size := hDd.lt
      omega
    · exact l6 z.symm
  have hRk : RN D (LPq ad am qo qd) rj rc T'.heap := hR.keep fun q hq hlt => by
    rw [e8]
    refine hk q hlt fun z => ?_
    rcases z with (⟨k, hk9, e9⟩ | z) | z
    · exact hq.1 k hk9 e9.symm
    · omega
    · exact hq.2.2.1 z
  have hS1 : va_S (fun q => s.heap.size ≤ q) s.heap T'.heap (locs ++ L9) := by
    refine ⟨Nat.le_trans hsz (by rw [e8]; exact hz), fun q h1 h2 => ?_, fun q hq => ?_⟩
    · rw [e8, hk q (by omega) (fun z => h2 (hwS q z))]; exact hS.2.1 q h1 h2
    · rcases List.mem_append.mp hq with h9 | h9
      · exact hS.2.2 q h9
      · exact hwS _ (hL q h9)
  rcases hc with ⟨q1, q2, q3⟩ | ⟨E, r, q1, ⟨rj9, q2, q4⟩, q3⟩
  · obtain ⟨t2, a1, b1⟩ := kk T'.heap (locs ++ L9) pm1 rj rc σ1 e1 ⟨hall.1, by rw [e8]; exact q2, hM1, by rw [e8]; exact q3, hD1, hRk⟩ (Or.inl ⟨q1, rfl, rfl, rfl, rfl⟩) hS1 T' rfl X'
    exact ⟨t2, st t2 a1, b1⟩
  · obtain ⟨t2, a1, b1⟩ := kk T'.heap (locs ++ L9) pm rj9 (r.or rc) σx eo ⟨hall.1, by rw [e8]; exact q2, hM1, by rw [e8]; exact q3, hD1, hRk.new (by rw [e8]; exact q4) o2⟩ (Or.inr ⟨E, r, q1, rfl, rfl, rfl, rfl⟩) hS1 T' rfl X'
    exact ⟨t2, st t2 a1, b1⟩
theorem LA.swap {s0 : Nat} (h : LA s0 ad am qo qd) : LA s0 ad am qd qo := ⟨h.1, h.2.1, h.2.2.1, fun k hk => (h.2.2.2.1 k hk).symm, fun j hj => (h.2.2.2.2.1 j hj).symm, h.2.2.2.2.2.1.symm, h.2.2.2.2.2.2.1, h.2.2.2.2.2.2.2.1, h.2.2.2.2.2.2.2.2.2, h.2.2.2.2.2.2.2.2.1⟩
theorem LPq.swap {q : Nat} (h : LPq ad am qo qd q) : LPq ad am qd qo q := ⟨h.1, h.2.1, h.2.2.2, h.2.2.1⟩
theorem RN.mono {P P2 : Nat → Prop} (h : RN D P rj rc H) (hP : ∀ q, P q → P2 q) : RN D P2 rj rc H := by
  rcases rc with _ | ⟨x1, x2, _ | y⟩
  · exact h
  · obtain ⟨a, c, h1, h2, h3, h4⟩ := h
    exact ⟨a, c, h1, hP a h2, h3, h4⟩
  · obtain ⟨a, c, h1, h2, h3, b, h4, h5, h6⟩ := h
    exact ⟨a, c, h1, hP a h2, h3, b, h4, hP b h5, h6⟩
theorem LW.swap {s0 : Nat} (h : LW s0 D cy ad am qo qd pm rj rc σ μ eo ed H) : LW s0 D cy ad am qd qo pm rj rc σ μ ed eo H := ⟨h.1.swap, h.2.1, h.2.2.1, h.2.2.2.2.1, h.2.2.2.1, h.2.2.2.2.2.mono fun _ z => z.swap⟩
/-- the same, the answer in the other array -/
theorem LW.calld (h : LW s.heap.size D cy ad am qo qd pm rj rc σ μ eo ed H) (hr : va_Run p l e R s m args below meth c H locs cells slots mc ms (F0 m pc ls st0) rest (wQ x L D qd ed e1 (cW ad cy pm1 rj σ1) (sp_B D ad cy pm σx H.size rj) (wA ad qd H.size) a) (wA ad qd H.size)) (hS : va_S (fun q => s.heap.size ≤ q) s.heap H locs)
    (kk : ∀ (H1 : Heap) (locs1 : List Loc) (pm2 : Nat → Nat) (rj2 : Option Nat) (rc2 : Option RC) (σ2 : Nat → Nat → Int32) (e2 : va_E), LW s.heap.size D cy ad am qo qd pm2 rj2 rc2 σ2 μ eo e2 H1 → ((x = none ∧ pm2 = pm1 ∧ rc2 = rc ∧ σ2 = σ1 ∧ e2 = e1) ∨ (∃ E r, x = some (E, r) ∧ pm2 = pm ∧ rc2 = r.or rc ∧ σ2 = σx ∧ e2 = ed)) → va_S (fun q => s.heap.size ≤ q) s.heap H1 locs1 → W p l e R s m args below meth c H1 locs1 (cells + mc) (slots + ms) Q (F0 m (pc + 3) ls (.int (kC L x) :: rest))) : W p l e R s m args below meth c H locs cells slots Q (F0 m pc ls st0) :=
  LW.call h.swap hr hS fun H1 locs1 pm2 rj2 rc2 σ2 e2 h2 => kk H1 locs1 pm2 rj2 rc2 σ2 e2 h2.swap
/-- behind a call of the reference -/
theorem LW.model {H1 : Heap} (h : LW s.heap.size D cy ad am qo qd pm rj rc σ μ eo ed H) (hP : va_P D vwCl (mW am cy ρ) H1) (hfr : ∀ q : Nat, q < H.size → ¬ sp_A am 5 H.size q → H1[q]? = H[q]?) : LW s.heap.size D cy ad am qo qd pm rj rc σ ρ eo ed H1 := by
  obtain ⟨⟨l1, l2, l3, l4, l5, l6, l7, l8, l9, l10⟩, hC, hM, hO, hDd, hR⟩ := h
  have hno : ∀ q, q < H.size → (∀ j, j < 5 → am j ≠ q) → H1[q]? = H[q]? := fun q hq hn => hfr q hq fun z => z.elim (fun ⟨j, hj, e9⟩ => hn j hj e9.symm) (fun z => by omega)
  exact ⟨⟨l1, l2, l3, l4, l5, l6, l7, l8, l9, l10⟩, sp_P_kept hC fun k hk => hno _ (sp_P_at hC hk).lt fun j hj e9 => l3 k j hk hj e9.symm, hP, hO.kept (hno _ hO.lt fun j hj => (l5 j hj).1), hDd.kept (hno _ hDd.lt fun j hj => (l5 j hj).2), hR.keep fun q hq hlt => hno q hlt fun j hj => hq.2.1 j hj⟩
theorem lwPre {xq : Nat → Nat} {cl cd : ClassId} {As : List Value} {e9 : va_E} {q9 : Nat} {Z : Heap → Prop} (hP : va_P D vwCl (cW ad cy pm rj σ) H) (hO : va_at D vwCl (q9, e9) H) (hK : va_K D vwCl (tyL cy cl cd) s) (hE : EX xq (sp_A ad 459 H.size) s H) (hNC : NC s) (hq : ∀ k, k < 459 → ad k ≠ q9) (hZ : Z H) : PreS s H (wPc xq ad D cy cl cd H.size As (cW ad cy pm rj σ) q9 e9 Z) As :=
  ⟨wP_blind, fun U hU hW => ⟨rfl, by rw [hU], by rw [hU]; exact hP, by rw [hU]; exact hO, va_K.moved hW.alike hK, by rw [hU]; exact hE.warm hW, NC.moved hW.alike hNC, hq, by rw [hU]; exact hZ⟩⟩
/-- the machine beside the cells, at any heap of the run -/
theorem lwEX {xq : Nat → Nat} (h0 : EX xq (fun q => s.heap.size ≤ q) s s.heap) (hA : LA s.heap.size ad am qo qd) (hS : va_S (fun q => s.heap.size ≤ q) s.heap H locs) : EX xq (sp_A ad 459 H.size) s H :=
  (h0.kept hS.2.1).narrow fun q z => z.elim (fun ⟨k, hk, e9⟩ => by rw [e9]; exact hA.2.2.2.2.2.2.1 k hk) (fun z => Nat.le_trans hS.1 z)
theorem lwAm (hA : LA s.heap.size ad am qo qd) (hS : va_S (fun q => s.heap.size ≤ q) s.heap H locs) : ∀ q, sp_A am 5 H.size q → s.heap.size ≤ q := fun q z => z.elim (fun ⟨j, hj, e9⟩ => by rw [e9]; exact hA.2.2.2.2.2.2.2.1 j hj) (fun z => Nat.le_trans hS.1 z)
end LWS
def LE (p : Program) (l : Launch) (s : State) (m : MethodId) (c : Code) (args : Array Value) (b L : Nat) (xs : Nat → Int32) (D : va_G) (cy : Nat → ClassId) (cl cd : ClassId) (xq : Nat → Nat) : Prop := p.tables.exec = Jvm.exec ∧ c.code = cL_law ∧ c.maxLocals = 9 ∧ s.vm.findClass RL = some m.cls ∧ (∀ w ∈ wsL_law, w.before args s = true) ∧ va_X b L xs s s.heap ∧ b < s.heap.size ∧ l.stackTraces = false ∧ va_K D vwCl (tyL cy cl cd) s ∧ EX xq (fun q => s.heap.size ≤ q) s s.heap ∧ NC s
theorem kI_ne {L : List String} (hL : L.length ≤ 3) (E : String) : kI L E ≠ 0 ∨ L = [] := by
  rcases L with _ | ⟨a, _ | ⟨b, _ | ⟨d, _ | ⟨f, L⟩⟩⟩⟩
  · exact Or.inr rfl
  · refine Or.inl ?_
    show (if E = a then 1 else (0 : Int32) + 1) ≠ 0
    split <;> decide
  · refine Or.inl ?_
    show (if E = a then 1 else (if E = b then 1 else (0 : Int32) + 1) + 1) ≠ 0
    split
    · decide
    · split <;> decide
  · refine Or.inl ?_
    show (if E = a then 1 else (if E = b then 1 else (if E = d then 1 else (0 : Int32) + 1) + 1) + 1) ≠ 0
    split
    · decide
    · split
      · decide
      · split <;> decide
  · exfalso
    have h9 : L.length + 1 + 1 + 1 + 1 ≤ 3 := hL
    omega
theorem kC_0 {L : List String} {x : XO} (hL : 1 ≤ L.length ∧ L.length ≤ 3) (h : kC L x = 0) : x = none := by
  rcases x with _ | ⟨E, r⟩
  · rfl
  · rcases kI_ne hL.2 E with q | q
    · exact absurd h q
    · rw [q] at hL; exact absurd hL.1 (by decide)
theorem cmp_i (a : Int) : compare a a = .eq := by
  show (if a < a then Ordering.lt else if a = a then Ordering.eq else Ordering.gt) = .eq
  rw [if_neg (Int.lt_irrefl a), if_pos rfl]
theorem dc_self (x : UInt64) : FP.dcmp x x = none ∨ FP.dcmp x x = some .eq := by
  show FP.Core.order (FP.Core.decode FP.Core.b64 x.toNat) (FP.Core.decode FP.Core.b64 x.toNat) = none ∨ FP.Core.order (FP.Core.decode FP.Core.b64 x.toNat) (FP.Core.decode FP.Core.b64 x.toNat) = some .eq
  generalize FP.Core.decode FP.Core.b64 x.toNat = d
  cases d
  · exact Or.inl rfl
  · exact Or.inr (congrArg some (cmp_i _))
  · exact Or.inr (congrArg some (cmp_i _))
theorem lg_same {x y : Int64} (h : x = y) : lg_cmp x y = 0 := by subst h; simp [lg_cmp]
set_option maxRecDepth 100000 in
theorem late_d : ∀ a, a < 31 → ∀ b, b < 31 → 1 ≤ b → (FP.f2d (FP.fdiv (FP.i2f (nI a)) (FP.i2f (nI b)))) &&& 0x7fffffffffffffff ≤ 0x7ff0000000000000 ∧ FP.dcmp (FP.f2d (FP.fdiv (FP.i2f (nI a)) (FP.i2f (nI b)))) (FP.f2d (FP.fdiv (FP.i2f (nI a)) (FP.i2f (nI b)))) = some .eq := by decide +kernel
section LWT
variable {σ μ : Nat → Nat → Int32} {fm : Nat → Int32} {B n t : Nat} {pi ro pm : Nat → Nat} {rc : Option RC}
theorem BR.lateF (h : BR σ fm B n t pi ro) (h0 : f_xAr (f_countPrintsInRows σ 0 10 == 0) = none) : vf_n64 (FP.f2d (FP.fdiv (FP.i2f (f_countLatePrints σ)) (FP.i2f (f_countPrintsInRows σ 0 10)))) ∧ FP.dcmp (FP.f2d (FP.fdiv (FP.i2f (f_countLatePrints σ)) (FP.i2f (f_countPrintsInRows σ 0 10)))) (FP.f2d (FP.fdiv (FP.i2f (f_countLatePrints σ)) (FP.i2f (f_countPrintsInRows σ 0 10)))) = some .eq := by
  obtain ⟨d, hd, e⟩ := h.vx.late_nat
  have hn := h.n30
  rw [h.all] at h0 ⊢
  rw [h.late, e]
  have h1 : 1 ≤ n := by
    rcases Nat.eq_zero_or_pos n with q | q
    · rw [q] at h0
      unfold f_xAr at h0
      rw [if_pos (by decide)] at h0
      cases h0
    · exact q
  exact late_d d (by omega) n (by omega) h1
theorem RR.undo (h : RR B σ pm rc μ) : σ 431 1 = μ 0 2 := by
  obtain ⟨ch, _, h1, h2, _⟩ := h.2.1.1
  exact h2.trans h1.symm
theorem P2.rr {L : List String} {x : XO} {σx σ1 σ2 ρ : Nat → Nat → Int32} {pm1 pm2 : Nat → Nat} {rc2 : Option RC} {ok : Prop} {eo e1 e2 : va_E} (hp : P2 L x B σx pm σ1 pm1 rc ρ ok) (hO : (x = none ∧ pm2 = pm1 ∧ rc2 = rc ∧ σ2 = σ1 ∧ e2 = e1) ∨ (∃ E r, x = some (E, r) ∧ pm2 = pm ∧ rc2 = r.or rc ∧ σ2 = σx ∧ e2 = eo)) : RR (B + 20) σ2 pm2 rc2 ρ := by
  rcases hO with ⟨h1, h2, h3, h4, -⟩ | ⟨E, r, h1, h2, h3, h4, -⟩
  · rw [h2, h3, h4]; exact (hp.2.1 h1).2
  · rw [h2, h3, h4]; exact hp.2.2 E r h1
theorem outL {cl : ClassId} {x : XO} {σx σ1 σ2 : Nat → Nat → Int32} {pm1 pm2 : Nat → Nat} {rc2 : Option RC} {f : Nat → Int64} {e2 : va_E} {v : Int64} (hO : (x = none ∧ pm2 = pm1 ∧ rc2 = rc ∧ σ2 = σ1 ∧ e2 = eL cl (vp_updL f (0 : Int32).toNatClampNeg v)) ∨ (∃ E r, x = some (E, r) ∧ pm2 = pm ∧ rc2 = r.or rc ∧ σ2 = σx ∧ e2 = eL cl f)) : ∃ f2, e2 = eL cl f2 ∧ (x = none → f2 (0 : Int32).toNatClampNeg = v) := by
  rcases hO with ⟨h1, -, -, -, h5⟩ | ⟨E, r, h1, -, -, -, h5⟩
  · exact ⟨_, h5, fun _ => by simp [vp_updL]⟩
  · exact ⟨f, h5, fun z => by rw [h1] at z; cases z⟩
theorem outD {cd : ClassId} {x : XO} {σx σ1 σ2 : Nat → Nat → Int32} {pm1 pm2 : Nat → Nat} {rc2 : Option RC} {g : Nat → UInt64} {e2 : va_E} {v : UInt64} (hO : (x = none ∧ pm2 = pm1 ∧ rc2 = rc ∧ σ2 = σ1 ∧ e2 = eD cd (vf_upd g (0 : Int32).toNatClampNeg v)) ∨ (∃ E r, x = some (E, r) ∧ pm2 = pm ∧ rc2 = r.or rc ∧ σ2 = σx ∧ e2 = eD cd g)) : ∃ f2, e2 = eD cd f2 ∧ (x = none → f2 (0 : Int32).toNatClampNeg = v) := by
  rcases hO with ⟨h1, -, -, -, h5⟩ | ⟨E, r, h1, -, -, -, h5⟩
  · exact ⟨_, h5, fun _ => by simp [vf_upd]⟩
  · exact ⟨g, h5, fun z => by rw [h1] at z; cases z⟩
end LWT
section LWU
variable {s : State} {H H1 : Heap} {locs : List Loc} {D : va_G} {cy : Nat → ClassId} {ad am : Nat → Nat} {qo qd : Nat} {pm : Nat → Nat} {rj : Option Nat} {rc : Option RC} {σ σ1 μ : Nat → Nat → Int32} {eo ed : va_E}
/-- behind a call of the class that makes nothing -/
theorem LW.cls (h : LW s.heap.size D cy ad am qo qd pm rj rc σ μ eo ed H) (hP : va_P D vwCl (cW ad cy pm rj σ1) H1) (hfr : ∀ q : Nat, q < H.size → ¬ sp_A ad 459 H.size q → H1[q]? = H[q]?) : LW s.heap.size D cy ad am qo qd pm rj rc σ1 μ eo ed H1 := by
  obtain ⟨⟨l1, l2, l3, l4, l5, l6, l7, l8, l9, l10⟩, hC, hM, hO, hDd, hR⟩ := h
  have hno : ∀ q, q < H.size → (∀ k, k < 459 → ad k ≠ q) → H1[q]? = H[q]? := fun q hq hn => hfr q hq fun z => z.elim (fun ⟨k, hk, e9⟩ => hn k hk e9.symm) (fun z => by omega)
  exact ⟨⟨l1, l2, l3, l4, l5, l6, l7, l8, l9, l10⟩, hP, sp_P_kept hM fun j hj => hno _ (sp_P_at hM hj).lt fun k hk e9 => l3 k j hk hj e9, hO.kept (hno _ hO.lt fun k hk => (l4 k hk).1), hDd.kept (hno _ hDd.lt fun k hk => (l4 k hk).2), hR.keep fun q hq hlt => hno q hlt fun k hk => hq.1 k hk⟩
theorem lwAd (hA : LA s.heap.size ad am qo qd) (hS : va_S (fun q => s.heap.size ≤ q) s.heap H locs) : ∀ q, sp_A ad 459 H.size q → s.heap.size ≤ q := fun q z => z.elim (fun ⟨k, hk, e9⟩ => by rw [e9]; exact hA.2.2.2.2.2.2.1 k hk) (fun z => Nat.le_trans hS.1 z)
end LWU
/-- what a call's case goes on with: the loop's next turn -/
def LIH (p : Program) (l : Launch) (e : Env) (s : State) (m : MethodId) (args : Array Value) (below : List Frame) (meth : Method) (c : Code) (D : va_G) (cy : Nat → ClassId) (cl cd : ClassId) (ad am : Nat → Nat) (qo qd b i B cells slots : Nat) (Q : State → Prop) : Prop := ∀ (H1 : Heap) (locs1 : List Loc) (ls1 : Array Slot) (pm1 : Nat → Nat) (rj1 : Option Nat) (rc1 : Option RC) (σ1 μ1 : Nat → Nat → Int32) (f1 : Nat → Int64) (g1 : Nat → UInt64), LW s.heap.size D cy ad am qo qd pm1 rj1 rc1 σ1 μ1 (eL cl f1) (eD cd g1) H1 → RR (B + 20) σ1 pm1 rc1 μ1 → va_S (fun q => s.heap.size ≤ q) s.heap H1 locs1 → lv_has ls1 9 [(0, .ref b), (1, .ref (ad 429)), (2, .ref (am 0)), (3, .ref qo), (4, .ref qd), (5, .int (nI (7 * i)))] → W p l e room_1 s m args below meth c H1 locs1 (cells + 60) (slots + 240) Q (F0 m 3617 ls1 [])
