/-! THE LAW'S LOOP -/
theorem and63 (v : Int32) : ∃ k, k < 64 ∧ v &&& 63 = nI k := by
  refine ⟨(v &&& 63).toBitVec.toNat, ?_, ?_⟩
  · rw [Int32.toBitVec_and, BitVec.toNat_and]
    exact Nat.lt_of_le_of_lt Nat.and_le_right (by decide)
  · refine Int32.toBitVec_inj.mp ?_
    show (v &&& 63).toBitVec = BitVec.ofNat 32 (v &&& 63).toBitVec.toNat
    rw [BitVec.ofNat_toNat, BitVec.setWidth_eq]
theorem law_ge {L i : Nat} (hL : L ≤ 3584) (hi : 7 * i ≤ L) (h : ¬ nI L - 7 < nI (7 * i)) : 7 * i + 7 ≤ L := by
  rcases Nat.lt_or_ge L 7 with q | q
  · exfalso
    refine h (Int32.lt_of_lt_of_le (b := 0) ?_ (nI_pos' (by omega)))
    rcases (show L = 0 ∨ L = 1 ∨ L = 2 ∨ L = 3 ∨ L = 4 ∨ L = 5 ∨ L = 6 by omega) with rfl | rfl | rfl | rfl | rfl | rfl | rfl <;> decide
  · rw [show nI L - 7 = nI (L - 7) from nI_subE (a := L) (b := 7) rfl rfl q] at h
    rcases Nat.lt_or_ge (L - 7) (7 * i) with w | w
    · exact absurd (nI_lt w (by omega)) h
    · omega
section LLOOP
variable {p : Program} {l : Launch} {e : Env} {s : State} {m : MethodId} {args : Array Value} {below : List Frame} {meth : Method} {c : Code} {Q : State → Prop}
variable {b L : Nat} {xs : Nat → Int32} {D : va_G} {cy : Nat → ClassId} {cl cd : ClassId} {xq ad am : Nat → Nat} {qo qd : Nat}
set_option maxHeartbeats 4000000 in
set_option maxRecDepth 100000 in
theorem law_loop (hL : L ≤ 3584) (E0 : LE p l s m c args b L xs D cy cl cd xq) (hend : ∀ (H : Heap) (locs : List Loc) (cells slots : Nat) (ls : Array Slot), va_S (fun q => s.heap.size ≤ q) s.heap H locs → cells ≤ 606307 → slots ≤ 7176832 → W p l e room_1 s m args below meth c H locs cells slots Q (F0 m 3623 ls [])) : ∀ (n i : Nat), L + 7 ≤ 7 * i + 7 * n → 7 * i ≤ L → ∀ (H : Heap) (locs : List Loc) (ls : Array Slot) (pm : Nat → Nat) (rj : Option Nat) (rc : Option RC) (σ μ : Nat → Nat → Int32) (f : Nat → Int64) (g : Nat → UInt64) (B : Nat), LW s.heap.size D cy ad am qo qd pm rj rc σ μ (eL cl f) (eD cd g) H → RR B σ pm rc μ → B ≤ 20 * i + 1 → va_S (fun q => s.heap.size ≤ q) s.heap H locs → lv_has ls 9 [(0, .ref b), (1, .ref (ad 429)), (2, .ref (am 0)), (3, .ref qo), (4, .ref qd), (5, .int (nI (7 * i)))] → W p l e room_1 s m args below meth c H locs (466 + 60 * i) (8097 + 240 * i) Q (F0 m 28 ls []) := by
  have hE := E0
  obtain ⟨hx, hb, hml, hown, hts, hX, hbl, hst, hK, hE0, hNC⟩ := hE
  have hbA : ¬ (fun q : Nat => s.heap.size ≤ q) b := Nat.not_le.mpr hbl
  intro n
  induction n with
  | zero => intro i h1 h2; exact absurd h1 (by omega)
  | succ n ih =>
    intro i hn hi H locs ls pm rj rc σ μ f g B hW hR hB hS hl
    refine lv_iload hx hb dL_law_28 (lv_at hl 5 rfl) ?_
    refine lv_aload_n hx hb dL_law_30 rfl (lv_at hl 0 rfl) ?_
    refine va_slen hx hb hX hbl hbA hS dL_law_31 ?_
    refine lv_bipush (v := 7) hx hb dL_law_32 (by decide) ?_
    refine lv_isub hx hb dL_law_34 ?_
    refine lv_icmp_gt (tgt := 3623) hx hb dL_law_35 (by decide) (fun c_1 => hend _ _ _ _ _ hS (by omega) (by omega)) (fun c_1 => ?_)
    have hi7 : 7 * i + 7 ≤ L := law_ge hL hi c_1
    refine lv_aload_n hx hb dL_law_38 rfl (lv_at hl 0 rfl) ?_
    refine lv_iload hx hb dL_law_39 (lv_at hl 5 rfl) ?_
    refine va_sld hx hb hX hbl hbA hS (i := nI (7 * i)) (vp_in_nI (by omega) (by omega)) dL_law_41 ?_
    refine lv_bipush (v := 63) hx hb dL_law_42 (by decide) ?_
    refine lv_iand hx hb dL_law_44 ?_
    obtain ⟨k, hk, ek⟩ := and63 (xs (nI (7 * i)).toNatClampNeg)
    refine W.eq (g2 := F0 m 45 ls [.int (nI k)]) (by rw [ek]) ?_
    have hIH : LIH p l e s m args below meth c D cy cl cd ad am qo qd b i B (466 + 60 * i) (8097 + 240 * i) Q := by
      intro H1 locs1 ls1 pm1 rj1 rc1 σ1 μ1 f1 g1 hW1 hR1 hS1 hl1
      refine lv_iinc (v := nI (7 * (i + 1))) (lv' := [(5, .int (nI (7 * (i + 1)))), (0, .ref b), (1, .ref (ad 429)), (2, .ref (am 0)), (3, .ref qo), (4, .ref qd)]) hx hb dL_law_3617 hl1 (k := 5) rfl (by rw [show 7 * (i + 1) = 7 * i + 7 by omega]; exact nI_addE (a := 7 * i) (b := 7) rfl rfl) (by decide) rfl (fun ls hl => ?_)
      refine lv_goto (tgt := 28) hx hb dL_law_3620 (by decide) ?_
      have h9 := ih (i + 1) (by omega) (by omega) H1 locs1 ls pm1 rj1 rc1 σ1 μ1 f1 g1 (B + 20) hW1 hR1 (by omega) hS1 (lv_sub hl [1, 2, 3, 4, 5, 0] rfl)
      rw [show 466 + 60 * i + 60 = 466 + 60 * (i + 1) by omega, show 8097 + 240 * i + 240 = 8097 + 240 * (i + 1) by omega]
      exact h9
    rcases (show k = 0 ∨ k = 1 ∨ k = 2 ∨ k = 3 ∨ k = 4 ∨ k = 5 ∨ k = 6 ∨ k = 7 ∨ k = 8 ∨ k = 9 ∨ k = 10 ∨ k = 11 ∨ k = 12 ∨ k = 13 ∨ k = 14 ∨ k = 15 ∨ k = 16 ∨ k = 17 ∨ k = 18 ∨ k = 19 ∨ k = 20 ∨ k = 21 ∨ k = 22 ∨ k = 23 ∨ k = 24 ∨ k = 25 ∨ k = 26 ∨ k = 27 ∨ k = 28 ∨ k = 29 ∨ k = 30 ∨ k = 31 ∨ k = 32 ∨ k = 33 ∨ k = 34 ∨ k = 35 ∨ k = 36 ∨ k = 37 ∨ k = 38 ∨ k = 39 ∨ k = 40 ∨ k = 41 ∨ k = 42 ∨ k = 43 ∨ k = 44 ∨ k = 45 ∨ k = 46 ∨ k = 47 ∨ k = 48 ∨ k = 49 ∨ k = 50 ∨ k = 51 ∨ k = 52 ∨ k = 53 ∨ k = 54 ∨ k = 55 ∨ k = 56 ∨ k = 57 ∨ k = 58 ∨ k = 59 ∨ k = 60 ∨ k = 61 ∨ 62 ≤ k by omega) with rfl | rfl | rfl | rfl | rfl | rfl | rfl | rfl | rfl | rfl | rfl | rfl | rfl | rfl | rfl | rfl | rfl | rfl | rfl | rfl | rfl | rfl | rfl | rfl | rfl | rfl | rfl | rfl | rfl | rfl | rfl | rfl | rfl | rfl | rfl | rfl | rfl | rfl | rfl | rfl | rfl | rfl | rfl | rfl | rfl | rfl | rfl | rfl | rfl | rfl | rfl | rfl | rfl | rfl | rfl | rfl | rfl | rfl | rfl | rfl | rfl | rfl | hk2
    · exact lv_tableIn (off := 263) (tgt := 308) hx hb dL_law_45 (by decide +kernel) (by decide +kernel) (by decide +kernel) (by decide) (lc_0 E0 hi7 hL (by omega) (by omega) hW hR hB hS hl hIH)
    · exact lv_tableIn (off := 319) (tgt := 364) hx hb dL_law_45 (by decide +kernel) (by decide +kernel) (by decide +kernel) (by decide) (lc_1 E0 hi7 hL (by omega) (by omega) hW hR hB hS hl hIH)
    · exact lv_tableIn (off := 375) (tgt := 420) hx hb dL_law_45 (by decide +kernel) (by decide +kernel) (by decide +kernel) (by decide) (lc_2 E0 hi7 hL (by omega) (by omega) hW hR hB hS hl hIH)
    · exact lv_tableIn (off := 509) (tgt := 554) hx hb dL_law_45 (by decide +kernel) (by decide +kernel) (by decide +kernel) (by decide) (lc_3 E0 hi7 hL (by omega) (by omega) hW hR hB hS hl hIH)
    · exact lv_tableIn (off := 565) (tgt := 610) hx hb dL_law_45 (by decide +kernel) (by decide +kernel) (by decide +kernel) (by decide) (lc_4 E0 hi7 hL (by omega) (by omega) hW hR hB hS hl hIH)
    · exact lv_tableIn (off := 645) (tgt := 690) hx hb dL_law_45 (by decide +kernel) (by decide +kernel) (by decide +kernel) (by decide) (lc_5 E0 hi7 hL (by omega) (by omega) hW hR hB hS hl hIH)
    · exact lv_tableIn (off := 708) (tgt := 753) hx hb dL_law_45 (by decide +kernel) (by decide +kernel) (by decide +kernel) (by decide) (lc_6 E0 hi7 hL (by omega) (by omega) hW hR hB hS hl hIH)
    · exact lv_tableIn (off := 764) (tgt := 809) hx hb dL_law_45 (by decide +kernel) (by decide +kernel) (by decide +kernel) (by decide) (lc_7 E0 hi7 hL (by omega) (by omega) hW hR hB hS hl hIH)
    · exact lv_tableIn (off := 820) (tgt := 865) hx hb dL_law_45 (by decide +kernel) (by decide +kernel) (by decide +kernel) (by decide) (lc_8 E0 hi7 hL (by omega) (by omega) hW hR hB hS hl hIH)
    · exact lv_tableIn (off := 876) (tgt := 921) hx hb dL_law_45 (by decide +kernel) (by decide +kernel) (by decide +kernel) (by decide) (lc_9 E0 hi7 hL (by omega) (by omega) hW hR hB hS hl hIH)
    · exact lv_tableIn (off := 932) (tgt := 977) hx hb dL_law_45 (by decide +kernel) (by decide +kernel) (by decide +kernel) (by decide) (lc_10 E0 hi7 hL (by omega) (by omega) hW hR hB hS hl hIH)
    · exact lv_tableIn (off := 988) (tgt := 1033) hx hb dL_law_45 (by decide +kernel) (by decide +kernel) (by decide +kernel) (by decide) (lc_11 E0 hi7 hL (by omega) (by omega) hW hR hB hS hl hIH)
    · exact lv_tableIn (off := 1044) (tgt := 1089) hx hb dL_law_45 (by decide +kernel) (by decide +kernel) (by decide +kernel) (by decide) (lc_12 E0 hi7 hL (by omega) (by omega) hW hR hB hS hl hIH)
    · exact lv_tableIn (off := 1100) (tgt := 1145) hx hb dL_law_45 (by decide +kernel) (by decide +kernel) (by decide +kernel) (by decide) (lc_13 E0 hi7 hL (by omega) (by omega) hW hR hB hS hl hIH)
    · exact lv_tableIn (off := 1163) (tgt := 1208) hx hb dL_law_45 (by decide +kernel) (by decide +kernel) (by decide +kernel) (by decide) (lc_14 E0 hi7 hL (by omega) (by omega) hW hR hB hS hl hIH)
    · exact lv_tableIn (off := 1219) (tgt := 1264) hx hb dL_law_45 (by decide +kernel) (by decide +kernel) (by decide +kernel) (by decide) (lc_15 E0 hi7 hL (by omega) (by omega) hW hR hB hS hl hIH)
    · exact lv_tableIn (off := 1275) (tgt := 1320) hx hb dL_law_45 (by decide +kernel) (by decide +kernel) (by decide +kernel) (by decide) (lc_16 E0 hi7 hL (by omega) (by omega) hW hR hB hS hl hIH)
    · exact lv_tableIn (off := 1352) (tgt := 1397) hx hb dL_law_45 (by decide +kernel) (by decide +kernel) (by decide +kernel) (by decide) (lc_17 E0 hi7 hL (by omega) (by omega) hW hR hB hS hl hIH)
    · exact lv_tableIn (off := 1415) (tgt := 1460) hx hb dL_law_45 (by decide +kernel) (by decide +kernel) (by decide +kernel) (by decide) (lc_18 E0 hi7 hL (by omega) (by omega) hW hR hB hS hl hIH)
    · exact lv_tableIn (off := 1471) (tgt := 1516) hx hb dL_law_45 (by decide +kernel) (by decide +kernel) (by decide +kernel) (by decide) (lc_19 E0 hi7 hL (by omega) (by omega) hW hR hB hS hl hIH)
    · exact lv_tableIn (off := 1527) (tgt := 1572) hx hb dL_law_45 (by decide +kernel) (by decide +kernel) (by decide +kernel) (by decide) (lc_20 E0 hi7 hL (by omega) (by omega) hW hR hB hS hl hIH)
    · exact lv_tableIn (off := 1583) (tgt := 1628) hx hb dL_law_45 (by decide +kernel) (by decide +kernel) (by decide +kernel) (by decide) (lc_21 E0 hi7 hL (by omega) (by omega) hW hR hB hS hl hIH)
    · exact lv_tableIn (off := 1646) (tgt := 1691) hx hb dL_law_45 (by decide +kernel) (by decide +kernel) (by decide +kernel) (by decide) (lc_22 E0 hi7 hL (by omega) (by omega) hW hR hB hS hl hIH)
    · exact lv_tableIn (off := 1709) (tgt := 1754) hx hb dL_law_45 (by decide +kernel) (by decide +kernel) (by decide +kernel) (by decide) (lc_23 E0 hi7 hL (by omega) (by omega) hW hR hB hS hl hIH)
    · exact lv_tableIn (off := 1772) (tgt := 1817) hx hb dL_law_45 (by decide +kernel) (by decide +kernel) (by decide +kernel) (by decide) (lc_24 E0 hi7 hL (by omega) (by omega) hW hR hB hS hl hIH)
    · exact lv_tableIn (off := 1828) (tgt := 1873) hx hb dL_law_45 (by decide +kernel) (by decide +kernel) (by decide +kernel) (by decide) (lc_25 E0 hi7 hL (by omega) (by omega) hW hR hB hS hl hIH)
    · exact lv_tableIn (off := 1884) (tgt := 1929) hx hb dL_law_45 (by decide +kernel) (by decide +kernel) (by decide +kernel) (by decide) (lc_26 E0 hi7 hL (by omega) (by omega) hW hR hB hS hl hIH)
    · exact lv_tableIn (off := 1952) (tgt := 1997) hx hb dL_law_45 (by decide +kernel) (by decide +kernel) (by decide +kernel) (by decide) (lc_27 E0 hi7 hL (by omega) (by omega) hW hR hB hS hl hIH)
    · exact lv_tableIn (off := 2008) (tgt := 2053) hx hb dL_law_45 (by decide +kernel) (by decide +kernel) (by decide +kernel) (by decide) (lc_28 E0 hi7 hL (by omega) (by omega) hW hR hB hS hl hIH)
    · exact lv_tableIn (off := 2064) (tgt := 2109) hx hb dL_law_45 (by decide +kernel) (by decide +kernel) (by decide +kernel) (by decide) (lc_29 E0 hi7 hL (by omega) (by omega) hW hR hB hS hl hIH)
    · exact lv_tableIn (off := 2120) (tgt := 2165) hx hb dL_law_45 (by decide +kernel) (by decide +kernel) (by decide +kernel) (by decide) (lc_30 E0 hi7 hL (by omega) (by omega) hW hR hB hS hl hIH)
    · exact lv_tableIn (off := 2176) (tgt := 2221) hx hb dL_law_45 (by decide +kernel) (by decide +kernel) (by decide +kernel) (by decide) (lc_31 E0 hi7 hL (by omega) (by omega) hW hR hB hS hl hIH)
    · exact lv_tableIn (off := 2232) (tgt := 2277) hx hb dL_law_45 (by decide +kernel) (by decide +kernel) (by decide +kernel) (by decide) (lc_32 E0 hi7 hL (by omega) (by omega) hW hR hB hS hl hIH)
    · exact lv_tableIn (off := 2309) (tgt := 2354) hx hb dL_law_45 (by decide +kernel) (by decide +kernel) (by decide +kernel) (by decide) (lc_33 E0 hi7 hL (by omega) (by omega) hW hR hB hS hl hIH)
    · exact lv_tableIn (off := 2389) (tgt := 2434) hx hb dL_law_45 (by decide +kernel) (by decide +kernel) (by decide +kernel) (by decide) (lc_34 E0 hi7 hL (by omega) (by omega) hW hR hB hS hl hIH)
    · exact lv_tableIn (off := 2476) (tgt := 2521) hx hb dL_law_45 (by decide +kernel) (by decide +kernel) (by decide +kernel) (by decide) (lc_35 E0 hi7 hL (by omega) (by omega) hW hR hB hS hl hIH)
    · exact lv_tableIn (off := 2532) (tgt := 2577) hx hb dL_law_45 (by decide +kernel) (by decide +kernel) (by decide +kernel) (by decide) (lc_36 E0 hi7 hL (by omega) (by omega) hW hR hB hS hl hIH)
    · exact lv_tableIn (off := 2588) (tgt := 2633) hx hb dL_law_45 (by decide +kernel) (by decide +kernel) (by decide +kernel) (by decide) (lc_37 E0 hi7 hL (by omega) (by omega) hW hR hB hS hl hIH)
    · exact lv_tableIn (off := 2644) (tgt := 2689) hx hb dL_law_45 (by decide +kernel) (by decide +kernel) (by decide +kernel) (by decide) (lc_38 E0 hi7 hL (by omega) (by omega) hW hR hB hS hl hIH)
    · exact lv_tableIn (off := 2712) (tgt := 2757) hx hb dL_law_45 (by decide +kernel) (by decide +kernel) (by decide +kernel) (by decide) (lc_39 E0 hi7 hL (by omega) (by omega) hW hR hB hS hl hIH)
    · exact lv_tableIn (off := 2768) (tgt := 2813) hx hb dL_law_45 (by decide +kernel) (by decide +kernel) (by decide +kernel) (by decide) (lc_40 E0 hi7 hL (by omega) (by omega) hW hR hB hS hl hIH)
    · exact lv_tableIn (off := 2781) (tgt := 2826) hx hb dL_law_45 (by decide +kernel) (by decide +kernel) (by decide +kernel) (by decide) (lc_41 E0 hi7 hL (by omega) (by omega) hW hR hB hS hl hIH)
    · exact lv_tableIn (off := 2837) (tgt := 2882) hx hb dL_law_45 (by decide +kernel) (by decide +kernel) (by decide +kernel) (by decide) (lc_42 E0 hi7 hL (by omega) (by omega) hW hR hB hS hl hIH)
    · exact lv_tableIn (off := 2850) (tgt := 2895) hx hb dL_law_45 (by decide +kernel) (by decide +kernel) (by decide +kernel) (by decide) (lc_43 E0 hi7 hL (by omega) (by omega) hW hR hB hS hl hIH)
    · exact lv_tableIn (off := 2863) (tgt := 2908) hx hb dL_law_45 (by decide +kernel) (by decide +kernel) (by decide +kernel) (by decide) (lc_44 E0 hi7 hL (by omega) (by omega) hW hR hB hS hl hIH)
    · exact lv_tableIn (off := 2876) (tgt := 2921) hx hb dL_law_45 (by decide +kernel) (by decide +kernel) (by decide +kernel) (by decide) (lc_45 E0 hi7 hL (by omega) (by omega) hW hR hB hS hl hIH)
    · exact lv_tableIn (off := 2889) (tgt := 2934) hx hb dL_law_45 (by decide +kernel) (by decide +kernel) (by decide +kernel) (by decide) (lc_46 E0 hi7 hL (by omega) (by omega) hW hR hB hS hl hIH)
    · exact lv_tableIn (off := 2955) (tgt := 3000) hx hb dL_law_45 (by decide +kernel) (by decide +kernel) (by decide +kernel) (by decide) (lc_47 E0 hi7 hL (by omega) (by omega) hW hR hB hS hl hIH)
    · exact lv_tableIn (off := 2968) (tgt := 3013) hx hb dL_law_45 (by decide +kernel) (by decide +kernel) (by decide +kernel) (by decide) (lc_48 E0 hi7 hL (by omega) (by omega) hW hR hB hS hl hIH)
    · exact lv_tableIn (off := 3024) (tgt := 3069) hx hb dL_law_45 (by decide +kernel) (by decide +kernel) (by decide +kernel) (by decide) (lc_49 E0 hi7 hL (by omega) (by omega) hW hR hB hS hl hIH)
    · exact lv_tableIn (off := 3080) (tgt := 3125) hx hb dL_law_45 (by decide +kernel) (by decide +kernel) (by decide +kernel) (by decide) (lc_50 E0 hi7 hL (by omega) (by omega) hW hR hB hS hl hIH)
    · exact lv_tableIn (off := 3136) (tgt := 3181) hx hb dL_law_45 (by decide +kernel) (by decide +kernel) (by decide +kernel) (by decide) (lc_51 E0 hi7 hL (by omega) (by omega) hW hR hB hS hl hIH)
    · exact lv_tableIn (off := 3194) (tgt := 3239) hx hb dL_law_45 (by decide +kernel) (by decide +kernel) (by decide +kernel) (by decide) (lc_52 E0 hi7 hL (by omega) (by omega) hW hR hB hS hl hIH)
    · exact lv_tableIn (off := 3238) (tgt := 3283) hx hb dL_law_45 (by decide +kernel) (by decide +kernel) (by decide +kernel) (by decide) (lc_53 E0 hi7 hL (by omega) (by omega) hW hR hB hS hl hIH)
    · exact lv_tableIn (off := 3282) (tgt := 3327) hx hb dL_law_45 (by decide +kernel) (by decide +kernel) (by decide +kernel) (by decide) (lc_54 E0 hi7 hL (by omega) (by omega) hW hR hB hS hl hIH)
    · exact lv_tableIn (off := 3326) (tgt := 3371) hx hb dL_law_45 (by decide +kernel) (by decide +kernel) (by decide +kernel) (by decide) (lc_55 E0 hi7 hL (by omega) (by omega) hW hR hB hS hl hIH)
    · exact lv_tableIn (off := 3370) (tgt := 3415) hx hb dL_law_45 (by decide +kernel) (by decide +kernel) (by decide +kernel) (by decide) (lc_56 E0 hi7 hL (by omega) (by omega) hW hR hB hS hl hIH)
    · exact lv_tableIn (off := 3414) (tgt := 3459) hx hb dL_law_45 (by decide +kernel) (by decide +kernel) (by decide +kernel) (by decide) (lc_57 E0 hi7 hL (by omega) (by omega) hW hR hB hS hl hIH)
    · exact lv_tableIn (off := 3458) (tgt := 3503) hx hb dL_law_45 (by decide +kernel) (by decide +kernel) (by decide +kernel) (by decide) (lc_58 E0 hi7 hL (by omega) (by omega) hW hR hB hS hl hIH)
    · exact lv_tableIn (off := 3502) (tgt := 3547) hx hb dL_law_45 (by decide +kernel) (by decide +kernel) (by decide +kernel) (by decide) (lc_59 E0 hi7 hL (by omega) (by omega) hW hR hB hS hl hIH)
    · exact lv_tableIn (off := 3515) (tgt := 3560) hx hb dL_law_45 (by decide +kernel) (by decide +kernel) (by decide +kernel) (by decide) (lc_60 E0 hi7 hL (by omega) (by omega) hW hR hB hS hl hIH)
    · exact lv_tableIn (off := 3528) (tgt := 3573) hx hb dL_law_45 (by decide +kernel) (by decide +kernel) (by decide +kernel) (by decide) (lc_61 E0 hi7 hL (by omega) (by omega) hW hR hB hS hl hIH)
    · have hout : (nI k).toInt < 0 ∨ 61 < (nI k).toInt := by rcases (show k = 62 ∨ k = 63 by omega) with rfl | rfl <;> exact Or.inr (by decide +kernel)
      refine lv_tableOut (tgt := 3617) hx hb dL_law_45 hout (by decide) ?_
      refine W.widen (k := 466 + 60 * i + 60) (n := 8097 + 240 * i + 240) (by omega) (by omega) ?_
      exact hIH _ _ _ _ _ _ _ _ _ _ hW (hR.mono (by omega) (by omega)) hS hl
end LLOOP
