/-! DECODING BY BYTES -/
def cb (A : ByteArray) (p n : Nat) : Prop := ∃ h : p < A.size, A[p].toNat = n
theorem cb_u1 {A : ByteArray} {p n : Nat} (h : cb A p n) : (Reader.u1 : Reader DecodeError Nat) A p = .ok (n, p + 1) := by
  obtain ⟨h1, h2⟩ := h
  show (dite (p < A.size) (fun h => (do set (p + 1); pure A[p].toNat : Reader DecodeError Nat)) (fun _ => throw (HasTruncated.truncated p)) : Reader DecodeError Nat) A p = _
  rw [dif_pos h1]
  show Except.ok (A[p].toNat, p + 1) = _
  rw [h2]
theorem cb_b {A : ByteArray} {p n : Nat} {α : Type} {f : Nat → Reader DecodeError α} (h : cb A p n) : ((Reader.u1 : Reader DecodeError Nat) >>= f) A p = f n A (p + 1) := by
  rw [show ((Reader.u1 : Reader DecodeError Nat) >>= f) A p = Except.bind ((Reader.u1 : Reader DecodeError Nat) A p) (fun x => f x.1 A x.2) from rfl, cb_u1 h]
  rfl
theorem cb_u2 {A : ByteArray} {p a b v : Nat} (h : cb A p a) (h1 : cb A (p + 1) b) (hv : a * 256 + b = v) : (Reader.u2 : Reader DecodeError Nat) A p = .ok (v, p + 1 + 1) := by
  subst hv
  exact (cb_b h).trans (cb_b h1)
theorem cb_s1 {A : ByteArray} {p a : Nat} {v : Int} (h : cb A p a) (hv : Reader.signed 8 a = v) : (Reader.s1 : Reader DecodeError Int) A p = .ok (v, p + 1) := by
  subst hv
  rw [show (Reader.s1 : Reader DecodeError Int) A p = Except.bind ((Reader.u1 : Reader DecodeError Nat) A p) (fun x => .ok (Reader.signed 8 x.1, x.2)) from rfl, cb_u1 h]
  rfl
theorem cb_s2 {A : ByteArray} {p a b : Nat} {v : Int} (h : cb A p a) (h1 : cb A (p + 1) b) (hv : Reader.signed 16 (a * 256 + b) = v) : (Reader.s2 : Reader DecodeError Int) A p = .ok (v, p + 1 + 1) := by
  subst hv
  rw [show (Reader.s2 : Reader DecodeError Int) A p = Except.bind ((Reader.u2 : Reader DecodeError Nat) A p) (fun x => .ok (Reader.signed 16 x.1, x.2)) from rfl, cb_u2 h h1 rfl]
  rfl
theorem cb_bu2 {A : ByteArray} {p v q : Nat} {α : Type} {f : Nat → Reader DecodeError α} (h : (Reader.u2 : Reader DecodeError Nat) A p = .ok (v, q)) : ((Reader.u2 : Reader DecodeError Nat) >>= f) A p = f v A q := by
  rw [show ((Reader.u2 : Reader DecodeError Nat) >>= f) A p = Except.bind ((Reader.u2 : Reader DecodeError Nat) A p) (fun x => f x.1 A x.2) from rfl, h]
  rfl
theorem cb_bi {A : ByteArray} {p q : Nat} {v : Int} {r : Reader DecodeError Int} {α : Type} {f : Int → Reader DecodeError α} (h : r A p = .ok (v, q)) : (r >>= f) A p = f v A q := by
  rw [show (r >>= f) A p = Except.bind (r A p) (fun x => f x.1 A x.2) from rfl, h]
  rfl
theorem cb_dec {A : ByteArray} {pc nx k : Nat} {ins : Instr} (h : (Decoder.instr pc) A pc = .ok (ins, nx)) (hk : nx - pc = k) : decode A pc = .ok (ins, k) := by
  subst hk
  unfold decode
  rw [show (Decoder.instr pc).runAt A pc = .ok (ins, nx) from h]
  rfl
theorem cb_1 (p : Nat) : p + 1 - p = 1 := Nat.add_sub_cancel_left p 1
theorem cb_2 (p : Nat) : p + 1 + 1 - p = 2 := Nat.add_sub_cancel_left p 2
theorem cb_3 (p : Nat) : p + 1 + 1 + 1 - p = 3 := Nat.add_sub_cancel_left p 3
theorem cb_at {L S : List UInt8} {p j n : Nat} {x : UInt8} (h : L[p]? = S[j]?) (hx : S[j]? = some x) (hn : x.toNat = n) : cb ⟨⟨L⟩⟩ p n := by
  rw [hx] at h
  obtain ⟨h1, h2⟩ := List.getElem?_eq_some_iff.mp h
  refine ⟨h1, ?_⟩
  show (L[p]'h1).toNat = n
  rw [h2, hn]
theorem cb_nx {L S T C : List UInt8} {a b : Nat} (hS : S = C ++ T) (hc : C.length = 32) (hb : a + 32 = b) (h : ∀ j : Nat, L[a + j]? = S[j]?) : ∀ j : Nat, L[b + j]? = T[j]? := fun j => by
  subst hb
  rw [Nat.add_assoc, h (32 + j), hS, List.getElem?_append_right (by omega), hc, Nat.add_sub_cancel_left]
def cS_114 : List UInt8 := []
def cC_113 : List UInt8 := [3, 132, 5, 7, 167, 241, 248, 4, 172]
def cS_113 : List UInt8 := cC_113 ++ cS_114
def cC_112 : List UInt8 := [54, 7, 44, 182, 0, 204, 21, 6, 159, 0, 5, 3, 172, 21, 6, 154, 0, 15, 45, 3, 47, 21, 7, 133, 148, 153, 0, 5, 3, 172, 167, 0]
def cS_112 : List UInt8 := cC_112 ++ cS_113
def cC_111 : List UInt8 := [182, 1, 142, 159, 0, 62, 3, 172, 43, 182, 1, 143, 44, 182, 1, 146, 159, 0, 49, 3, 172, 43, 45, 184, 1, 147, 54, 6, 44, 182, 1, 149]
def cS_111 : List UInt8 := cC_111 ++ cS_112
def cC_110 : List UInt8 := [21, 6, 159, 0, 5, 3, 172, 21, 6, 154, 0, 15, 45, 3, 47, 21, 7, 133, 148, 153, 0, 5, 3, 172, 167, 0, 73, 43, 182, 1, 139, 44]
def cS_110 : List UInt8 := cC_110 ++ cS_111
def cC_109 : List UInt8 := [45, 3, 47, 21, 7, 133, 148, 153, 0, 5, 3, 172, 167, 0, 117, 43, 45, 184, 1, 136, 54, 6, 44, 182, 1, 138, 54, 7, 44, 182, 0, 204]
def cS_109 : List UInt8 := cC_109 ++ cS_110
def cC_108 : List UInt8 := [167, 0, 161, 43, 45, 184, 1, 133, 54, 6, 44, 182, 1, 135, 54, 7, 44, 182, 0, 204, 21, 6, 159, 0, 5, 3, 172, 21, 6, 154, 0, 15]
def cS_108 : List UInt8 := cC_108 ++ cS_109
def cC_107 : List UInt8 := [1, 132, 54, 7, 44, 182, 0, 204, 21, 6, 159, 0, 5, 3, 172, 21, 6, 154, 0, 15, 45, 3, 47, 21, 7, 133, 148, 153, 0, 5, 3, 172]
def cS_107 : List UInt8 := cC_107 ++ cS_108
def cC_106 : List UInt8 := [5, 3, 172, 21, 6, 154, 0, 15, 45, 3, 47, 21, 7, 133, 148, 153, 0, 5, 3, 172, 167, 0, 205, 43, 45, 184, 1, 130, 54, 6, 44, 182]
def cS_106 : List UInt8 := cC_106 ++ cS_107
def cC_105 : List UInt8 := [7, 133, 148, 153, 0, 5, 3, 172, 167, 0, 249, 43, 45, 184, 1, 127, 54, 6, 44, 182, 1, 129, 54, 7, 44, 182, 0, 204, 21, 6, 159, 0]
def cS_105 : List UInt8 := cC_105 ++ cS_106
def cC_104 : List UInt8 := [45, 184, 1, 124, 54, 6, 44, 182, 1, 126, 54, 7, 44, 182, 0, 204, 21, 6, 159, 0, 5, 3, 172, 21, 6, 154, 0, 15, 45, 3, 47, 21]
def cS_104 : List UInt8 := cC_104 ++ cS_105
def cC_103 : List UInt8 := [44, 182, 0, 204, 21, 6, 159, 0, 5, 3, 172, 21, 6, 154, 0, 15, 45, 3, 47, 21, 7, 133, 148, 153, 0, 5, 3, 172, 167, 1, 37, 43]
def cS_103 : List UInt8 := cC_103 ++ cS_104
def cC_102 : List UInt8 := [6, 154, 0, 15, 45, 3, 47, 21, 7, 133, 148, 153, 0, 5, 3, 172, 167, 1, 81, 43, 45, 184, 1, 121, 54, 6, 44, 182, 1, 123, 54, 7]
def cS_102 : List UInt8 := cC_102 ++ cS_103
def cC_101 : List UInt8 := [0, 5, 3, 172, 167, 1, 125, 43, 45, 184, 1, 117, 54, 6, 44, 182, 1, 120, 54, 7, 44, 182, 0, 204, 21, 6, 159, 0, 5, 3, 172, 21]
def cS_101 : List UInt8 := cC_101 ++ cS_102
def cC_100 : List UInt8 := [96, 46, 146, 182, 1, 116, 54, 7, 44, 182, 0, 204, 21, 6, 159, 0, 5, 3, 172, 21, 6, 154, 0, 15, 45, 3, 47, 21, 7, 133, 148, 153]
def cS_100 : List UInt8 := cC_100 ++ cS_101
def cC_99 : List UInt8 := [47, 21, 7, 133, 148, 153, 0, 5, 3, 172, 167, 1, 183, 43, 42, 21, 5, 4, 96, 46, 146, 45, 184, 1, 113, 54, 6, 44, 42, 21, 5, 4]
def cS_99 : List UInt8 := cC_99 ++ cS_100
def cC_98 : List UInt8 := [54, 6, 44, 42, 21, 5, 4, 96, 46, 182, 1, 112, 54, 7, 44, 182, 0, 204, 21, 6, 159, 0, 5, 3, 172, 21, 6, 154, 0, 15, 45, 3]
def cS_98 : List UInt8 := cC_98 ++ cS_99
def cC_97 : List UInt8 := [172, 21, 6, 154, 0, 15, 45, 3, 47, 21, 7, 133, 148, 153, 0, 5, 3, 172, 167, 1, 239, 43, 42, 21, 5, 4, 96, 46, 45, 184, 1, 110]
def cS_97 : List UInt8 := cC_97 ++ cS_98
def cC_96 : List UInt8 := [5, 4, 96, 46, 45, 184, 1, 107, 54, 6, 44, 42, 21, 5, 4, 96, 46, 182, 1, 109, 54, 7, 44, 182, 0, 204, 21, 6, 159, 0, 5, 3]
def cS_96 : List UInt8 := cC_96 ++ cS_97
def cC_95 : List UInt8 := [0, 204, 21, 6, 159, 0, 5, 3, 172, 21, 6, 154, 0, 15, 45, 3, 47, 21, 7, 133, 148, 153, 0, 5, 3, 172, 167, 2, 39, 43, 42, 21]
def cS_95 : List UInt8 := cC_95 ++ cS_96
def cC_94 : List UInt8 := [159, 2, 97, 3, 172, 43, 42, 21, 5, 4, 96, 46, 45, 184, 1, 104, 54, 6, 44, 42, 21, 5, 4, 96, 46, 182, 1, 106, 54, 7, 44, 182]
def cS_94 : List UInt8 := cC_94 ++ cS_95
def cC_93 : List UInt8 := [4, 3, 49, 25, 4, 3, 49, 151, 153, 0, 11, 23, 7, 23, 7, 149, 154, 0, 5, 3, 172, 167, 2, 108, 43, 182, 1, 99, 44, 182, 1, 103]
def cS_93 : List UInt8 := cC_93 ++ cS_94
def cC_92 : List UInt8 := [1, 98, 56, 7, 44, 182, 0, 204, 21, 6, 159, 0, 5, 3, 172, 21, 6, 154, 0, 36, 25, 4, 3, 49, 23, 7, 141, 151, 153, 0, 25, 25]
def cS_92 : List UInt8 := cC_92 ++ cS_93
def cC_91 : List UInt8 := [44, 182, 1, 90, 159, 2, 189, 3, 172, 43, 182, 1, 91, 44, 182, 1, 94, 159, 2, 176, 3, 172, 43, 25, 4, 184, 1, 95, 54, 6, 44, 182]
def cS_91 : List UInt8 := cC_91 ++ cS_92
def cC_90 : List UInt8 := [2, 226, 43, 182, 1, 79, 44, 182, 1, 82, 159, 2, 215, 3, 172, 43, 182, 1, 83, 44, 182, 1, 86, 159, 2, 202, 3, 172, 43, 182, 1, 87]
def cS_90 : List UInt8 := cC_90 ++ cS_91
def cC_89 : List UInt8 := [78, 54, 7, 44, 182, 0, 204, 21, 6, 159, 0, 5, 3, 172, 21, 6, 154, 0, 15, 45, 3, 47, 21, 7, 133, 148, 153, 0, 5, 3, 172, 167]
def cS_89 : List UInt8 := cC_89 ++ cS_90
def cC_88 : List UInt8 := [72, 44, 182, 1, 75, 159, 3, 28, 3, 172, 43, 42, 21, 5, 4, 96, 46, 45, 184, 1, 76, 54, 6, 44, 42, 21, 5, 4, 96, 46, 182, 1]
def cS_88 : List UInt8 := cC_88 ++ cS_89
def cC_87 : List UInt8 := [0, 204, 21, 6, 159, 0, 5, 3, 172, 21, 6, 154, 0, 15, 45, 3, 47, 21, 7, 133, 148, 153, 0, 5, 3, 172, 167, 3, 39, 43, 182, 1]
def cS_87 : List UInt8 := cC_87 ++ cS_88
def cC_86 : List UInt8 := [3, 172, 167, 3, 95, 43, 42, 21, 5, 4, 96, 46, 45, 184, 1, 69, 54, 6, 44, 42, 21, 5, 4, 96, 46, 182, 1, 71, 54, 7, 44, 182]
def cS_86 : List UInt8 := cC_86 ++ cS_87
def cC_85 : List UInt8 := [46, 182, 1, 68, 54, 7, 44, 182, 0, 204, 21, 6, 159, 0, 5, 3, 172, 21, 6, 154, 0, 15, 45, 3, 47, 21, 7, 133, 148, 153, 0, 5]
def cS_85 : List UInt8 := cC_85 ++ cS_86
def cC_84 : List UInt8 := [163, 43, 42, 21, 5, 4, 96, 46, 42, 21, 5, 5, 96, 46, 45, 184, 1, 66, 54, 6, 44, 42, 21, 5, 4, 96, 46, 42, 21, 5, 5, 96]
def cS_84 : List UInt8 := cC_84 ++ cS_85
def cC_83 : List UInt8 := [54, 7, 44, 182, 0, 204, 21, 6, 159, 0, 5, 3, 172, 21, 6, 154, 0, 15, 45, 3, 47, 21, 7, 133, 148, 153, 0, 5, 3, 172, 167, 3]
def cS_83 : List UInt8 := cC_83 ++ cS_84
def cC_82 : List UInt8 := [148, 153, 0, 5, 3, 172, 167, 3, 219, 43, 42, 21, 5, 4, 96, 46, 45, 184, 1, 63, 54, 6, 44, 42, 21, 5, 4, 96, 46, 182, 1, 65]
def cS_82 : List UInt8 := cC_82 ++ cS_83
def cC_81 : List UInt8 := [21, 5, 4, 96, 46, 182, 1, 62, 54, 7, 44, 182, 0, 204, 21, 6, 159, 0, 5, 3, 172, 21, 6, 154, 0, 15, 45, 3, 47, 21, 7, 133]
def cS_81 : List UInt8 := cC_81 ++ cS_82
def cC_80 : List UInt8 := [0, 15, 45, 3, 47, 21, 7, 133, 148, 153, 0, 5, 3, 172, 167, 4, 19, 43, 42, 21, 5, 4, 96, 46, 45, 184, 1, 60, 54, 6, 44, 42]
def cS_80 : List UInt8 := cC_80 ++ cS_81
def cC_79 : List UInt8 := [45, 184, 1, 57, 54, 6, 44, 42, 21, 5, 4, 96, 46, 182, 1, 59, 54, 7, 44, 182, 0, 204, 21, 6, 159, 0, 5, 3, 172, 21, 6, 154]
def cS_79 : List UInt8 := cC_79 ++ cS_80
def cC_78 : List UInt8 := [154, 0, 22, 45, 3, 47, 21, 7, 153, 0, 7, 10, 167, 0, 4, 9, 148, 153, 0, 5, 3, 172, 167, 4, 75, 43, 42, 21, 5, 4, 96, 46]
def cS_78 : List UInt8 := cC_78 ++ cS_79
def cC_77 : List UInt8 := [96, 46, 42, 21, 5, 5, 96, 46, 42, 21, 5, 6, 96, 46, 182, 1, 56, 54, 7, 44, 182, 0, 204, 21, 6, 159, 0, 5, 3, 172, 21, 6]
def cS_77 : List UInt8 := cC_77 ++ cS_78
def cC_76 : List UInt8 := [4, 162, 43, 42, 21, 5, 4, 96, 46, 42, 21, 5, 5, 96, 46, 42, 21, 5, 6, 96, 46, 45, 184, 1, 54, 54, 6, 44, 42, 21, 5, 4]
def cS_76 : List UInt8 := cC_76 ++ cS_77
def cC_75 : List UInt8 := [53, 54, 7, 44, 182, 0, 204, 21, 6, 159, 0, 5, 3, 172, 21, 6, 154, 0, 15, 45, 3, 47, 21, 7, 133, 148, 153, 0, 5, 3, 172, 167]
def cS_75 : List UInt8 := cC_75 ++ cS_76
def cC_74 : List UInt8 := [21, 5, 6, 96, 46, 45, 184, 1, 51, 54, 6, 44, 42, 21, 5, 4, 96, 46, 42, 21, 5, 5, 96, 46, 42, 21, 5, 6, 96, 46, 182, 1]
def cS_74 : List UInt8 := cC_74 ++ cS_75
def cC_73 : List UInt8 := [49, 151, 153, 0, 11, 24, 7, 24, 7, 151, 154, 0, 5, 3, 172, 167, 4, 242, 43, 42, 21, 5, 4, 96, 46, 42, 21, 5, 5, 96, 46, 42]
def cS_73 : List UInt8 := cC_73 ++ cS_74
def cC_72 : List UInt8 := [182, 0, 204, 21, 6, 159, 0, 5, 3, 172, 21, 6, 154, 0, 35, 25, 4, 3, 49, 24, 7, 151, 153, 0, 25, 25, 4, 3, 49, 25, 4, 3]
def cS_72 : List UInt8 := cC_72 ++ cS_73
def cC_71 : List UInt8 := [3, 172, 167, 5, 63, 43, 42, 21, 5, 4, 96, 46, 25, 4, 184, 1, 48, 54, 6, 44, 42, 21, 5, 4, 96, 46, 182, 1, 50, 57, 7, 44]
def cS_71 : List UInt8 := cC_71 ++ cS_72
def cC_70 : List UInt8 := [46, 182, 1, 47, 54, 7, 44, 182, 0, 204, 21, 6, 159, 0, 5, 3, 172, 21, 6, 154, 0, 15, 45, 3, 47, 21, 7, 133, 148, 153, 0, 5]
def cS_70 : List UInt8 := cC_70 ++ cS_71
def cC_69 : List UInt8 := [47, 21, 7, 133, 148, 153, 0, 5, 3, 172, 167, 5, 119, 43, 42, 21, 5, 4, 96, 46, 45, 184, 1, 45, 54, 6, 44, 42, 21, 5, 4, 96]
def cS_69 : List UInt8 := cC_69 ++ cS_70
def cC_68 : List UInt8 := [54, 6, 44, 42, 21, 5, 4, 96, 46, 182, 1, 44, 54, 7, 44, 182, 0, 204, 21, 6, 159, 0, 5, 3, 172, 21, 6, 154, 0, 15, 45, 3]
def cS_68 : List UInt8 := cC_68 ++ cS_69
def cC_67 : List UInt8 := [172, 21, 6, 154, 0, 15, 45, 3, 47, 21, 7, 133, 148, 153, 0, 5, 3, 172, 167, 5, 175, 43, 42, 21, 5, 4, 96, 46, 45, 184, 1, 42]
def cS_67 : List UInt8 := cC_67 ++ cS_68
def cC_66 : List UInt8 := [5, 4, 96, 46, 45, 184, 1, 39, 54, 6, 44, 42, 21, 5, 4, 96, 46, 182, 1, 41, 54, 7, 44, 182, 0, 204, 21, 6, 159, 0, 5, 3]
def cS_66 : List UInt8 := cC_66 ++ cS_67
def cC_65 : List UInt8 := [0, 204, 21, 6, 159, 0, 5, 3, 172, 21, 6, 154, 0, 15, 45, 3, 47, 21, 7, 133, 148, 153, 0, 5, 3, 172, 167, 5, 231, 43, 42, 21]
def cS_65 : List UInt8 := cC_65 ++ cS_66
def cC_64 : List UInt8 := [3, 172, 167, 6, 31, 43, 42, 21, 5, 4, 96, 46, 45, 184, 1, 36, 54, 6, 44, 42, 21, 5, 4, 96, 46, 182, 1, 38, 54, 7, 44, 182]
def cS_64 : List UInt8 := cC_64 ++ cS_65
def cC_63 : List UInt8 := [46, 182, 1, 35, 54, 7, 44, 182, 0, 204, 21, 6, 159, 0, 5, 3, 172, 21, 6, 154, 0, 15, 45, 3, 47, 21, 7, 133, 148, 153, 0, 5]
def cS_63 : List UInt8 := cC_63 ++ cS_64
def cC_62 : List UInt8 := [47, 21, 7, 133, 148, 153, 0, 5, 3, 172, 167, 6, 87, 43, 42, 21, 5, 4, 96, 46, 45, 184, 1, 33, 54, 6, 44, 42, 21, 5, 4, 96]
def cS_62 : List UInt8 := cC_62 ++ cS_63
def cC_61 : List UInt8 := [4, 96, 46, 42, 21, 5, 5, 96, 46, 182, 1, 32, 54, 7, 44, 182, 0, 204, 21, 6, 159, 0, 5, 3, 172, 21, 6, 154, 0, 15, 45, 3]
def cS_61 : List UInt8 := cC_61 ++ cS_62
def cC_60 : List UInt8 := [148, 153, 0, 5, 3, 172, 167, 6, 155, 43, 42, 21, 5, 4, 96, 46, 42, 21, 5, 5, 96, 46, 45, 184, 1, 29, 54, 6, 44, 42, 21, 5]
def cS_60 : List UInt8 := cC_60 ++ cS_61
def cC_59 : List UInt8 := [21, 5, 4, 96, 46, 182, 1, 28, 54, 7, 44, 182, 0, 204, 21, 6, 159, 0, 5, 3, 172, 21, 6, 154, 0, 15, 45, 3, 47, 21, 7, 133]
def cS_59 : List UInt8 := cC_59 ++ cS_60
def cC_58 : List UInt8 := [0, 15, 45, 3, 47, 21, 7, 133, 148, 153, 0, 5, 3, 172, 167, 6, 211, 43, 42, 21, 5, 4, 96, 46, 45, 184, 1, 26, 54, 6, 44, 42]
def cS_58 : List UInt8 := cC_58 ++ cS_59
def cC_57 : List UInt8 := [45, 184, 1, 23, 54, 6, 44, 42, 21, 5, 4, 96, 46, 182, 1, 25, 54, 7, 44, 182, 0, 204, 21, 6, 159, 0, 5, 3, 172, 21, 6, 154]
def cS_57 : List UInt8 := cC_57 ++ cS_58
def cC_56 : List UInt8 := [154, 0, 22, 45, 3, 47, 21, 7, 153, 0, 7, 10, 167, 0, 4, 9, 148, 153, 0, 5, 3, 172, 167, 7, 11, 43, 42, 21, 5, 4, 96, 46]
def cS_56 : List UInt8 := cC_56 ++ cS_57
def cC_55 : List UInt8 := [46, 45, 184, 1, 20, 54, 6, 44, 42, 21, 5, 4, 96, 46, 182, 1, 22, 54, 7, 44, 182, 0, 204, 21, 6, 159, 0, 5, 3, 172, 21, 6]
def cS_55 : List UInt8 := cC_55 ++ cS_56
def cC_54 : List UInt8 := [6, 154, 0, 22, 45, 3, 47, 21, 7, 153, 0, 7, 10, 167, 0, 4, 9, 148, 153, 0, 5, 3, 172, 167, 7, 74, 43, 42, 21, 5, 4, 96]
def cS_54 : List UInt8 := cC_54 ++ cS_55
def cC_53 : List UInt8 := [96, 46, 45, 184, 1, 17, 54, 6, 44, 42, 21, 5, 4, 96, 46, 182, 1, 19, 54, 7, 44, 182, 0, 204, 21, 6, 159, 0, 5, 3, 172, 21]
def cS_53 : List UInt8 := cC_53 ++ cS_54
def cC_52 : List UInt8 := [21, 6, 154, 0, 22, 45, 3, 47, 21, 7, 153, 0, 7, 10, 167, 0, 4, 9, 148, 153, 0, 5, 3, 172, 167, 7, 137, 43, 42, 21, 5, 4]
def cS_52 : List UInt8 := cC_52 ++ cS_53
def cC_51 : List UInt8 := [4, 96, 46, 45, 184, 1, 14, 54, 6, 44, 42, 21, 5, 4, 96, 46, 182, 1, 16, 54, 7, 44, 182, 0, 204, 21, 6, 159, 0, 5, 3, 172]
def cS_51 : List UInt8 := cC_51 ++ cS_52
def cC_50 : List UInt8 := [204, 21, 6, 159, 0, 5, 3, 172, 21, 6, 154, 0, 15, 45, 3, 47, 21, 7, 133, 148, 153, 0, 5, 3, 172, 167, 7, 200, 43, 42, 21, 5]
def cS_50 : List UInt8 := cC_50 ++ cS_51
def cC_49 : List UInt8 := [172, 167, 8, 0, 43, 42, 21, 5, 4, 96, 46, 45, 184, 1, 11, 54, 6, 44, 42, 21, 5, 4, 96, 46, 182, 1, 13, 54, 7, 44, 182, 0]
def cS_49 : List UInt8 := cC_49 ++ cS_50
def cC_48 : List UInt8 := [182, 1, 10, 54, 7, 44, 182, 0, 204, 21, 6, 159, 0, 5, 3, 172, 21, 6, 154, 0, 15, 45, 3, 47, 21, 7, 133, 148, 153, 0, 5, 3]
def cS_48 : List UInt8 := cC_48 ++ cS_49
def cC_47 : List UInt8 := [21, 7, 133, 148, 153, 0, 5, 3, 172, 167, 8, 56, 43, 42, 21, 5, 4, 96, 46, 45, 184, 1, 8, 54, 6, 44, 42, 21, 5, 4, 96, 46]
def cS_47 : List UInt8 := cC_47 ++ cS_48
def cC_46 : List UInt8 := [6, 44, 42, 21, 5, 4, 96, 46, 182, 1, 7, 54, 7, 44, 182, 0, 204, 21, 6, 159, 0, 5, 3, 172, 21, 6, 154, 0, 15, 45, 3, 47]
def cS_46 : List UInt8 := cC_46 ++ cS_47
def cC_45 : List UInt8 := [47, 21, 7, 153, 0, 7, 10, 167, 0, 4, 9, 148, 153, 0, 5, 3, 172, 167, 8, 112, 43, 42, 21, 5, 4, 96, 46, 45, 184, 1, 5, 54]
def cS_45 : List UInt8 := cC_45 ++ cS_46
def cC_44 : List UInt8 := [54, 6, 44, 42, 21, 5, 4, 96, 46, 182, 1, 4, 54, 7, 44, 182, 0, 204, 21, 6, 159, 0, 5, 3, 172, 21, 6, 154, 0, 22, 45, 3]
def cS_44 : List UInt8 := cC_44 ++ cS_45
def cC_43 : List UInt8 := [25, 4, 3, 49, 151, 153, 0, 11, 24, 7, 24, 7, 151, 154, 0, 5, 3, 172, 167, 8, 175, 43, 42, 21, 5, 4, 96, 46, 45, 184, 1, 2]
def cS_43 : List UInt8 := cC_43 ++ cS_44
def cC_42 : List UInt8 := [57, 7, 44, 182, 0, 204, 21, 6, 159, 0, 5, 3, 172, 21, 6, 154, 0, 35, 25, 4, 3, 49, 24, 7, 151, 153, 0, 25, 25, 4, 3, 49]
def cS_42 : List UInt8 := cC_42 ++ cS_43
def cC_41 : List UInt8 := [153, 0, 5, 3, 172, 167, 8, 252, 43, 42, 21, 5, 4, 96, 46, 25, 4, 184, 0, 254, 54, 6, 44, 42, 21, 5, 4, 96, 46, 182, 1, 1]
def cS_41 : List UInt8 := cC_41 ++ cS_42
def cC_40 : List UInt8 := [5, 4, 96, 46, 182, 0, 253, 54, 7, 44, 182, 0, 204, 21, 6, 159, 0, 5, 3, 172, 21, 6, 154, 0, 15, 45, 3, 47, 21, 7, 133, 148]
def cS_40 : List UInt8 := cC_40 ++ cS_41
def cC_39 : List UInt8 := [15, 45, 3, 47, 21, 7, 133, 148, 153, 0, 5, 3, 172, 167, 9, 52, 43, 42, 21, 5, 4, 96, 46, 45, 184, 0, 251, 54, 6, 44, 42, 21]
def cS_39 : List UInt8 := cC_39 ++ cS_40
def cC_38 : List UInt8 := [184, 0, 248, 54, 6, 44, 42, 21, 5, 4, 96, 46, 182, 0, 250, 54, 7, 44, 182, 0, 204, 21, 6, 159, 0, 5, 3, 172, 21, 6, 154, 0]
def cS_38 : List UInt8 := cC_38 ++ cS_39
def cC_37 : List UInt8 := [0, 22, 45, 3, 47, 21, 7, 153, 0, 7, 10, 167, 0, 4, 9, 148, 153, 0, 5, 3, 172, 167, 9, 108, 43, 42, 21, 5, 4, 96, 46, 45]
def cS_37 : List UInt8 := cC_37 ++ cS_38
def cC_36 : List UInt8 := [45, 184, 0, 245, 54, 6, 44, 42, 21, 5, 4, 96, 46, 182, 0, 247, 54, 7, 44, 182, 0, 204, 21, 6, 159, 0, 5, 3, 172, 21, 6, 154]
def cS_36 : List UInt8 := cC_36 ++ cS_37
def cC_35 : List UInt8 := [159, 0, 5, 3, 172, 21, 6, 154, 0, 15, 45, 3, 47, 21, 7, 133, 148, 153, 0, 5, 3, 172, 167, 9, 171, 43, 42, 21, 5, 4, 96, 46]
def cS_35 : List UInt8 := cC_35 ++ cS_36
def cC_34 : List UInt8 := [227, 43, 42, 21, 5, 4, 96, 46, 45, 184, 0, 242, 54, 6, 44, 42, 21, 5, 4, 96, 46, 182, 0, 244, 54, 7, 44, 182, 0, 204, 21, 6]
def cS_34 : List UInt8 := cC_34 ++ cS_35
def cC_33 : List UInt8 := [54, 7, 44, 182, 0, 204, 21, 6, 159, 0, 5, 3, 172, 21, 6, 154, 0, 15, 45, 3, 47, 21, 7, 133, 148, 153, 0, 5, 3, 172, 167, 9]
def cS_33 : List UInt8 := cC_33 ++ cS_34
def cC_32 : List UInt8 := [148, 153, 0, 5, 3, 172, 167, 10, 27, 43, 42, 21, 5, 4, 96, 46, 45, 184, 0, 239, 54, 6, 44, 42, 21, 5, 4, 96, 46, 182, 0, 241]
def cS_32 : List UInt8 := cC_32 ++ cS_33
def cC_31 : List UInt8 := [21, 5, 4, 96, 46, 182, 0, 238, 54, 7, 44, 182, 0, 204, 21, 6, 159, 0, 5, 3, 172, 21, 6, 154, 0, 15, 45, 3, 47, 21, 7, 133]
def cS_31 : List UInt8 := cC_31 ++ cS_32
def cC_30 : List UInt8 := [0, 15, 45, 3, 47, 21, 7, 133, 148, 153, 0, 5, 3, 172, 167, 10, 83, 43, 42, 21, 5, 4, 96, 46, 45, 184, 0, 236, 54, 6, 44, 42]
def cS_30 : List UInt8 := cC_30 ++ cS_31
def cC_29 : List UInt8 := [45, 184, 0, 233, 54, 6, 44, 42, 21, 5, 4, 96, 46, 182, 0, 235, 54, 7, 44, 182, 0, 204, 21, 6, 159, 0, 5, 3, 172, 21, 6, 154]
def cS_29 : List UInt8 := cC_29 ++ cS_30
def cC_28 : List UInt8 := [159, 0, 5, 3, 172, 21, 6, 154, 0, 15, 45, 3, 47, 21, 7, 133, 148, 153, 0, 5, 3, 172, 167, 10, 139, 43, 42, 21, 5, 4, 96, 46]
def cS_28 : List UInt8 := cC_28 ++ cS_29
def cC_27 : List UInt8 := [195, 43, 42, 21, 5, 4, 96, 46, 45, 184, 0, 230, 54, 6, 44, 42, 21, 5, 4, 96, 46, 182, 0, 232, 54, 7, 44, 182, 0, 204, 21, 6]
def cS_27 : List UInt8 := cC_27 ++ cS_28
def cC_26 : List UInt8 := [54, 7, 44, 182, 0, 204, 21, 6, 159, 0, 5, 3, 172, 21, 6, 154, 0, 15, 45, 3, 47, 21, 7, 133, 148, 153, 0, 5, 3, 172, 167, 10]
def cS_26 : List UInt8 := cC_26 ++ cS_27
def cC_25 : List UInt8 := [148, 153, 0, 5, 3, 172, 167, 10, 251, 43, 42, 21, 5, 4, 96, 46, 45, 184, 0, 227, 54, 6, 44, 42, 21, 5, 4, 96, 46, 182, 0, 229]
def cS_25 : List UInt8 := cC_25 ++ cS_26
def cC_24 : List UInt8 := [21, 5, 4, 96, 46, 182, 0, 226, 54, 7, 44, 182, 0, 204, 21, 6, 159, 0, 5, 3, 172, 21, 6, 154, 0, 15, 45, 3, 47, 21, 7, 133]
def cS_24 : List UInt8 := cC_24 ++ cS_25
def cC_23 : List UInt8 := [153, 0, 7, 10, 167, 0, 4, 9, 148, 153, 0, 5, 3, 172, 167, 11, 51, 43, 42, 21, 5, 4, 96, 46, 45, 184, 0, 224, 54, 6, 44, 42]
def cS_23 : List UInt8 := cC_23 ++ cS_24
def cC_22 : List UInt8 := [42, 21, 5, 4, 96, 46, 182, 0, 223, 54, 7, 44, 182, 0, 204, 21, 6, 159, 0, 5, 3, 172, 21, 6, 154, 0, 22, 45, 3, 47, 21, 7]
def cS_22 : List UInt8 := cC_22 ++ cS_23
def cC_21 : List UInt8 := [154, 0, 15, 45, 3, 47, 21, 7, 133, 148, 153, 0, 5, 3, 172, 167, 11, 114, 43, 42, 21, 5, 4, 96, 46, 45, 184, 0, 221, 54, 6, 44]
def cS_21 : List UInt8 := cC_21 ++ cS_22
def cC_20 : List UInt8 := [96, 46, 42, 21, 5, 5, 96, 46, 42, 21, 5, 6, 96, 46, 182, 0, 220, 54, 7, 44, 182, 0, 204, 21, 6, 159, 0, 5, 3, 172, 21, 6]
def cS_20 : List UInt8 := cC_20 ++ cS_21
def cC_19 : List UInt8 := [11, 194, 43, 42, 21, 5, 4, 96, 46, 42, 21, 5, 5, 96, 46, 42, 21, 5, 6, 96, 46, 45, 184, 0, 217, 54, 6, 44, 42, 21, 5, 4]
def cS_19 : List UInt8 := cC_19 ++ cS_20
def cC_18 : List UInt8 := [216, 54, 7, 44, 182, 0, 204, 21, 6, 159, 0, 5, 3, 172, 21, 6, 154, 0, 15, 45, 3, 47, 21, 7, 133, 148, 153, 0, 5, 3, 172, 167]
def cS_18 : List UInt8 := cC_18 ++ cS_19
def cC_17 : List UInt8 := [133, 148, 153, 0, 5, 3, 172, 167, 11, 250, 43, 42, 21, 5, 4, 96, 46, 45, 184, 0, 214, 54, 6, 44, 42, 21, 5, 4, 96, 46, 182, 0]
def cS_17 : List UInt8 := cC_17 ++ cS_18
def cC_16 : List UInt8 := [21, 5, 16, 6, 96, 46, 182, 0, 213, 54, 7, 44, 182, 0, 204, 21, 6, 159, 0, 5, 3, 172, 21, 6, 154, 0, 15, 45, 3, 47, 21, 7]
def cS_16 : List UInt8 := cC_16 ++ cS_17
def cC_15 : List UInt8 := [21, 5, 5, 96, 46, 42, 21, 5, 6, 96, 46, 42, 21, 5, 7, 96, 46, 42, 21, 5, 8, 96, 46, 153, 0, 7, 4, 167, 0, 4, 3, 42]
def cS_15 : List UInt8 := cC_15 ++ cS_16
def cC_14 : List UInt8 := [8, 96, 46, 153, 0, 7, 4, 167, 0, 4, 3, 42, 21, 5, 16, 6, 96, 46, 45, 184, 0, 210, 54, 6, 44, 42, 21, 5, 4, 96, 46, 42]
def cS_14 : List UInt8 := cC_14 ++ cS_15
def cC_13 : List UInt8 := [172, 167, 12, 128, 43, 42, 21, 5, 4, 96, 46, 42, 21, 5, 5, 96, 46, 42, 21, 5, 6, 96, 46, 42, 21, 5, 7, 96, 46, 42, 21, 5]
def cS_13 : List UInt8 := cC_13 ++ cS_14
def cC_12 : List UInt8 := [182, 0, 209, 54, 7, 44, 182, 0, 204, 21, 6, 159, 0, 5, 3, 172, 21, 6, 154, 0, 15, 45, 3, 47, 21, 7, 133, 148, 153, 0, 5, 3]
def cS_12 : List UInt8 := cC_12 ++ cS_13
def cC_11 : List UInt8 := [21, 7, 133, 148, 153, 0, 5, 3, 172, 167, 12, 184, 43, 42, 21, 5, 4, 96, 46, 45, 184, 0, 207, 54, 6, 44, 42, 21, 5, 4, 96, 46]
def cS_11 : List UInt8 := cC_11 ++ cS_12
def cC_10 : List UInt8 := [6, 44, 42, 21, 5, 4, 96, 46, 182, 0, 203, 54, 7, 44, 182, 0, 204, 21, 6, 159, 0, 5, 3, 172, 21, 6, 154, 0, 15, 45, 3, 47]
def cS_10 : List UInt8 := cC_10 ++ cS_11
def cC_9 : List UInt8 := [0, 0, 13, 86, 0, 0, 13, 130, 0, 0, 13, 174, 0, 0, 13, 187, 0, 0, 13, 200, 43, 42, 21, 5, 4, 96, 46, 45, 184, 0, 198, 54]
def cS_9 : List UInt8 := cC_9 ++ cS_10
def cC_8 : List UInt8 := [0, 0, 11, 208, 0, 0, 12, 8, 0, 0, 12, 64, 0, 0, 12, 122, 0, 0, 12, 166, 0, 0, 12, 210, 0, 0, 12, 254, 0, 0, 13, 42]
def cS_8 : List UInt8 := cC_8 ++ cS_9
def cC_7 : List UInt8 := [0, 0, 10, 221, 0, 0, 11, 21, 0, 0, 11, 34, 0, 0, 11, 47, 0, 0, 11, 60, 0, 0, 11, 73, 0, 0, 11, 139, 0, 0, 11, 152]
def cS_7 : List UInt8 := cC_7 ++ cS_8
def cC_6 : List UInt8 := [0, 0, 9, 5, 0, 0, 9, 85, 0, 0, 9, 172, 0, 0, 9, 228, 0, 0, 10, 28, 0, 0, 10, 84, 0, 0, 10, 152, 0, 0, 10, 208]
def cS_6 : List UInt8 := cC_6 ++ cS_7
def cC_5 : List UInt8 := [0, 0, 7, 36, 0, 0, 7, 92, 0, 0, 7, 160, 0, 0, 7, 216, 0, 0, 8, 16, 0, 0, 8, 72, 0, 0, 8, 128, 0, 0, 8, 184]
def cS_5 : List UInt8 := cC_5 ++ cS_6
def cC_4 : List UInt8 := [0, 0, 5, 72, 0, 0, 5, 135, 0, 0, 5, 191, 0, 0, 5, 247, 0, 0, 6, 47, 0, 0, 6, 110, 0, 0, 6, 173, 0, 0, 6, 236]
def cS_4 : List UInt8 := cC_4 ++ cS_5
def cC_3 : List UInt8 := [0, 0, 3, 108, 0, 0, 3, 164, 0, 0, 3, 220, 0, 0, 4, 20, 0, 0, 4, 76, 0, 0, 4, 139, 0, 0, 4, 195, 0, 0, 4, 251]
def cS_3 : List UInt8 := cC_3 ++ cS_4
def cC_2 : List UInt8 := [0, 0, 1, 63, 0, 0, 1, 119, 0, 0, 1, 253, 0, 0, 2, 53, 0, 0, 2, 133, 0, 0, 2, 196, 0, 0, 2, 252, 0, 0, 3, 52]
def cS_2 : List UInt8 := cC_2 ++ cS_3
def cC_1 : List UInt8 := [16, 7, 100, 163, 14, 4, 42, 21, 5, 46, 16, 63, 126, 170, 0, 0, 0, 0, 13, 244, 0, 0, 0, 0, 0, 0, 0, 61, 0, 0, 1, 7]
def cS_1 : List UInt8 := cC_1 ++ cS_2
def cC_0 : List UInt8 := [187, 0, 8, 89, 183, 0, 194, 76, 187, 0, 195, 89, 183, 0, 197, 77, 4, 188, 11, 78, 4, 188, 7, 58, 4, 3, 54, 5, 21, 5, 42, 190]
def cS_0 : List UInt8 := cC_0 ++ cS_1
set_option maxRecDepth 100000 in
theorem cL_li : cL_law.data.toList = cS_0 := by decide +kernel
theorem cL_eq : cL_law = ⟨⟨cS_0⟩⟩ := congrArg (fun l => (ByteArray.mk (Array.mk l))) cL_li
theorem cb_law {p n : Nat} (h : cb ⟨⟨cS_0⟩⟩ p n) : cb cL_law p n := by
  rw [cL_eq]; exact h
theorem ct_0 : ∀ j : Nat, cS_0[32 * 0 + j]? = cS_0[j]? := fun j => by rw [show 32 * 0 + j = j by omega]
theorem ct_1 : ∀ j : Nat, cS_0[32 * 1 + j]? = cS_1[j]? := cb_nx (C := cC_0) rfl rfl rfl ct_0
theorem ct_2 : ∀ j : Nat, cS_0[32 * 2 + j]? = cS_2[j]? := cb_nx (C := cC_1) rfl rfl rfl ct_1
theorem ct_3 : ∀ j : Nat, cS_0[32 * 3 + j]? = cS_3[j]? := cb_nx (C := cC_2) rfl rfl rfl ct_2
theorem ct_4 : ∀ j : Nat, cS_0[32 * 4 + j]? = cS_4[j]? := cb_nx (C := cC_3) rfl rfl rfl ct_3
theorem ct_5 : ∀ j : Nat, cS_0[32 * 5 + j]? = cS_5[j]? := cb_nx (C := cC_4) rfl rfl rfl ct_4
theorem ct_6 : ∀ j : Nat, cS_0[32 * 6 + j]? = cS_6[j]? := cb_nx (C := cC_5) rfl rfl rfl ct_5
theorem ct_7 : ∀ j : Nat, cS_0[32 * 7 + j]? = cS_7[j]? := cb_nx (C := cC_6) rfl rfl rfl ct_6
theorem ct_8 : ∀ j : Nat, cS_0[32 * 8 + j]? = cS_8[j]? := cb_nx (C := cC_7) rfl rfl rfl ct_7
theorem ct_9 : ∀ j : Nat, cS_0[32 * 9 + j]? = cS_9[j]? := cb_nx (C := cC_8) rfl rfl rfl ct_8
theorem ct_10 : ∀ j : Nat, cS_0[32 * 10 + j]? = cS_10[j]? := cb_nx (C := cC_9) rfl rfl rfl ct_9
theorem ct_11 : ∀ j : Nat, cS_0[32 * 11 + j]? = cS_11[j]? := cb_nx (C := cC_10) rfl rfl rfl ct_10
theorem ct_12 : ∀ j : Nat, cS_0[32 * 12 + j]? = cS_12[j]? := cb_nx (C := cC_11) rfl rfl rfl ct_11
theorem ct_13 : ∀ j : Nat, cS_0[32 * 13 + j]? = cS_13[j]? := cb_nx (C := cC_12) rfl rfl rfl ct_12
theorem ct_14 : ∀ j : Nat, cS_0[32 * 14 + j]? = cS_14[j]? := cb_nx (C := cC_13) rfl rfl rfl ct_13
theorem ct_15 : ∀ j : Nat, cS_0[32 * 15 + j]? = cS_15[j]? := cb_nx (C := cC_14) rfl rfl rfl ct_14
theorem ct_16 : ∀ j : Nat, cS_0[32 * 16 + j]? = cS_16[j]? := cb_nx (C := cC_15) rfl rfl rfl ct_15
theorem ct_17 : ∀ j : Nat, cS_0[32 * 17 + j]? = cS_17[j]? := cb_nx (C := cC_16) rfl rfl rfl ct_16
theorem ct_18 : ∀ j : Nat, cS_0[32 * 18 + j]? = cS_18[j]? := cb_nx (C := cC_17) rfl rfl rfl ct_17
theorem ct_19 : ∀ j : Nat, cS_0[32 * 19 + j]? = cS_19[j]? := cb_nx (C := cC_18) rfl rfl rfl ct_18
theorem ct_20 : ∀ j : Nat, cS_0[32 * 20 + j]? = cS_20[j]? := cb_nx (C := cC_19) rfl rfl rfl ct_19
theorem ct_21 : ∀ j : Nat, cS_0[32 * 21 + j]? = cS_21[j]? := cb_nx (C := cC_20) rfl rfl rfl ct_20
theorem ct_22 : ∀ j : Nat, cS_0[32 * 22 + j]? = cS_22[j]? := cb_nx (C := cC_21) rfl rfl rfl ct_21
theorem ct_23 : ∀ j : Nat, cS_0[32 * 23 + j]? = cS_23[j]? := cb_nx (C := cC_22) rfl rfl rfl ct_22
theorem ct_24 : ∀ j : Nat, cS_0[32 * 24 + j]? = cS_24[j]? := cb_nx (C := cC_23) rfl rfl rfl ct_23
theorem ct_25 : ∀ j : Nat, cS_0[32 * 25 + j]? = cS_25[j]? := cb_nx (C := cC_24) rfl rfl rfl ct_24
theorem ct_26 : ∀ j : Nat, cS_0[32 * 26 + j]? = cS_26[j]? := cb_nx (C := cC_25) rfl rfl rfl ct_25
theorem ct_27 : ∀ j : Nat, cS_0[32 * 27 + j]? = cS_27[j]? := cb_nx (C := cC_26) rfl rfl rfl ct_26
theorem ct_28 : ∀ j : Nat, cS_0[32 * 28 + j]? = cS_28[j]? := cb_nx (C := cC_27) rfl rfl rfl ct_27
theorem ct_29 : ∀ j : Nat, cS_0[32 * 29 + j]? = cS_29[j]? := cb_nx (C := cC_28) rfl rfl rfl ct_28
theorem ct_30 : ∀ j : Nat, cS_0[32 * 30 + j]? = cS_30[j]? := cb_nx (C := cC_29) rfl rfl rfl ct_29
theorem ct_31 : ∀ j : Nat, cS_0[32 * 31 + j]? = cS_31[j]? := cb_nx (C := cC_30) rfl rfl rfl ct_30
theorem ct_32 : ∀ j : Nat, cS_0[32 * 32 + j]? = cS_32[j]? := cb_nx (C := cC_31) rfl rfl rfl ct_31
theorem ct_33 : ∀ j : Nat, cS_0[32 * 33 + j]? = cS_33[j]? := cb_nx (C := cC_32) rfl rfl rfl ct_32
theorem ct_34 : ∀ j : Nat, cS_0[32 * 34 + j]? = cS_34[j]? := cb_nx (C := cC_33) rfl rfl rfl ct_33
theorem ct_35 : ∀ j : Nat, cS_0[32 * 35 + j]? = cS_35[j]? := cb_nx (C := cC_34) rfl rfl rfl ct_34
theorem ct_36 : ∀ j : Nat, cS_0[32 * 36 + j]? = cS_36[j]? := cb_nx (C := cC_35) rfl rfl rfl ct_35
theorem ct_37 : ∀ j : Nat, cS_0[32 * 37 + j]? = cS_37[j]? := cb_nx (C := cC_36) rfl rfl rfl ct_36
theorem ct_38 : ∀ j : Nat, cS_0[32 * 38 + j]? = cS_38[j]? := cb_nx (C := cC_37) rfl rfl rfl ct_37
theorem ct_39 : ∀ j : Nat, cS_0[32 * 39 + j]? = cS_39[j]? := cb_nx (C := cC_38) rfl rfl rfl ct_38
theorem ct_40 : ∀ j : Nat, cS_0[32 * 40 + j]? = cS_40[j]? := cb_nx (C := cC_39) rfl rfl rfl ct_39
theorem ct_41 : ∀ j : Nat, cS_0[32 * 41 + j]? = cS_41[j]? := cb_nx (C := cC_40) rfl rfl rfl ct_40
theorem ct_42 : ∀ j : Nat, cS_0[32 * 42 + j]? = cS_42[j]? := cb_nx (C := cC_41) rfl rfl rfl ct_41
theorem ct_43 : ∀ j : Nat, cS_0[32 * 43 + j]? = cS_43[j]? := cb_nx (C := cC_42) rfl rfl rfl ct_42
theorem ct_44 : ∀ j : Nat, cS_0[32 * 44 + j]? = cS_44[j]? := cb_nx (C := cC_43) rfl rfl rfl ct_43
theorem ct_45 : ∀ j : Nat, cS_0[32 * 45 + j]? = cS_45[j]? := cb_nx (C := cC_44) rfl rfl rfl ct_44
theorem ct_46 : ∀ j : Nat, cS_0[32 * 46 + j]? = cS_46[j]? := cb_nx (C := cC_45) rfl rfl rfl ct_45
theorem ct_47 : ∀ j : Nat, cS_0[32 * 47 + j]? = cS_47[j]? := cb_nx (C := cC_46) rfl rfl rfl ct_46
theorem ct_48 : ∀ j : Nat, cS_0[32 * 48 + j]? = cS_48[j]? := cb_nx (C := cC_47) rfl rfl rfl ct_47
theorem ct_49 : ∀ j : Nat, cS_0[32 * 49 + j]? = cS_49[j]? := cb_nx (C := cC_48) rfl rfl rfl ct_48
theorem ct_50 : ∀ j : Nat, cS_0[32 * 50 + j]? = cS_50[j]? := cb_nx (C := cC_49) rfl rfl rfl ct_49
theorem ct_51 : ∀ j : Nat, cS_0[32 * 51 + j]? = cS_51[j]? := cb_nx (C := cC_50) rfl rfl rfl ct_50
theorem ct_52 : ∀ j : Nat, cS_0[32 * 52 + j]? = cS_52[j]? := cb_nx (C := cC_51) rfl rfl rfl ct_51
theorem ct_53 : ∀ j : Nat, cS_0[32 * 53 + j]? = cS_53[j]? := cb_nx (C := cC_52) rfl rfl rfl ct_52
theorem ct_54 : ∀ j : Nat, cS_0[32 * 54 + j]? = cS_54[j]? := cb_nx (C := cC_53) rfl rfl rfl ct_53
theorem ct_55 : ∀ j : Nat, cS_0[32 * 55 + j]? = cS_55[j]? := cb_nx (C := cC_54) rfl rfl rfl ct_54
theorem ct_56 : ∀ j : Nat, cS_0[32 * 56 + j]? = cS_56[j]? := cb_nx (C := cC_55) rfl rfl rfl ct_55
theorem ct_57 : ∀ j : Nat, cS_0[32 * 57 + j]? = cS_57[j]? := cb_nx (C := cC_56) rfl rfl rfl ct_56
theorem ct_58 : ∀ j : Nat, cS_0[32 * 58 + j]? = cS_58[j]? := cb_nx (C := cC_57) rfl rfl rfl ct_57
theorem ct_59 : ∀ j : Nat, cS_0[32 * 59 + j]? = cS_59[j]? := cb_nx (C := cC_58) rfl rfl rfl ct_58
theorem ct_60 : ∀ j : Nat, cS_0[32 * 60 + j]? = cS_60[j]? := cb_nx (C := cC_59) rfl rfl rfl ct_59
theorem ct_61 : ∀ j : Nat, cS_0[32 * 61 + j]? = cS_61[j]? := cb_nx (C := cC_60) rfl rfl rfl ct_60
theorem ct_62 : ∀ j : Nat, cS_0[32 * 62 + j]? = cS_62[j]? := cb_nx (C := cC_61) rfl rfl rfl ct_61
theorem ct_63 : ∀ j : Nat, cS_0[32 * 63 + j]? = cS_63[j]? := cb_nx (C := cC_62) rfl rfl rfl ct_62
theorem ct_64 : ∀ j : Nat, cS_0[32 * 64 + j]? = cS_64[j]? := cb_nx (C := cC_63) rfl rfl rfl ct_63
theorem ct_65 : ∀ j : Nat, cS_0[32 * 65 + j]? = cS_65[j]? := cb_nx (C := cC_64) rfl rfl rfl ct_64
theorem ct_66 : ∀ j : Nat, cS_0[32 * 66 + j]? = cS_66[j]? := cb_nx (C := cC_65) rfl rfl rfl ct_65
theorem ct_67 : ∀ j : Nat, cS_0[32 * 67 + j]? = cS_67[j]? := cb_nx (C := cC_66) rfl rfl rfl ct_66
theorem ct_68 : ∀ j : Nat, cS_0[32 * 68 + j]? = cS_68[j]? := cb_nx (C := cC_67) rfl rfl rfl ct_67
theorem ct_69 : ∀ j : Nat, cS_0[32 * 69 + j]? = cS_69[j]? := cb_nx (C := cC_68) rfl rfl rfl ct_68
theorem ct_70 : ∀ j : Nat, cS_0[32 * 70 + j]? = cS_70[j]? := cb_nx (C := cC_69) rfl rfl rfl ct_69
theorem ct_71 : ∀ j : Nat, cS_0[32 * 71 + j]? = cS_71[j]? := cb_nx (C := cC_70) rfl rfl rfl ct_70
theorem ct_72 : ∀ j : Nat, cS_0[32 * 72 + j]? = cS_72[j]? := cb_nx (C := cC_71) rfl rfl rfl ct_71
theorem ct_73 : ∀ j : Nat, cS_0[32 * 73 + j]? = cS_73[j]? := cb_nx (C := cC_72) rfl rfl rfl ct_72
theorem ct_74 : ∀ j : Nat, cS_0[32 * 74 + j]? = cS_74[j]? := cb_nx (C := cC_73) rfl rfl rfl ct_73
theorem ct_75 : ∀ j : Nat, cS_0[32 * 75 + j]? = cS_75[j]? := cb_nx (C := cC_74) rfl rfl rfl ct_74
theorem ct_76 : ∀ j : Nat, cS_0[32 * 76 + j]? = cS_76[j]? := cb_nx (C := cC_75) rfl rfl rfl ct_75
theorem ct_77 : ∀ j : Nat, cS_0[32 * 77 + j]? = cS_77[j]? := cb_nx (C := cC_76) rfl rfl rfl ct_76
theorem ct_78 : ∀ j : Nat, cS_0[32 * 78 + j]? = cS_78[j]? := cb_nx (C := cC_77) rfl rfl rfl ct_77
theorem ct_79 : ∀ j : Nat, cS_0[32 * 79 + j]? = cS_79[j]? := cb_nx (C := cC_78) rfl rfl rfl ct_78
theorem ct_80 : ∀ j : Nat, cS_0[32 * 80 + j]? = cS_80[j]? := cb_nx (C := cC_79) rfl rfl rfl ct_79
theorem ct_81 : ∀ j : Nat, cS_0[32 * 81 + j]? = cS_81[j]? := cb_nx (C := cC_80) rfl rfl rfl ct_80
theorem ct_82 : ∀ j : Nat, cS_0[32 * 82 + j]? = cS_82[j]? := cb_nx (C := cC_81) rfl rfl rfl ct_81
theorem ct_83 : ∀ j : Nat, cS_0[32 * 83 + j]? = cS_83[j]? := cb_nx (C := cC_82) rfl rfl rfl ct_82
theorem ct_84 : ∀ j : Nat, cS_0[32 * 84 + j]? = cS_84[j]? := cb_nx (C := cC_83) rfl rfl rfl ct_83
theorem ct_85 : ∀ j : Nat, cS_0[32 * 85 + j]? = cS_85[j]? := cb_nx (C := cC_84) rfl rfl rfl ct_84
theorem ct_86 : ∀ j : Nat, cS_0[32 * 86 + j]? = cS_86[j]? := cb_nx (C := cC_85) rfl rfl rfl ct_85
theorem ct_87 : ∀ j : Nat, cS_0[32 * 87 + j]? = cS_87[j]? := cb_nx (C := cC_86) rfl rfl rfl ct_86
theorem ct_88 : ∀ j : Nat, cS_0[32 * 88 + j]? = cS_88[j]? := cb_nx (C := cC_87) rfl rfl rfl ct_87
theorem ct_89 : ∀ j : Nat, cS_0[32 * 89 + j]? = cS_89[j]? := cb_nx (C := cC_88) rfl rfl rfl ct_88
theorem ct_90 : ∀ j : Nat, cS_0[32 * 90 + j]? = cS_90[j]? := cb_nx (C := cC_89) rfl rfl rfl ct_89
theorem ct_91 : ∀ j : Nat, cS_0[32 * 91 + j]? = cS_91[j]? := cb_nx (C := cC_90) rfl rfl rfl ct_90
theorem ct_92 : ∀ j : Nat, cS_0[32 * 92 + j]? = cS_92[j]? := cb_nx (C := cC_91) rfl rfl rfl ct_91
theorem ct_93 : ∀ j : Nat, cS_0[32 * 93 + j]? = cS_93[j]? := cb_nx (C := cC_92) rfl rfl rfl ct_92
theorem ct_94 : ∀ j : Nat, cS_0[32 * 94 + j]? = cS_94[j]? := cb_nx (C := cC_93) rfl rfl rfl ct_93
theorem ct_95 : ∀ j : Nat, cS_0[32 * 95 + j]? = cS_95[j]? := cb_nx (C := cC_94) rfl rfl rfl ct_94
theorem ct_96 : ∀ j : Nat, cS_0[32 * 96 + j]? = cS_96[j]? := cb_nx (C := cC_95) rfl rfl rfl ct_95
theorem ct_97 : ∀ j : Nat, cS_0[32 * 97 + j]? = cS_97[j]? := cb_nx (C := cC_96) rfl rfl rfl ct_96
theorem ct_98 : ∀ j : Nat, cS_0[32 * 98 + j]? = cS_98[j]? := cb_nx (C := cC_97) rfl rfl rfl ct_97
theorem ct_99 : ∀ j : Nat, cS_0[32 * 99 + j]? = cS_99[j]? := cb_nx (C := cC_98) rfl rfl rfl ct_98
theorem ct_100 : ∀ j : Nat, cS_0[32 * 100 + j]? = cS_100[j]? := cb_nx (C := cC_99) rfl rfl rfl ct_99
theorem ct_101 : ∀ j : Nat, cS_0[32 * 101 + j]? = cS_101[j]? := cb_nx (C := cC_100) rfl rfl rfl ct_100
theorem ct_102 : ∀ j : Nat, cS_0[32 * 102 + j]? = cS_102[j]? := cb_nx (C := cC_101) rfl rfl rfl ct_101
theorem ct_103 : ∀ j : Nat, cS_0[32 * 103 + j]? = cS_103[j]? := cb_nx (C := cC_102) rfl rfl rfl ct_102
theorem ct_104 : ∀ j : Nat, cS_0[32 * 104 + j]? = cS_104[j]? := cb_nx (C := cC_103) rfl rfl rfl ct_103
theorem ct_105 : ∀ j : Nat, cS_0[32 * 105 + j]? = cS_105[j]? := cb_nx (C := cC_104) rfl rfl rfl ct_104
theorem ct_106 : ∀ j : Nat, cS_0[32 * 106 + j]? = cS_106[j]? := cb_nx (C := cC_105) rfl rfl rfl ct_105
theorem ct_107 : ∀ j : Nat, cS_0[32 * 107 + j]? = cS_107[j]? := cb_nx (C := cC_106) rfl rfl rfl ct_106
theorem ct_108 : ∀ j : Nat, cS_0[32 * 108 + j]? = cS_108[j]? := cb_nx (C := cC_107) rfl rfl rfl ct_107
theorem ct_109 : ∀ j : Nat, cS_0[32 * 109 + j]? = cS_109[j]? := cb_nx (C := cC_108) rfl rfl rfl ct_108
theorem ct_110 : ∀ j : Nat, cS_0[32 * 110 + j]? = cS_110[j]? := cb_nx (C := cC_109) rfl rfl rfl ct_109
theorem ct_111 : ∀ j : Nat, cS_0[32 * 111 + j]? = cS_111[j]? := cb_nx (C := cC_110) rfl rfl rfl ct_110
theorem ct_112 : ∀ j : Nat, cS_0[32 * 112 + j]? = cS_112[j]? := cb_nx (C := cC_111) rfl rfl rfl ct_111
theorem ct_113 : ∀ j : Nat, cS_0[32 * 113 + j]? = cS_113[j]? := cb_nx (C := cC_112) rfl rfl rfl ct_112
set_option maxRecDepth 100000 in
theorem dk_3 {A : ByteArray} {pc : Nat} (h : cb A pc 3) : decode A pc = .ok (.iconst 0, 1) := cb_dec (nx := pc + 1) (cb_b h) (cb_1 pc)
set_option maxRecDepth 100000 in
theorem dk_4 {A : ByteArray} {pc : Nat} (h : cb A pc 4) : decode A pc = .ok (.iconst 1, 1) := cb_dec (nx := pc + 1) (cb_b h) (cb_1 pc)
set_option maxRecDepth 100000 in
theorem dk_5 {A : ByteArray} {pc : Nat} (h : cb A pc 5) : decode A pc = .ok (.iconst 2, 1) := cb_dec (nx := pc + 1) (cb_b h) (cb_1 pc)
set_option maxRecDepth 100000 in
theorem dk_6 {A : ByteArray} {pc : Nat} (h : cb A pc 6) : decode A pc = .ok (.iconst 3, 1) := cb_dec (nx := pc + 1) (cb_b h) (cb_1 pc)
set_option maxRecDepth 100000 in
theorem dk_7 {A : ByteArray} {pc : Nat} (h : cb A pc 7) : decode A pc = .ok (.iconst 4, 1) := cb_dec (nx := pc + 1) (cb_b h) (cb_1 pc)
set_option maxRecDepth 100000 in
theorem dk_8 {A : ByteArray} {pc : Nat} (h : cb A pc 8) : decode A pc = .ok (.iconst 5, 1) := cb_dec (nx := pc + 1) (cb_b h) (cb_1 pc)
set_option maxRecDepth 100000 in
theorem dk_9 {A : ByteArray} {pc : Nat} (h : cb A pc 9) : decode A pc = .ok (.lconst 0, 1) := cb_dec (nx := pc + 1) (cb_b h) (cb_1 pc)
set_option maxRecDepth 100000 in
theorem dk_10 {A : ByteArray} {pc : Nat} (h : cb A pc 10) : decode A pc = .ok (.lconst 1, 1) := cb_dec (nx := pc + 1) (cb_b h) (cb_1 pc)
set_option maxRecDepth 100000 in
theorem dk_16 {A : ByteArray} {pc a : Nat} {v : Int} (h : cb A pc 16) (h1 : cb A (pc + 1) a) (hv : Reader.signed 8 a = v) : decode A pc = .ok (.bipush v, 2) := cb_dec (nx := pc + 1 + 1) ((cb_b h).trans (cb_bi (cb_s1 h1 hv))) (cb_2 pc)
set_option maxRecDepth 100000 in
theorem dk_21 {A : ByteArray} {pc a : Nat} (h : cb A pc 21) (h1 : cb A (pc + 1) a) : decode A pc = .ok (.iload a, 2) := cb_dec (nx := pc + 1 + 1) ((cb_b h).trans (cb_b h1)) (cb_2 pc)
set_option maxRecDepth 100000 in
theorem dk_23 {A : ByteArray} {pc a : Nat} (h : cb A pc 23) (h1 : cb A (pc + 1) a) : decode A pc = .ok (.fload a, 2) := cb_dec (nx := pc + 1 + 1) ((cb_b h).trans (cb_b h1)) (cb_2 pc)
set_option maxRecDepth 100000 in
theorem dk_24 {A : ByteArray} {pc a : Nat} (h : cb A pc 24) (h1 : cb A (pc + 1) a) : decode A pc = .ok (.dload a, 2) := cb_dec (nx := pc + 1 + 1) ((cb_b h).trans (cb_b h1)) (cb_2 pc)
set_option maxRecDepth 100000 in
theorem dk_25 {A : ByteArray} {pc a : Nat} (h : cb A pc 25) (h1 : cb A (pc + 1) a) : decode A pc = .ok (.aload a, 2) := cb_dec (nx := pc + 1 + 1) ((cb_b h).trans (cb_b h1)) (cb_2 pc)
set_option maxRecDepth 100000 in
theorem dk_42 {A : ByteArray} {pc : Nat} (h : cb A pc 42) : decode A pc = .ok (.aload_n 0, 1) := cb_dec (nx := pc + 1) (cb_b h) (cb_1 pc)
set_option maxRecDepth 100000 in
theorem dk_43 {A : ByteArray} {pc : Nat} (h : cb A pc 43) : decode A pc = .ok (.aload_n 1, 1) := cb_dec (nx := pc + 1) (cb_b h) (cb_1 pc)
set_option maxRecDepth 100000 in
theorem dk_44 {A : ByteArray} {pc : Nat} (h : cb A pc 44) : decode A pc = .ok (.aload_n 2, 1) := cb_dec (nx := pc + 1) (cb_b h) (cb_1 pc)
set_option maxRecDepth 100000 in
theorem dk_45 {A : ByteArray} {pc : Nat} (h : cb A pc 45) : decode A pc = .ok (.aload_n 3, 1) := cb_dec (nx := pc + 1) (cb_b h) (cb_1 pc)
set_option maxRecDepth 100000 in
theorem dk_46 {A : ByteArray} {pc : Nat} (h : cb A pc 46) : decode A pc = .ok (.iaload, 1) := cb_dec (nx := pc + 1) (cb_b h) (cb_1 pc)
set_option maxRecDepth 100000 in
theorem dk_47 {A : ByteArray} {pc : Nat} (h : cb A pc 47) : decode A pc = .ok (.laload, 1) := cb_dec (nx := pc + 1) (cb_b h) (cb_1 pc)
set_option maxRecDepth 100000 in
theorem dk_49 {A : ByteArray} {pc : Nat} (h : cb A pc 49) : decode A pc = .ok (.daload, 1) := cb_dec (nx := pc + 1) (cb_b h) (cb_1 pc)
set_option maxRecDepth 100000 in
theorem dk_54 {A : ByteArray} {pc a : Nat} (h : cb A pc 54) (h1 : cb A (pc + 1) a) : decode A pc = .ok (.istore a, 2) := cb_dec (nx := pc + 1 + 1) ((cb_b h).trans (cb_b h1)) (cb_2 pc)
set_option maxRecDepth 100000 in
theorem dk_56 {A : ByteArray} {pc a : Nat} (h : cb A pc 56) (h1 : cb A (pc + 1) a) : decode A pc = .ok (.fstore a, 2) := cb_dec (nx := pc + 1 + 1) ((cb_b h).trans (cb_b h1)) (cb_2 pc)
set_option maxRecDepth 100000 in
theorem dk_57 {A : ByteArray} {pc a : Nat} (h : cb A pc 57) (h1 : cb A (pc + 1) a) : decode A pc = .ok (.dstore a, 2) := cb_dec (nx := pc + 1 + 1) ((cb_b h).trans (cb_b h1)) (cb_2 pc)
set_option maxRecDepth 100000 in
theorem dk_58 {A : ByteArray} {pc a : Nat} (h : cb A pc 58) (h1 : cb A (pc + 1) a) : decode A pc = .ok (.astore a, 2) := cb_dec (nx := pc + 1 + 1) ((cb_b h).trans (cb_b h1)) (cb_2 pc)
set_option maxRecDepth 100000 in
theorem dk_76 {A : ByteArray} {pc : Nat} (h : cb A pc 76) : decode A pc = .ok (.astore_n 1, 1) := cb_dec (nx := pc + 1) (cb_b h) (cb_1 pc)
set_option maxRecDepth 100000 in
theorem dk_77 {A : ByteArray} {pc : Nat} (h : cb A pc 77) : decode A pc = .ok (.astore_n 2, 1) := cb_dec (nx := pc + 1) (cb_b h) (cb_1 pc)
set_option maxRecDepth 100000 in
theorem dk_78 {A : ByteArray} {pc : Nat} (h : cb A pc 78) : decode A pc = .ok (.astore_n 3, 1) := cb_dec (nx := pc + 1) (cb_b h) (cb_1 pc)
set_option maxRecDepth 100000 in
theorem dk_89 {A : ByteArray} {pc : Nat} (h : cb A pc 89) : decode A pc = .ok (.dup, 1) := cb_dec (nx := pc + 1) (cb_b h) (cb_1 pc)
set_option maxRecDepth 100000 in
theorem dk_96 {A : ByteArray} {pc : Nat} (h : cb A pc 96) : decode A pc = .ok (.iadd, 1) := cb_dec (nx := pc + 1) (cb_b h) (cb_1 pc)
set_option maxRecDepth 100000 in
theorem dk_100 {A : ByteArray} {pc : Nat} (h : cb A pc 100) : decode A pc = .ok (.isub, 1) := cb_dec (nx := pc + 1) (cb_b h) (cb_1 pc)
set_option maxRecDepth 100000 in
theorem dk_126 {A : ByteArray} {pc : Nat} (h : cb A pc 126) : decode A pc = .ok (.iand, 1) := cb_dec (nx := pc + 1) (cb_b h) (cb_1 pc)
set_option maxRecDepth 100000 in
theorem dk_133 {A : ByteArray} {pc : Nat} (h : cb A pc 133) : decode A pc = .ok (.i2l, 1) := cb_dec (nx := pc + 1) (cb_b h) (cb_1 pc)
set_option maxRecDepth 100000 in
theorem dk_141 {A : ByteArray} {pc : Nat} (h : cb A pc 141) : decode A pc = .ok (.f2d, 1) := cb_dec (nx := pc + 1) (cb_b h) (cb_1 pc)
set_option maxRecDepth 100000 in
theorem dk_146 {A : ByteArray} {pc : Nat} (h : cb A pc 146) : decode A pc = .ok (.i2c, 1) := cb_dec (nx := pc + 1) (cb_b h) (cb_1 pc)
set_option maxRecDepth 100000 in
theorem dk_148 {A : ByteArray} {pc : Nat} (h : cb A pc 148) : decode A pc = .ok (.lcmp, 1) := cb_dec (nx := pc + 1) (cb_b h) (cb_1 pc)
set_option maxRecDepth 100000 in
theorem dk_149 {A : ByteArray} {pc : Nat} (h : cb A pc 149) : decode A pc = .ok (.fcmp .l, 1) := cb_dec (nx := pc + 1) (cb_b h) (cb_1 pc)
set_option maxRecDepth 100000 in
theorem dk_151 {A : ByteArray} {pc : Nat} (h : cb A pc 151) : decode A pc = .ok (.dcmp .l, 1) := cb_dec (nx := pc + 1) (cb_b h) (cb_1 pc)
set_option maxRecDepth 100000 in
theorem dk_153 {A : ByteArray} {pc a b : Nat} {v : Int} (h : cb A pc 153) (h1 : cb A (pc + 1) a) (h2 : cb A (pc + 1 + 1) b) (hv : Reader.signed 16 (a * 256 + b) = v) : decode A pc = .ok (.ifCond .eq v, 3) := cb_dec (nx := pc + 1 + 1 + 1) ((cb_b h).trans (cb_bi (cb_s2 h1 h2 hv))) (cb_3 pc)
set_option maxRecDepth 100000 in
theorem dk_154 {A : ByteArray} {pc a b : Nat} {v : Int} (h : cb A pc 154) (h1 : cb A (pc + 1) a) (h2 : cb A (pc + 1 + 1) b) (hv : Reader.signed 16 (a * 256 + b) = v) : decode A pc = .ok (.ifCond .ne v, 3) := cb_dec (nx := pc + 1 + 1 + 1) ((cb_b h).trans (cb_bi (cb_s2 h1 h2 hv))) (cb_3 pc)
set_option maxRecDepth 100000 in
theorem dk_159 {A : ByteArray} {pc a b : Nat} {v : Int} (h : cb A pc 159) (h1 : cb A (pc + 1) a) (h2 : cb A (pc + 1 + 1) b) (hv : Reader.signed 16 (a * 256 + b) = v) : decode A pc = .ok (.if_icmp .eq v, 3) := cb_dec (nx := pc + 1 + 1 + 1) ((cb_b h).trans (cb_bi (cb_s2 h1 h2 hv))) (cb_3 pc)
set_option maxRecDepth 100000 in
theorem dk_163 {A : ByteArray} {pc a b : Nat} {v : Int} (h : cb A pc 163) (h1 : cb A (pc + 1) a) (h2 : cb A (pc + 1 + 1) b) (hv : Reader.signed 16 (a * 256 + b) = v) : decode A pc = .ok (.if_icmp .gt v, 3) := cb_dec (nx := pc + 1 + 1 + 1) ((cb_b h).trans (cb_bi (cb_s2 h1 h2 hv))) (cb_3 pc)
set_option maxRecDepth 100000 in
theorem dk_167 {A : ByteArray} {pc a b : Nat} {v : Int} (h : cb A pc 167) (h1 : cb A (pc + 1) a) (h2 : cb A (pc + 1 + 1) b) (hv : Reader.signed 16 (a * 256 + b) = v) : decode A pc = .ok (.goto v, 3) := cb_dec (nx := pc + 1 + 1 + 1) ((cb_b h).trans (cb_bi (cb_s2 h1 h2 hv))) (cb_3 pc)
set_option maxRecDepth 100000 in
theorem dk_172 {A : ByteArray} {pc : Nat} (h : cb A pc 172) : decode A pc = .ok (.ireturn, 1) := cb_dec (nx := pc + 1) (cb_b h) (cb_1 pc)
set_option maxRecDepth 100000 in
theorem dk_182 {A : ByteArray} {pc a b v : Nat} (h : cb A pc 182) (h1 : cb A (pc + 1) a) (h2 : cb A (pc + 1 + 1) b) (hv : a * 256 + b = v) : decode A pc = .ok (.invokevirtual v, 3) := cb_dec (nx := pc + 1 + 1 + 1) ((cb_b h).trans (cb_bu2 (cb_u2 h1 h2 hv))) (cb_3 pc)
set_option maxRecDepth 100000 in
theorem dk_183 {A : ByteArray} {pc a b v : Nat} (h : cb A pc 183) (h1 : cb A (pc + 1) a) (h2 : cb A (pc + 1 + 1) b) (hv : a * 256 + b = v) : decode A pc = .ok (.invokespecial v, 3) := cb_dec (nx := pc + 1 + 1 + 1) ((cb_b h).trans (cb_bu2 (cb_u2 h1 h2 hv))) (cb_3 pc)
set_option maxRecDepth 100000 in
theorem dk_184 {A : ByteArray} {pc a b v : Nat} (h : cb A pc 184) (h1 : cb A (pc + 1) a) (h2 : cb A (pc + 1 + 1) b) (hv : a * 256 + b = v) : decode A pc = .ok (.invokestatic v, 3) := cb_dec (nx := pc + 1 + 1 + 1) ((cb_b h).trans (cb_bu2 (cb_u2 h1 h2 hv))) (cb_3 pc)
set_option maxRecDepth 100000 in
theorem dk_187 {A : ByteArray} {pc a b v : Nat} (h : cb A pc 187) (h1 : cb A (pc + 1) a) (h2 : cb A (pc + 1 + 1) b) (hv : a * 256 + b = v) : decode A pc = .ok (.new v, 3) := cb_dec (nx := pc + 1 + 1 + 1) ((cb_b h).trans (cb_bu2 (cb_u2 h1 h2 hv))) (cb_3 pc)
set_option maxRecDepth 100000 in
theorem dk_190 {A : ByteArray} {pc : Nat} (h : cb A pc 190) : decode A pc = .ok (.arraylength, 1) := cb_dec (nx := pc + 1) (cb_b h) (cb_1 pc)
