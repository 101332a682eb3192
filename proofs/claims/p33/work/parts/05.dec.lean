/-! WHAT STANDS AT A PLACE OF A CODE, byte for byte -/
theorem dc_at {c : ByteArray} {pc j n : Nat} {l : List Nat} {x : Nat} (h : ((c.data.toList.drop pc).take n).map UInt8.toNat = l) (e : l[j]? = some x) : ∃ hl : pc + j < c.size, (c[pc + j]'hl).toNat = x := by
  rw [← h, List.getElem?_map, List.getElem?_take] at e
  by_cases q : j < n
  · rw [if_pos q, List.getElem?_drop] at e
    cases r : c.data.toList[pc + j]? with
    | none =>
      rw [r] at e
      exact absurd e (by intro z; cases z)
    | some b =>
      rw [r] at e
      rw [List.getElem?_eq_some_iff] at r
      obtain ⟨h1, h2⟩ := r
      refine ⟨h1, ?_⟩
      have e2 : (c[pc + j]'h1) = b := h2
      rw [e2]
      exact Option.some.inj e
  · rw [if_neg q] at e
    exact absurd e (by intro z; cases z)
theorem dc_u1 {c : ByteArray} {p x : Nat} (h : ∃ hl : p < c.size, (c[p]'hl).toNat = x) : (Reader.u1 : Reader DecodeError Nat) c p = .ok (x, p + 1) := by
  obtain ⟨hl, hx⟩ := h
  unfold Reader.u1
  show (if h : p < c.size then _ else _ : Reader DecodeError Nat) c p = _
  rw [dif_pos hl, ← hx]
  rfl
theorem dc_u2 {c : ByteArray} {p x y : Nat} (h : ∃ hl : p < c.size, (c[p]'hl).toNat = x) (h2 : ∃ hl : p + 1 < c.size, (c[p + 1]'hl).toNat = y) : (Reader.u2 : Reader DecodeError Nat) c p = .ok (x * 256 + y, p + 2) := by
  show (do let q ← (Reader.u1 : Reader DecodeError Nat) c p; _ : Except DecodeError (Nat × Nat)) = _
  rw [dc_u1 h]
  show (do let q ← (Reader.u1 : Reader DecodeError Nat) c (p + 1); _ : Except DecodeError (Nat × Nat)) = _
  rw [dc_u1 h2]
  rfl
theorem dc_s1 {c : ByteArray} {p x : Nat} (h : ∃ hl : p < c.size, (c[p]'hl).toNat = x) : (Reader.s1 : Reader DecodeError Int) c p = .ok (Reader.signed 8 x, p + 1) := by
  show (do let q ← (Reader.u1 : Reader DecodeError Nat) c p; _ : Except DecodeError (Int × Nat)) = _
  rw [dc_u1 h]
  rfl
theorem dc_s2 {c : ByteArray} {p x y : Nat} (h : ∃ hl : p < c.size, (c[p]'hl).toNat = x) (h2 : ∃ hl : p + 1 < c.size, (c[p + 1]'hl).toNat = y) : (Reader.s2 : Reader DecodeError Int) c p = .ok (Reader.signed 16 (x * 256 + y), p + 2) := by
  show (do let q ← (Reader.u2 : Reader DecodeError Nat) c p; _ : Except DecodeError (Int × Nat)) = _
  rw [dc_u2 h h2]
  rfl
theorem dc_cut {c : ByteArray} {p0 j m n : Nat} {K l : List Nat} (h : ((c.data.toList.drop p0).take m).map UInt8.toNat = K) (e : (K.drop j).take n = l) (hj : j + n ≤ m) : ((c.data.toList.drop (p0 + j)).take n).map UInt8.toNat = l := by
  rw [← e, ← h, ← List.map_drop, ← List.map_take, List.drop_take, List.drop_drop, List.take_take, Nat.min_eq_left (by omega)]
theorem dc_1 {c : ByteArray} {pc : Nat} (h : ((c.data.toList.drop pc).take 1).map UInt8.toNat = [1]) : decode c pc = .ok (.aconst_null, 1) := by
  unfold decode Decoder.instr Reader.runAt
  show (do let (instr, next) ← (do let q ← (Reader.u1 : Reader DecodeError Nat) c pc; _ : Except DecodeError (Instr × Nat)); pure (instr, next - pc) : Except DecodeError (Instr × Nat)) = _
  rw [dc_u1 (p := pc) (dc_at (j := 0) h rfl)]
  show Except.ok (Instr.aconst_null, pc + 1 - pc) = _
  rw [Nat.add_sub_cancel_left]
theorem dc_10 {c : ByteArray} {pc : Nat} (h : ((c.data.toList.drop pc).take 1).map UInt8.toNat = [10]) : decode c pc = .ok (.lconst 1, 1) := by
  unfold decode Decoder.instr Reader.runAt
  show (do let (instr, next) ← (do let q ← (Reader.u1 : Reader DecodeError Nat) c pc; _ : Except DecodeError (Instr × Nat)); pure (instr, next - pc) : Except DecodeError (Instr × Nat)) = _
  rw [dc_u1 (p := pc) (dc_at (j := 0) h rfl)]
  show Except.ok (Instr.lconst 1, pc + 1 - pc) = _
  rw [Nat.add_sub_cancel_left]
theorem dc_100 {c : ByteArray} {pc : Nat} (h : ((c.data.toList.drop pc).take 1).map UInt8.toNat = [100]) : decode c pc = .ok (.isub, 1) := by
  unfold decode Decoder.instr Reader.runAt
  show (do let (instr, next) ← (do let q ← (Reader.u1 : Reader DecodeError Nat) c pc; _ : Except DecodeError (Instr × Nat)); pure (instr, next - pc) : Except DecodeError (Instr × Nat)) = _
  rw [dc_u1 (p := pc) (dc_at (j := 0) h rfl)]
  show Except.ok (Instr.isub, pc + 1 - pc) = _
  rw [Nat.add_sub_cancel_left]
theorem dc_101 {c : ByteArray} {pc : Nat} (h : ((c.data.toList.drop pc).take 1).map UInt8.toNat = [101]) : decode c pc = .ok (.lsub, 1) := by
  unfold decode Decoder.instr Reader.runAt
  show (do let (instr, next) ← (do let q ← (Reader.u1 : Reader DecodeError Nat) c pc; _ : Except DecodeError (Instr × Nat)); pure (instr, next - pc) : Except DecodeError (Instr × Nat)) = _
  rw [dc_u1 (p := pc) (dc_at (j := 0) h rfl)]
  show Except.ok (Instr.lsub, pc + 1 - pc) = _
  rw [Nat.add_sub_cancel_left]
theorem dc_104 {c : ByteArray} {pc : Nat} (h : ((c.data.toList.drop pc).take 1).map UInt8.toNat = [104]) : decode c pc = .ok (.imul, 1) := by
  unfold decode Decoder.instr Reader.runAt
  show (do let (instr, next) ← (do let q ← (Reader.u1 : Reader DecodeError Nat) c pc; _ : Except DecodeError (Instr × Nat)); pure (instr, next - pc) : Except DecodeError (Instr × Nat)) = _
  rw [dc_u1 (p := pc) (dc_at (j := 0) h rfl)]
  show Except.ok (Instr.imul, pc + 1 - pc) = _
  rw [Nat.add_sub_cancel_left]
theorem dc_105 {c : ByteArray} {pc : Nat} (h : ((c.data.toList.drop pc).take 1).map UInt8.toNat = [105]) : decode c pc = .ok (.lmul, 1) := by
  unfold decode Decoder.instr Reader.runAt
  show (do let (instr, next) ← (do let q ← (Reader.u1 : Reader DecodeError Nat) c pc; _ : Except DecodeError (Instr × Nat)); pure (instr, next - pc) : Except DecodeError (Instr × Nat)) = _
  rw [dc_u1 (p := pc) (dc_at (j := 0) h rfl)]
  show Except.ok (Instr.lmul, pc + 1 - pc) = _
  rw [Nat.add_sub_cancel_left]
theorem dc_108 {c : ByteArray} {pc : Nat} (h : ((c.data.toList.drop pc).take 1).map UInt8.toNat = [108]) : decode c pc = .ok (.idiv, 1) := by
  unfold decode Decoder.instr Reader.runAt
  show (do let (instr, next) ← (do let q ← (Reader.u1 : Reader DecodeError Nat) c pc; _ : Except DecodeError (Instr × Nat)); pure (instr, next - pc) : Except DecodeError (Instr × Nat)) = _
  rw [dc_u1 (p := pc) (dc_at (j := 0) h rfl)]
  show Except.ok (Instr.idiv, pc + 1 - pc) = _
  rw [Nat.add_sub_cancel_left]
theorem dc_112 {c : ByteArray} {pc : Nat} (h : ((c.data.toList.drop pc).take 1).map UInt8.toNat = [112]) : decode c pc = .ok (.irem, 1) := by
  unfold decode Decoder.instr Reader.runAt
  show (do let (instr, next) ← (do let q ← (Reader.u1 : Reader DecodeError Nat) c pc; _ : Except DecodeError (Instr × Nat)); pure (instr, next - pc) : Except DecodeError (Instr × Nat)) = _
  rw [dc_u1 (p := pc) (dc_at (j := 0) h rfl)]
  show Except.ok (Instr.irem, pc + 1 - pc) = _
  rw [Nat.add_sub_cancel_left]
theorem dc_116 {c : ByteArray} {pc : Nat} (h : ((c.data.toList.drop pc).take 1).map UInt8.toNat = [116]) : decode c pc = .ok (.ineg, 1) := by
  unfold decode Decoder.instr Reader.runAt
  show (do let (instr, next) ← (do let q ← (Reader.u1 : Reader DecodeError Nat) c pc; _ : Except DecodeError (Instr × Nat)); pure (instr, next - pc) : Except DecodeError (Instr × Nat)) = _
  rw [dc_u1 (p := pc) (dc_at (j := 0) h rfl)]
  show Except.ok (Instr.ineg, pc + 1 - pc) = _
  rw [Nat.add_sub_cancel_left]
theorem dc_120 {c : ByteArray} {pc : Nat} (h : ((c.data.toList.drop pc).take 1).map UInt8.toNat = [120]) : decode c pc = .ok (.ishl, 1) := by
  unfold decode Decoder.instr Reader.runAt
  show (do let (instr, next) ← (do let q ← (Reader.u1 : Reader DecodeError Nat) c pc; _ : Except DecodeError (Instr × Nat)); pure (instr, next - pc) : Except DecodeError (Instr × Nat)) = _
  rw [dc_u1 (p := pc) (dc_at (j := 0) h rfl)]
  show Except.ok (Instr.ishl, pc + 1 - pc) = _
  rw [Nat.add_sub_cancel_left]
theorem dc_122 {c : ByteArray} {pc : Nat} (h : ((c.data.toList.drop pc).take 1).map UInt8.toNat = [122]) : decode c pc = .ok (.ishr, 1) := by
  unfold decode Decoder.instr Reader.runAt
  show (do let (instr, next) ← (do let q ← (Reader.u1 : Reader DecodeError Nat) c pc; _ : Except DecodeError (Instr × Nat)); pure (instr, next - pc) : Except DecodeError (Instr × Nat)) = _
  rw [dc_u1 (p := pc) (dc_at (j := 0) h rfl)]
  show Except.ok (Instr.ishr, pc + 1 - pc) = _
  rw [Nat.add_sub_cancel_left]
theorem dc_124 {c : ByteArray} {pc : Nat} (h : ((c.data.toList.drop pc).take 1).map UInt8.toNat = [124]) : decode c pc = .ok (.iushr, 1) := by
  unfold decode Decoder.instr Reader.runAt
  show (do let (instr, next) ← (do let q ← (Reader.u1 : Reader DecodeError Nat) c pc; _ : Except DecodeError (Instr × Nat)); pure (instr, next - pc) : Except DecodeError (Instr × Nat)) = _
  rw [dc_u1 (p := pc) (dc_at (j := 0) h rfl)]
  show Except.ok (Instr.iushr, pc + 1 - pc) = _
  rw [Nat.add_sub_cancel_left]
theorem dc_126 {c : ByteArray} {pc : Nat} (h : ((c.data.toList.drop pc).take 1).map UInt8.toNat = [126]) : decode c pc = .ok (.iand, 1) := by
  unfold decode Decoder.instr Reader.runAt
  show (do let (instr, next) ← (do let q ← (Reader.u1 : Reader DecodeError Nat) c pc; _ : Except DecodeError (Instr × Nat)); pure (instr, next - pc) : Except DecodeError (Instr × Nat)) = _
  rw [dc_u1 (p := pc) (dc_at (j := 0) h rfl)]
  show Except.ok (Instr.iand, pc + 1 - pc) = _
  rw [Nat.add_sub_cancel_left]
theorem dc_128 {c : ByteArray} {pc : Nat} (h : ((c.data.toList.drop pc).take 1).map UInt8.toNat = [128]) : decode c pc = .ok (.ior, 1) := by
  unfold decode Decoder.instr Reader.runAt
  show (do let (instr, next) ← (do let q ← (Reader.u1 : Reader DecodeError Nat) c pc; _ : Except DecodeError (Instr × Nat)); pure (instr, next - pc) : Except DecodeError (Instr × Nat)) = _
  rw [dc_u1 (p := pc) (dc_at (j := 0) h rfl)]
  show Except.ok (Instr.ior, pc + 1 - pc) = _
  rw [Nat.add_sub_cancel_left]
theorem dc_130 {c : ByteArray} {pc : Nat} (h : ((c.data.toList.drop pc).take 1).map UInt8.toNat = [130]) : decode c pc = .ok (.ixor, 1) := by
  unfold decode Decoder.instr Reader.runAt
  show (do let (instr, next) ← (do let q ← (Reader.u1 : Reader DecodeError Nat) c pc; _ : Except DecodeError (Instr × Nat)); pure (instr, next - pc) : Except DecodeError (Instr × Nat)) = _
  rw [dc_u1 (p := pc) (dc_at (j := 0) h rfl)]
  show Except.ok (Instr.ixor, pc + 1 - pc) = _
  rw [Nat.add_sub_cancel_left]
theorem dc_132 {c : ByteArray} {pc : Nat} {x y : Nat} (h : ((c.data.toList.drop pc).take 3).map UInt8.toNat = [132, x, y]) {k : Int} (e : Reader.signed 8 y = k) : decode c pc = .ok (.iinc x k, 3) := by
  subst e
  unfold decode Decoder.instr Reader.runAt
  show (do let (instr, next) ← (do let q ← (Reader.u1 : Reader DecodeError Nat) c pc; _ : Except DecodeError (Instr × Nat)); pure (instr, next - pc) : Except DecodeError (Instr × Nat)) = _
  rw [dc_u1 (p := pc) (dc_at (j := 0) h rfl)]
  show (do let (instr, next) ← (do let q ← (Reader.u1 : Reader DecodeError Nat) c (pc + 1); _ : Except DecodeError (Instr × Nat)); pure (instr, next - pc) : Except DecodeError (Instr × Nat)) = _
  rw [dc_u1 (p := pc + 1) (dc_at (j := 1) h rfl)]
  show (do let (instr, next) ← (do let q ← (Reader.s1 : Reader DecodeError Int) c (pc + 1 + 1); _ : Except DecodeError (Instr × Nat)); pure (instr, next - pc) : Except DecodeError (Instr × Nat)) = _
  rw [dc_s1 (p := pc + 1 + 1) (dc_at (j := 2) h rfl)]
  show Except.ok (Instr.iinc _ _, pc + 1 + 1 + 1 - pc) = _
  rw [Nat.add_assoc, Nat.add_assoc, Nat.add_sub_cancel_left]
theorem dc_133 {c : ByteArray} {pc : Nat} (h : ((c.data.toList.drop pc).take 1).map UInt8.toNat = [133]) : decode c pc = .ok (.i2l, 1) := by
  unfold decode Decoder.instr Reader.runAt
  show (do let (instr, next) ← (do let q ← (Reader.u1 : Reader DecodeError Nat) c pc; _ : Except DecodeError (Instr × Nat)); pure (instr, next - pc) : Except DecodeError (Instr × Nat)) = _
  rw [dc_u1 (p := pc) (dc_at (j := 0) h rfl)]
  show Except.ok (Instr.i2l, pc + 1 - pc) = _
  rw [Nat.add_sub_cancel_left]
theorem dc_145 {c : ByteArray} {pc : Nat} (h : ((c.data.toList.drop pc).take 1).map UInt8.toNat = [145]) : decode c pc = .ok (.i2b, 1) := by
  unfold decode Decoder.instr Reader.runAt
  show (do let (instr, next) ← (do let q ← (Reader.u1 : Reader DecodeError Nat) c pc; _ : Except DecodeError (Instr × Nat)); pure (instr, next - pc) : Except DecodeError (Instr × Nat)) = _
  rw [dc_u1 (p := pc) (dc_at (j := 0) h rfl)]
  show Except.ok (Instr.i2b, pc + 1 - pc) = _
  rw [Nat.add_sub_cancel_left]
theorem dc_146 {c : ByteArray} {pc : Nat} (h : ((c.data.toList.drop pc).take 1).map UInt8.toNat = [146]) : decode c pc = .ok (.i2c, 1) := by
  unfold decode Decoder.instr Reader.runAt
  show (do let (instr, next) ← (do let q ← (Reader.u1 : Reader DecodeError Nat) c pc; _ : Except DecodeError (Instr × Nat)); pure (instr, next - pc) : Except DecodeError (Instr × Nat)) = _
  rw [dc_u1 (p := pc) (dc_at (j := 0) h rfl)]
  show Except.ok (Instr.i2c, pc + 1 - pc) = _
  rw [Nat.add_sub_cancel_left]
theorem dc_148 {c : ByteArray} {pc : Nat} (h : ((c.data.toList.drop pc).take 1).map UInt8.toNat = [148]) : decode c pc = .ok (.lcmp, 1) := by
  unfold decode Decoder.instr Reader.runAt
  show (do let (instr, next) ← (do let q ← (Reader.u1 : Reader DecodeError Nat) c pc; _ : Except DecodeError (Instr × Nat)); pure (instr, next - pc) : Except DecodeError (Instr × Nat)) = _
  rw [dc_u1 (p := pc) (dc_at (j := 0) h rfl)]
  show Except.ok (Instr.lcmp, pc + 1 - pc) = _
  rw [Nat.add_sub_cancel_left]
theorem dc_153 {c : ByteArray} {pc : Nat} {x y : Nat} (h : ((c.data.toList.drop pc).take 3).map UInt8.toNat = [153, x, y]) {k : Int} (e : Reader.signed 16 (x * 256 + y) = k) : decode c pc = .ok (.ifCond .eq k, 3) := by
  subst e
  unfold decode Decoder.instr Reader.runAt
  show (do let (instr, next) ← (do let q ← (Reader.u1 : Reader DecodeError Nat) c pc; _ : Except DecodeError (Instr × Nat)); pure (instr, next - pc) : Except DecodeError (Instr × Nat)) = _
  rw [dc_u1 (p := pc) (dc_at (j := 0) h rfl)]
  show (do let (instr, next) ← (do let q ← (Reader.s2 : Reader DecodeError Int) c (pc + 1); _ : Except DecodeError (Instr × Nat)); pure (instr, next - pc) : Except DecodeError (Instr × Nat)) = _
  rw [dc_s2 (p := pc + 1) (dc_at (j := 1) h rfl) (dc_at (j := 2) h rfl)]
  show Except.ok (Instr.ifCond .eq _, pc + 1 + 2 - pc) = _
  rw [Nat.add_assoc, Nat.add_sub_cancel_left]
theorem dc_154 {c : ByteArray} {pc : Nat} {x y : Nat} (h : ((c.data.toList.drop pc).take 3).map UInt8.toNat = [154, x, y]) {k : Int} (e : Reader.signed 16 (x * 256 + y) = k) : decode c pc = .ok (.ifCond .ne k, 3) := by
  subst e
  unfold decode Decoder.instr Reader.runAt
  show (do let (instr, next) ← (do let q ← (Reader.u1 : Reader DecodeError Nat) c pc; _ : Except DecodeError (Instr × Nat)); pure (instr, next - pc) : Except DecodeError (Instr × Nat)) = _
  rw [dc_u1 (p := pc) (dc_at (j := 0) h rfl)]
  show (do let (instr, next) ← (do let q ← (Reader.s2 : Reader DecodeError Int) c (pc + 1); _ : Except DecodeError (Instr × Nat)); pure (instr, next - pc) : Except DecodeError (Instr × Nat)) = _
  rw [dc_s2 (p := pc + 1) (dc_at (j := 1) h rfl) (dc_at (j := 2) h rfl)]
  show Except.ok (Instr.ifCond .ne _, pc + 1 + 2 - pc) = _
  rw [Nat.add_assoc, Nat.add_sub_cancel_left]
theorem dc_155 {c : ByteArray} {pc : Nat} {x y : Nat} (h : ((c.data.toList.drop pc).take 3).map UInt8.toNat = [155, x, y]) {k : Int} (e : Reader.signed 16 (x * 256 + y) = k) : decode c pc = .ok (.ifCond .lt k, 3) := by
  subst e
  unfold decode Decoder.instr Reader.runAt
  show (do let (instr, next) ← (do let q ← (Reader.u1 : Reader DecodeError Nat) c pc; _ : Except DecodeError (Instr × Nat)); pure (instr, next - pc) : Except DecodeError (Instr × Nat)) = _
  rw [dc_u1 (p := pc) (dc_at (j := 0) h rfl)]
  show (do let (instr, next) ← (do let q ← (Reader.s2 : Reader DecodeError Int) c (pc + 1); _ : Except DecodeError (Instr × Nat)); pure (instr, next - pc) : Except DecodeError (Instr × Nat)) = _
  rw [dc_s2 (p := pc + 1) (dc_at (j := 1) h rfl) (dc_at (j := 2) h rfl)]
  show Except.ok (Instr.ifCond .lt _, pc + 1 + 2 - pc) = _
  rw [Nat.add_assoc, Nat.add_sub_cancel_left]
theorem dc_156 {c : ByteArray} {pc : Nat} {x y : Nat} (h : ((c.data.toList.drop pc).take 3).map UInt8.toNat = [156, x, y]) {k : Int} (e : Reader.signed 16 (x * 256 + y) = k) : decode c pc = .ok (.ifCond .ge k, 3) := by
  subst e
  unfold decode Decoder.instr Reader.runAt
  show (do let (instr, next) ← (do let q ← (Reader.u1 : Reader DecodeError Nat) c pc; _ : Except DecodeError (Instr × Nat)); pure (instr, next - pc) : Except DecodeError (Instr × Nat)) = _
  rw [dc_u1 (p := pc) (dc_at (j := 0) h rfl)]
  show (do let (instr, next) ← (do let q ← (Reader.s2 : Reader DecodeError Int) c (pc + 1); _ : Except DecodeError (Instr × Nat)); pure (instr, next - pc) : Except DecodeError (Instr × Nat)) = _
  rw [dc_s2 (p := pc + 1) (dc_at (j := 1) h rfl) (dc_at (j := 2) h rfl)]
  show Except.ok (Instr.ifCond .ge _, pc + 1 + 2 - pc) = _
  rw [Nat.add_assoc, Nat.add_sub_cancel_left]
theorem dc_157 {c : ByteArray} {pc : Nat} {x y : Nat} (h : ((c.data.toList.drop pc).take 3).map UInt8.toNat = [157, x, y]) {k : Int} (e : Reader.signed 16 (x * 256 + y) = k) : decode c pc = .ok (.ifCond .gt k, 3) := by
  subst e
  unfold decode Decoder.instr Reader.runAt
  show (do let (instr, next) ← (do let q ← (Reader.u1 : Reader DecodeError Nat) c pc; _ : Except DecodeError (Instr × Nat)); pure (instr, next - pc) : Except DecodeError (Instr × Nat)) = _
  rw [dc_u1 (p := pc) (dc_at (j := 0) h rfl)]
  show (do let (instr, next) ← (do let q ← (Reader.s2 : Reader DecodeError Int) c (pc + 1); _ : Except DecodeError (Instr × Nat)); pure (instr, next - pc) : Except DecodeError (Instr × Nat)) = _
  rw [dc_s2 (p := pc + 1) (dc_at (j := 1) h rfl) (dc_at (j := 2) h rfl)]
  show Except.ok (Instr.ifCond .gt _, pc + 1 + 2 - pc) = _
  rw [Nat.add_assoc, Nat.add_sub_cancel_left]
theorem dc_158 {c : ByteArray} {pc : Nat} {x y : Nat} (h : ((c.data.toList.drop pc).take 3).map UInt8.toNat = [158, x, y]) {k : Int} (e : Reader.signed 16 (x * 256 + y) = k) : decode c pc = .ok (.ifCond .le k, 3) := by
  subst e
  unfold decode Decoder.instr Reader.runAt
  show (do let (instr, next) ← (do let q ← (Reader.u1 : Reader DecodeError Nat) c pc; _ : Except DecodeError (Instr × Nat)); pure (instr, next - pc) : Except DecodeError (Instr × Nat)) = _
  rw [dc_u1 (p := pc) (dc_at (j := 0) h rfl)]
  show (do let (instr, next) ← (do let q ← (Reader.s2 : Reader DecodeError Int) c (pc + 1); _ : Except DecodeError (Instr × Nat)); pure (instr, next - pc) : Except DecodeError (Instr × Nat)) = _
  rw [dc_s2 (p := pc + 1) (dc_at (j := 1) h rfl) (dc_at (j := 2) h rfl)]
  show Except.ok (Instr.ifCond .le _, pc + 1 + 2 - pc) = _
  rw [Nat.add_assoc, Nat.add_sub_cancel_left]
theorem dc_159 {c : ByteArray} {pc : Nat} {x y : Nat} (h : ((c.data.toList.drop pc).take 3).map UInt8.toNat = [159, x, y]) {k : Int} (e : Reader.signed 16 (x * 256 + y) = k) : decode c pc = .ok (.if_icmp .eq k, 3) := by
  subst e
  unfold decode Decoder.instr Reader.runAt
  show (do let (instr, next) ← (do let q ← (Reader.u1 : Reader DecodeError Nat) c pc; _ : Except DecodeError (Instr × Nat)); pure (instr, next - pc) : Except DecodeError (Instr × Nat)) = _
  rw [dc_u1 (p := pc) (dc_at (j := 0) h rfl)]
  show (do let (instr, next) ← (do let q ← (Reader.s2 : Reader DecodeError Int) c (pc + 1); _ : Except DecodeError (Instr × Nat)); pure (instr, next - pc) : Except DecodeError (Instr × Nat)) = _
  rw [dc_s2 (p := pc + 1) (dc_at (j := 1) h rfl) (dc_at (j := 2) h rfl)]
  show Except.ok (Instr.if_icmp .eq _, pc + 1 + 2 - pc) = _
  rw [Nat.add_assoc, Nat.add_sub_cancel_left]
theorem dc_16 {c : ByteArray} {pc : Nat} {x : Nat} (h : ((c.data.toList.drop pc).take 2).map UInt8.toNat = [16, x]) {k : Int} (e : Reader.signed 8 x = k) : decode c pc = .ok (.bipush k, 2) := by
  subst e
  unfold decode Decoder.instr Reader.runAt
  show (do let (instr, next) ← (do let q ← (Reader.u1 : Reader DecodeError Nat) c pc; _ : Except DecodeError (Instr × Nat)); pure (instr, next - pc) : Except DecodeError (Instr × Nat)) = _
  rw [dc_u1 (p := pc) (dc_at (j := 0) h rfl)]
  show (do let (instr, next) ← (do let q ← (Reader.s1 : Reader DecodeError Int) c (pc + 1); _ : Except DecodeError (Instr × Nat)); pure (instr, next - pc) : Except DecodeError (Instr × Nat)) = _
  rw [dc_s1 (p := pc + 1) (dc_at (j := 1) h rfl)]
  show Except.ok (Instr.bipush _, pc + 1 + 1 - pc) = _
  rw [Nat.add_assoc, Nat.add_sub_cancel_left]
theorem dc_160 {c : ByteArray} {pc : Nat} {x y : Nat} (h : ((c.data.toList.drop pc).take 3).map UInt8.toNat = [160, x, y]) {k : Int} (e : Reader.signed 16 (x * 256 + y) = k) : decode c pc = .ok (.if_icmp .ne k, 3) := by
  subst e
  unfold decode Decoder.instr Reader.runAt
  show (do let (instr, next) ← (do let q ← (Reader.u1 : Reader DecodeError Nat) c pc; _ : Except DecodeError (Instr × Nat)); pure (instr, next - pc) : Except DecodeError (Instr × Nat)) = _
  rw [dc_u1 (p := pc) (dc_at (j := 0) h rfl)]
  show (do let (instr, next) ← (do let q ← (Reader.s2 : Reader DecodeError Int) c (pc + 1); _ : Except DecodeError (Instr × Nat)); pure (instr, next - pc) : Except DecodeError (Instr × Nat)) = _
  rw [dc_s2 (p := pc + 1) (dc_at (j := 1) h rfl) (dc_at (j := 2) h rfl)]
  show Except.ok (Instr.if_icmp .ne _, pc + 1 + 2 - pc) = _
  rw [Nat.add_assoc, Nat.add_sub_cancel_left]
theorem dc_161 {c : ByteArray} {pc : Nat} {x y : Nat} (h : ((c.data.toList.drop pc).take 3).map UInt8.toNat = [161, x, y]) {k : Int} (e : Reader.signed 16 (x * 256 + y) = k) : decode c pc = .ok (.if_icmp .lt k, 3) := by
  subst e
  unfold decode Decoder.instr Reader.runAt
  show (do let (instr, next) ← (do let q ← (Reader.u1 : Reader DecodeError Nat) c pc; _ : Except DecodeError (Instr × Nat)); pure (instr, next - pc) : Except DecodeError (Instr × Nat)) = _
  rw [dc_u1 (p := pc) (dc_at (j := 0) h rfl)]
  show (do let (instr, next) ← (do let q ← (Reader.s2 : Reader DecodeError Int) c (pc + 1); _ : Except DecodeError (Instr × Nat)); pure (instr, next - pc) : Except DecodeError (Instr × Nat)) = _
  rw [dc_s2 (p := pc + 1) (dc_at (j := 1) h rfl) (dc_at (j := 2) h rfl)]
  show Except.ok (Instr.if_icmp .lt _, pc + 1 + 2 - pc) = _
  rw [Nat.add_assoc, Nat.add_sub_cancel_left]
theorem dc_162 {c : ByteArray} {pc : Nat} {x y : Nat} (h : ((c.data.toList.drop pc).take 3).map UInt8.toNat = [162, x, y]) {k : Int} (e : Reader.signed 16 (x * 256 + y) = k) : decode c pc = .ok (.if_icmp .ge k, 3) := by
  subst e
  unfold decode Decoder.instr Reader.runAt
  show (do let (instr, next) ← (do let q ← (Reader.u1 : Reader DecodeError Nat) c pc; _ : Except DecodeError (Instr × Nat)); pure (instr, next - pc) : Except DecodeError (Instr × Nat)) = _
  rw [dc_u1 (p := pc) (dc_at (j := 0) h rfl)]
  show (do let (instr, next) ← (do let q ← (Reader.s2 : Reader DecodeError Int) c (pc + 1); _ : Except DecodeError (Instr × Nat)); pure (instr, next - pc) : Except DecodeError (Instr × Nat)) = _
  rw [dc_s2 (p := pc + 1) (dc_at (j := 1) h rfl) (dc_at (j := 2) h rfl)]
  show Except.ok (Instr.if_icmp .ge _, pc + 1 + 2 - pc) = _
  rw [Nat.add_assoc, Nat.add_sub_cancel_left]
theorem dc_163 {c : ByteArray} {pc : Nat} {x y : Nat} (h : ((c.data.toList.drop pc).take 3).map UInt8.toNat = [163, x, y]) {k : Int} (e : Reader.signed 16 (x * 256 + y) = k) : decode c pc = .ok (.if_icmp .gt k, 3) := by
  subst e
  unfold decode Decoder.instr Reader.runAt
  show (do let (instr, next) ← (do let q ← (Reader.u1 : Reader DecodeError Nat) c pc; _ : Except DecodeError (Instr × Nat)); pure (instr, next - pc) : Except DecodeError (Instr × Nat)) = _
  rw [dc_u1 (p := pc) (dc_at (j := 0) h rfl)]
  show (do let (instr, next) ← (do let q ← (Reader.s2 : Reader DecodeError Int) c (pc + 1); _ : Except DecodeError (Instr × Nat)); pure (instr, next - pc) : Except DecodeError (Instr × Nat)) = _
  rw [dc_s2 (p := pc + 1) (dc_at (j := 1) h rfl) (dc_at (j := 2) h rfl)]
  show Except.ok (Instr.if_icmp .gt _, pc + 1 + 2 - pc) = _
  rw [Nat.add_assoc, Nat.add_sub_cancel_left]
theorem dc_164 {c : ByteArray} {pc : Nat} {x y : Nat} (h : ((c.data.toList.drop pc).take 3).map UInt8.toNat = [164, x, y]) {k : Int} (e : Reader.signed 16 (x * 256 + y) = k) : decode c pc = .ok (.if_icmp .le k, 3) := by
  subst e
  unfold decode Decoder.instr Reader.runAt
  show (do let (instr, next) ← (do let q ← (Reader.u1 : Reader DecodeError Nat) c pc; _ : Except DecodeError (Instr × Nat)); pure (instr, next - pc) : Except DecodeError (Instr × Nat)) = _
  rw [dc_u1 (p := pc) (dc_at (j := 0) h rfl)]
  show (do let (instr, next) ← (do let q ← (Reader.s2 : Reader DecodeError Int) c (pc + 1); _ : Except DecodeError (Instr × Nat)); pure (instr, next - pc) : Except DecodeError (Instr × Nat)) = _
  rw [dc_s2 (p := pc + 1) (dc_at (j := 1) h rfl) (dc_at (j := 2) h rfl)]
  show Except.ok (Instr.if_icmp .le _, pc + 1 + 2 - pc) = _
  rw [Nat.add_assoc, Nat.add_sub_cancel_left]
theorem dc_167 {c : ByteArray} {pc : Nat} {x y : Nat} (h : ((c.data.toList.drop pc).take 3).map UInt8.toNat = [167, x, y]) {k : Int} (e : Reader.signed 16 (x * 256 + y) = k) : decode c pc = .ok (.goto k, 3) := by
  subst e
  unfold decode Decoder.instr Reader.runAt
  show (do let (instr, next) ← (do let q ← (Reader.u1 : Reader DecodeError Nat) c pc; _ : Except DecodeError (Instr × Nat)); pure (instr, next - pc) : Except DecodeError (Instr × Nat)) = _
  rw [dc_u1 (p := pc) (dc_at (j := 0) h rfl)]
  show (do let (instr, next) ← (do let q ← (Reader.s2 : Reader DecodeError Int) c (pc + 1); _ : Except DecodeError (Instr × Nat)); pure (instr, next - pc) : Except DecodeError (Instr × Nat)) = _
  rw [dc_s2 (p := pc + 1) (dc_at (j := 1) h rfl) (dc_at (j := 2) h rfl)]
  show Except.ok (Instr.goto _, pc + 1 + 2 - pc) = _
  rw [Nat.add_assoc, Nat.add_sub_cancel_left]
theorem dc_17 {c : ByteArray} {pc : Nat} {x y : Nat} (h : ((c.data.toList.drop pc).take 3).map UInt8.toNat = [17, x, y]) {k : Int} (e : Reader.signed 16 (x * 256 + y) = k) : decode c pc = .ok (.sipush k, 3) := by
  subst e
  unfold decode Decoder.instr Reader.runAt
  show (do let (instr, next) ← (do let q ← (Reader.u1 : Reader DecodeError Nat) c pc; _ : Except DecodeError (Instr × Nat)); pure (instr, next - pc) : Except DecodeError (Instr × Nat)) = _
  rw [dc_u1 (p := pc) (dc_at (j := 0) h rfl)]
  show (do let (instr, next) ← (do let q ← (Reader.s2 : Reader DecodeError Int) c (pc + 1); _ : Except DecodeError (Instr × Nat)); pure (instr, next - pc) : Except DecodeError (Instr × Nat)) = _
  rw [dc_s2 (p := pc + 1) (dc_at (j := 1) h rfl) (dc_at (j := 2) h rfl)]
  show Except.ok (Instr.sipush _, pc + 1 + 2 - pc) = _
  rw [Nat.add_assoc, Nat.add_sub_cancel_left]
theorem dc_172 {c : ByteArray} {pc : Nat} (h : ((c.data.toList.drop pc).take 1).map UInt8.toNat = [172]) : decode c pc = .ok (.ireturn, 1) := by
  unfold decode Decoder.instr Reader.runAt
  show (do let (instr, next) ← (do let q ← (Reader.u1 : Reader DecodeError Nat) c pc; _ : Except DecodeError (Instr × Nat)); pure (instr, next - pc) : Except DecodeError (Instr × Nat)) = _
  rw [dc_u1 (p := pc) (dc_at (j := 0) h rfl)]
  show Except.ok (Instr.ireturn, pc + 1 - pc) = _
  rw [Nat.add_sub_cancel_left]
theorem dc_173 {c : ByteArray} {pc : Nat} (h : ((c.data.toList.drop pc).take 1).map UInt8.toNat = [173]) : decode c pc = .ok (.lreturn, 1) := by
  unfold decode Decoder.instr Reader.runAt
  show (do let (instr, next) ← (do let q ← (Reader.u1 : Reader DecodeError Nat) c pc; _ : Except DecodeError (Instr × Nat)); pure (instr, next - pc) : Except DecodeError (Instr × Nat)) = _
  rw [dc_u1 (p := pc) (dc_at (j := 0) h rfl)]
  show Except.ok (Instr.lreturn, pc + 1 - pc) = _
  rw [Nat.add_sub_cancel_left]
theorem dc_176 {c : ByteArray} {pc : Nat} (h : ((c.data.toList.drop pc).take 1).map UInt8.toNat = [176]) : decode c pc = .ok (.areturn, 1) := by
  unfold decode Decoder.instr Reader.runAt
  show (do let (instr, next) ← (do let q ← (Reader.u1 : Reader DecodeError Nat) c pc; _ : Except DecodeError (Instr × Nat)); pure (instr, next - pc) : Except DecodeError (Instr × Nat)) = _
  rw [dc_u1 (p := pc) (dc_at (j := 0) h rfl)]
  show Except.ok (Instr.areturn, pc + 1 - pc) = _
  rw [Nat.add_sub_cancel_left]
theorem dc_177 {c : ByteArray} {pc : Nat} (h : ((c.data.toList.drop pc).take 1).map UInt8.toNat = [177]) : decode c pc = .ok (.return_, 1) := by
  unfold decode Decoder.instr Reader.runAt
  show (do let (instr, next) ← (do let q ← (Reader.u1 : Reader DecodeError Nat) c pc; _ : Except DecodeError (Instr × Nat)); pure (instr, next - pc) : Except DecodeError (Instr × Nat)) = _
  rw [dc_u1 (p := pc) (dc_at (j := 0) h rfl)]
  show Except.ok (Instr.return_, pc + 1 - pc) = _
  rw [Nat.add_sub_cancel_left]
theorem dc_178 {c : ByteArray} {pc : Nat} {x y : Nat} (h : ((c.data.toList.drop pc).take 3).map UInt8.toNat = [178, x, y]) {k : Nat} (e : x * 256 + y = k) : decode c pc = .ok (.getstatic k, 3) := by
  subst e
  unfold decode Decoder.instr Reader.runAt
  show (do let (instr, next) ← (do let q ← (Reader.u1 : Reader DecodeError Nat) c pc; _ : Except DecodeError (Instr × Nat)); pure (instr, next - pc) : Except DecodeError (Instr × Nat)) = _
  rw [dc_u1 (p := pc) (dc_at (j := 0) h rfl)]
  show (do let (instr, next) ← (do let q ← (Reader.u2 : Reader DecodeError Nat) c (pc + 1); _ : Except DecodeError (Instr × Nat)); pure (instr, next - pc) : Except DecodeError (Instr × Nat)) = _
  rw [dc_u2 (p := pc + 1) (dc_at (j := 1) h rfl) (dc_at (j := 2) h rfl)]
  show Except.ok (Instr.getstatic _, pc + 1 + 2 - pc) = _
  rw [Nat.add_assoc, Nat.add_sub_cancel_left]
theorem dc_18 {c : ByteArray} {pc : Nat} {x : Nat} (h : ((c.data.toList.drop pc).take 2).map UInt8.toNat = [18, x]) {k : Nat} (e : x = k) : decode c pc = .ok (.ldc k, 2) := by
  subst e
  unfold decode Decoder.instr Reader.runAt
  show (do let (instr, next) ← (do let q ← (Reader.u1 : Reader DecodeError Nat) c pc; _ : Except DecodeError (Instr × Nat)); pure (instr, next - pc) : Except DecodeError (Instr × Nat)) = _
  rw [dc_u1 (p := pc) (dc_at (j := 0) h rfl)]
  show (do let (instr, next) ← (do let q ← (Reader.u1 : Reader DecodeError Nat) c (pc + 1); _ : Except DecodeError (Instr × Nat)); pure (instr, next - pc) : Except DecodeError (Instr × Nat)) = _
  rw [dc_u1 (p := pc + 1) (dc_at (j := 1) h rfl)]
  show Except.ok (Instr.ldc _, pc + 1 + 1 - pc) = _
  rw [Nat.add_assoc, Nat.add_sub_cancel_left]
theorem dc_180 {c : ByteArray} {pc : Nat} {x y : Nat} (h : ((c.data.toList.drop pc).take 3).map UInt8.toNat = [180, x, y]) {k : Nat} (e : x * 256 + y = k) : decode c pc = .ok (.getfield k, 3) := by
  subst e
  unfold decode Decoder.instr Reader.runAt
  show (do let (instr, next) ← (do let q ← (Reader.u1 : Reader DecodeError Nat) c pc; _ : Except DecodeError (Instr × Nat)); pure (instr, next - pc) : Except DecodeError (Instr × Nat)) = _
  rw [dc_u1 (p := pc) (dc_at (j := 0) h rfl)]
  show (do let (instr, next) ← (do let q ← (Reader.u2 : Reader DecodeError Nat) c (pc + 1); _ : Except DecodeError (Instr × Nat)); pure (instr, next - pc) : Except DecodeError (Instr × Nat)) = _
  rw [dc_u2 (p := pc + 1) (dc_at (j := 1) h rfl) (dc_at (j := 2) h rfl)]
  show Except.ok (Instr.getfield _, pc + 1 + 2 - pc) = _
  rw [Nat.add_assoc, Nat.add_sub_cancel_left]
theorem dc_181 {c : ByteArray} {pc : Nat} {x y : Nat} (h : ((c.data.toList.drop pc).take 3).map UInt8.toNat = [181, x, y]) {k : Nat} (e : x * 256 + y = k) : decode c pc = .ok (.putfield k, 3) := by
  subst e
  unfold decode Decoder.instr Reader.runAt
  show (do let (instr, next) ← (do let q ← (Reader.u1 : Reader DecodeError Nat) c pc; _ : Except DecodeError (Instr × Nat)); pure (instr, next - pc) : Except DecodeError (Instr × Nat)) = _
  rw [dc_u1 (p := pc) (dc_at (j := 0) h rfl)]
  show (do let (instr, next) ← (do let q ← (Reader.u2 : Reader DecodeError Nat) c (pc + 1); _ : Except DecodeError (Instr × Nat)); pure (instr, next - pc) : Except DecodeError (Instr × Nat)) = _
  rw [dc_u2 (p := pc + 1) (dc_at (j := 1) h rfl) (dc_at (j := 2) h rfl)]
  show Except.ok (Instr.putfield _, pc + 1 + 2 - pc) = _
  rw [Nat.add_assoc, Nat.add_sub_cancel_left]
theorem dc_182 {c : ByteArray} {pc : Nat} {x y : Nat} (h : ((c.data.toList.drop pc).take 3).map UInt8.toNat = [182, x, y]) {k : Nat} (e : x * 256 + y = k) : decode c pc = .ok (.invokevirtual k, 3) := by
  subst e
  unfold decode Decoder.instr Reader.runAt
  show (do let (instr, next) ← (do let q ← (Reader.u1 : Reader DecodeError Nat) c pc; _ : Except DecodeError (Instr × Nat)); pure (instr, next - pc) : Except DecodeError (Instr × Nat)) = _
  rw [dc_u1 (p := pc) (dc_at (j := 0) h rfl)]
  show (do let (instr, next) ← (do let q ← (Reader.u2 : Reader DecodeError Nat) c (pc + 1); _ : Except DecodeError (Instr × Nat)); pure (instr, next - pc) : Except DecodeError (Instr × Nat)) = _
  rw [dc_u2 (p := pc + 1) (dc_at (j := 1) h rfl) (dc_at (j := 2) h rfl)]
  show Except.ok (Instr.invokevirtual _, pc + 1 + 2 - pc) = _
  rw [Nat.add_assoc, Nat.add_sub_cancel_left]
theorem dc_183 {c : ByteArray} {pc : Nat} {x y : Nat} (h : ((c.data.toList.drop pc).take 3).map UInt8.toNat = [183, x, y]) {k : Nat} (e : x * 256 + y = k) : decode c pc = .ok (.invokespecial k, 3) := by
  subst e
  unfold decode Decoder.instr Reader.runAt
  show (do let (instr, next) ← (do let q ← (Reader.u1 : Reader DecodeError Nat) c pc; _ : Except DecodeError (Instr × Nat)); pure (instr, next - pc) : Except DecodeError (Instr × Nat)) = _
  rw [dc_u1 (p := pc) (dc_at (j := 0) h rfl)]
  show (do let (instr, next) ← (do let q ← (Reader.u2 : Reader DecodeError Nat) c (pc + 1); _ : Except DecodeError (Instr × Nat)); pure (instr, next - pc) : Except DecodeError (Instr × Nat)) = _
  rw [dc_u2 (p := pc + 1) (dc_at (j := 1) h rfl) (dc_at (j := 2) h rfl)]
  show Except.ok (Instr.invokespecial _, pc + 1 + 2 - pc) = _
  rw [Nat.add_assoc, Nat.add_sub_cancel_left]
theorem dc_184 {c : ByteArray} {pc : Nat} {x y : Nat} (h : ((c.data.toList.drop pc).take 3).map UInt8.toNat = [184, x, y]) {k : Nat} (e : x * 256 + y = k) : decode c pc = .ok (.invokestatic k, 3) := by
  subst e
  unfold decode Decoder.instr Reader.runAt
  show (do let (instr, next) ← (do let q ← (Reader.u1 : Reader DecodeError Nat) c pc; _ : Except DecodeError (Instr × Nat)); pure (instr, next - pc) : Except DecodeError (Instr × Nat)) = _
  rw [dc_u1 (p := pc) (dc_at (j := 0) h rfl)]
  show (do let (instr, next) ← (do let q ← (Reader.u2 : Reader DecodeError Nat) c (pc + 1); _ : Except DecodeError (Instr × Nat)); pure (instr, next - pc) : Except DecodeError (Instr × Nat)) = _
  rw [dc_u2 (p := pc + 1) (dc_at (j := 1) h rfl) (dc_at (j := 2) h rfl)]
  show Except.ok (Instr.invokestatic _, pc + 1 + 2 - pc) = _
  rw [Nat.add_assoc, Nat.add_sub_cancel_left]
theorem dc_187 {c : ByteArray} {pc : Nat} {x y : Nat} (h : ((c.data.toList.drop pc).take 3).map UInt8.toNat = [187, x, y]) {k : Nat} (e : x * 256 + y = k) : decode c pc = .ok (.new k, 3) := by
  subst e
  unfold decode Decoder.instr Reader.runAt
  show (do let (instr, next) ← (do let q ← (Reader.u1 : Reader DecodeError Nat) c pc; _ : Except DecodeError (Instr × Nat)); pure (instr, next - pc) : Except DecodeError (Instr × Nat)) = _
  rw [dc_u1 (p := pc) (dc_at (j := 0) h rfl)]
  show (do let (instr, next) ← (do let q ← (Reader.u2 : Reader DecodeError Nat) c (pc + 1); _ : Except DecodeError (Instr × Nat)); pure (instr, next - pc) : Except DecodeError (Instr × Nat)) = _
  rw [dc_u2 (p := pc + 1) (dc_at (j := 1) h rfl) (dc_at (j := 2) h rfl)]
  show Except.ok (Instr.new _, pc + 1 + 2 - pc) = _
  rw [Nat.add_assoc, Nat.add_sub_cancel_left]
theorem dc_188_10 {c : ByteArray} {pc : Nat} (h : ((c.data.toList.drop pc).take 2).map UInt8.toNat = [188, 10]) : decode c pc = .ok (.newarray .int, 2) := by
  unfold decode Decoder.instr Reader.runAt
  show (do let (instr, next) ← (do let q ← (Reader.u1 : Reader DecodeError Nat) c pc; _ : Except DecodeError (Instr × Nat)); pure (instr, next - pc) : Except DecodeError (Instr × Nat)) = _
  rw [dc_u1 (p := pc) (dc_at (j := 0) h rfl)]
  show (do let (instr, next) ← (do let q ← (Reader.u1 : Reader DecodeError Nat) c (pc + 1); _ : Except DecodeError (Instr × Nat)); pure (instr, next - pc) : Except DecodeError (Instr × Nat)) = _
  rw [dc_u1 (p := pc + 1) (dc_at (j := 1) h rfl)]
  show Except.ok (Instr.newarray .int, pc + 1 + 1 - pc) = _
  rw [Nat.add_assoc, Nat.add_sub_cancel_left]
theorem dc_188_11 {c : ByteArray} {pc : Nat} (h : ((c.data.toList.drop pc).take 2).map UInt8.toNat = [188, 11]) : decode c pc = .ok (.newarray .long, 2) := by
  unfold decode Decoder.instr Reader.runAt
  show (do let (instr, next) ← (do let q ← (Reader.u1 : Reader DecodeError Nat) c pc; _ : Except DecodeError (Instr × Nat)); pure (instr, next - pc) : Except DecodeError (Instr × Nat)) = _
  rw [dc_u1 (p := pc) (dc_at (j := 0) h rfl)]
  show (do let (instr, next) ← (do let q ← (Reader.u1 : Reader DecodeError Nat) c (pc + 1); _ : Except DecodeError (Instr × Nat)); pure (instr, next - pc) : Except DecodeError (Instr × Nat)) = _
  rw [dc_u1 (p := pc + 1) (dc_at (j := 1) h rfl)]
  show Except.ok (Instr.newarray .long, pc + 1 + 1 - pc) = _
  rw [Nat.add_assoc, Nat.add_sub_cancel_left]
theorem dc_188_4 {c : ByteArray} {pc : Nat} (h : ((c.data.toList.drop pc).take 2).map UInt8.toNat = [188, 4]) : decode c pc = .ok (.newarray .boolean, 2) := by
  unfold decode Decoder.instr Reader.runAt
  show (do let (instr, next) ← (do let q ← (Reader.u1 : Reader DecodeError Nat) c pc; _ : Except DecodeError (Instr × Nat)); pure (instr, next - pc) : Except DecodeError (Instr × Nat)) = _
  rw [dc_u1 (p := pc) (dc_at (j := 0) h rfl)]
  show (do let (instr, next) ← (do let q ← (Reader.u1 : Reader DecodeError Nat) c (pc + 1); _ : Except DecodeError (Instr × Nat)); pure (instr, next - pc) : Except DecodeError (Instr × Nat)) = _
  rw [dc_u1 (p := pc + 1) (dc_at (j := 1) h rfl)]
  show Except.ok (Instr.newarray .boolean, pc + 1 + 1 - pc) = _
  rw [Nat.add_assoc, Nat.add_sub_cancel_left]
theorem dc_188_8 {c : ByteArray} {pc : Nat} (h : ((c.data.toList.drop pc).take 2).map UInt8.toNat = [188, 8]) : decode c pc = .ok (.newarray .byte, 2) := by
  unfold decode Decoder.instr Reader.runAt
  show (do let (instr, next) ← (do let q ← (Reader.u1 : Reader DecodeError Nat) c pc; _ : Except DecodeError (Instr × Nat)); pure (instr, next - pc) : Except DecodeError (Instr × Nat)) = _
  rw [dc_u1 (p := pc) (dc_at (j := 0) h rfl)]
  show (do let (instr, next) ← (do let q ← (Reader.u1 : Reader DecodeError Nat) c (pc + 1); _ : Except DecodeError (Instr × Nat)); pure (instr, next - pc) : Except DecodeError (Instr × Nat)) = _
  rw [dc_u1 (p := pc + 1) (dc_at (j := 1) h rfl)]
  show Except.ok (Instr.newarray .byte, pc + 1 + 1 - pc) = _
  rw [Nat.add_assoc, Nat.add_sub_cancel_left]
theorem dc_189 {c : ByteArray} {pc : Nat} {x y : Nat} (h : ((c.data.toList.drop pc).take 3).map UInt8.toNat = [189, x, y]) {k : Nat} (e : x * 256 + y = k) : decode c pc = .ok (.anewarray k, 3) := by
  subst e
  unfold decode Decoder.instr Reader.runAt
  show (do let (instr, next) ← (do let q ← (Reader.u1 : Reader DecodeError Nat) c pc; _ : Except DecodeError (Instr × Nat)); pure (instr, next - pc) : Except DecodeError (Instr × Nat)) = _
  rw [dc_u1 (p := pc) (dc_at (j := 0) h rfl)]
  show (do let (instr, next) ← (do let q ← (Reader.u2 : Reader DecodeError Nat) c (pc + 1); _ : Except DecodeError (Instr × Nat)); pure (instr, next - pc) : Except DecodeError (Instr × Nat)) = _
  rw [dc_u2 (p := pc + 1) (dc_at (j := 1) h rfl) (dc_at (j := 2) h rfl)]
  show Except.ok (Instr.anewarray _, pc + 1 + 2 - pc) = _
  rw [Nat.add_assoc, Nat.add_sub_cancel_left]
theorem dc_19 {c : ByteArray} {pc : Nat} {x y : Nat} (h : ((c.data.toList.drop pc).take 3).map UInt8.toNat = [19, x, y]) {k : Nat} (e : x * 256 + y = k) : decode c pc = .ok (.ldc_w k, 3) := by
  subst e
  unfold decode Decoder.instr Reader.runAt
  show (do let (instr, next) ← (do let q ← (Reader.u1 : Reader DecodeError Nat) c pc; _ : Except DecodeError (Instr × Nat)); pure (instr, next - pc) : Except DecodeError (Instr × Nat)) = _
  rw [dc_u1 (p := pc) (dc_at (j := 0) h rfl)]
  show (do let (instr, next) ← (do let q ← (Reader.u2 : Reader DecodeError Nat) c (pc + 1); _ : Except DecodeError (Instr × Nat)); pure (instr, next - pc) : Except DecodeError (Instr × Nat)) = _
  rw [dc_u2 (p := pc + 1) (dc_at (j := 1) h rfl) (dc_at (j := 2) h rfl)]
  show Except.ok (Instr.ldc_w _, pc + 1 + 2 - pc) = _
  rw [Nat.add_assoc, Nat.add_sub_cancel_left]
theorem dc_190 {c : ByteArray} {pc : Nat} (h : ((c.data.toList.drop pc).take 1).map UInt8.toNat = [190]) : decode c pc = .ok (.arraylength, 1) := by
  unfold decode Decoder.instr Reader.runAt
  show (do let (instr, next) ← (do let q ← (Reader.u1 : Reader DecodeError Nat) c pc; _ : Except DecodeError (Instr × Nat)); pure (instr, next - pc) : Except DecodeError (Instr × Nat)) = _
  rw [dc_u1 (p := pc) (dc_at (j := 0) h rfl)]
  show Except.ok (Instr.arraylength, pc + 1 - pc) = _
  rw [Nat.add_sub_cancel_left]
theorem dc_198 {c : ByteArray} {pc : Nat} {x y : Nat} (h : ((c.data.toList.drop pc).take 3).map UInt8.toNat = [198, x, y]) {k : Int} (e : Reader.signed 16 (x * 256 + y) = k) : decode c pc = .ok (.ifnull k, 3) := by
  subst e
  unfold decode Decoder.instr Reader.runAt
  show (do let (instr, next) ← (do let q ← (Reader.u1 : Reader DecodeError Nat) c pc; _ : Except DecodeError (Instr × Nat)); pure (instr, next - pc) : Except DecodeError (Instr × Nat)) = _
  rw [dc_u1 (p := pc) (dc_at (j := 0) h rfl)]
  show (do let (instr, next) ← (do let q ← (Reader.s2 : Reader DecodeError Int) c (pc + 1); _ : Except DecodeError (Instr × Nat)); pure (instr, next - pc) : Except DecodeError (Instr × Nat)) = _
  rw [dc_s2 (p := pc + 1) (dc_at (j := 1) h rfl) (dc_at (j := 2) h rfl)]
  show Except.ok (Instr.ifnull _, pc + 1 + 2 - pc) = _
  rw [Nat.add_assoc, Nat.add_sub_cancel_left]
theorem dc_199 {c : ByteArray} {pc : Nat} {x y : Nat} (h : ((c.data.toList.drop pc).take 3).map UInt8.toNat = [199, x, y]) {k : Int} (e : Reader.signed 16 (x * 256 + y) = k) : decode c pc = .ok (.ifnonnull k, 3) := by
  subst e
  unfold decode Decoder.instr Reader.runAt
  show (do let (instr, next) ← (do let q ← (Reader.u1 : Reader DecodeError Nat) c pc; _ : Except DecodeError (Instr × Nat)); pure (instr, next - pc) : Except DecodeError (Instr × Nat)) = _
  rw [dc_u1 (p := pc) (dc_at (j := 0) h rfl)]
  show (do let (instr, next) ← (do let q ← (Reader.s2 : Reader DecodeError Int) c (pc + 1); _ : Except DecodeError (Instr × Nat)); pure (instr, next - pc) : Except DecodeError (Instr × Nat)) = _
  rw [dc_s2 (p := pc + 1) (dc_at (j := 1) h rfl) (dc_at (j := 2) h rfl)]
  show Except.ok (Instr.ifnonnull _, pc + 1 + 2 - pc) = _
  rw [Nat.add_assoc, Nat.add_sub_cancel_left]
theorem dc_2 {c : ByteArray} {pc : Nat} (h : ((c.data.toList.drop pc).take 1).map UInt8.toNat = [2]) : decode c pc = .ok (.iconst (-1), 1) := by
  unfold decode Decoder.instr Reader.runAt
  show (do let (instr, next) ← (do let q ← (Reader.u1 : Reader DecodeError Nat) c pc; _ : Except DecodeError (Instr × Nat)); pure (instr, next - pc) : Except DecodeError (Instr × Nat)) = _
  rw [dc_u1 (p := pc) (dc_at (j := 0) h rfl)]
  show Except.ok (Instr.iconst (-1), pc + 1 - pc) = _
  rw [Nat.add_sub_cancel_left]
theorem dc_20 {c : ByteArray} {pc : Nat} {x y : Nat} (h : ((c.data.toList.drop pc).take 3).map UInt8.toNat = [20, x, y]) {k : Nat} (e : x * 256 + y = k) : decode c pc = .ok (.ldc2_w k, 3) := by
  subst e
  unfold decode Decoder.instr Reader.runAt
  show (do let (instr, next) ← (do let q ← (Reader.u1 : Reader DecodeError Nat) c pc; _ : Except DecodeError (Instr × Nat)); pure (instr, next - pc) : Except DecodeError (Instr × Nat)) = _
  rw [dc_u1 (p := pc) (dc_at (j := 0) h rfl)]
  show (do let (instr, next) ← (do let q ← (Reader.u2 : Reader DecodeError Nat) c (pc + 1); _ : Except DecodeError (Instr × Nat)); pure (instr, next - pc) : Except DecodeError (Instr × Nat)) = _
  rw [dc_u2 (p := pc + 1) (dc_at (j := 1) h rfl) (dc_at (j := 2) h rfl)]
  show Except.ok (Instr.ldc2_w _, pc + 1 + 2 - pc) = _
  rw [Nat.add_assoc, Nat.add_sub_cancel_left]
theorem dc_21 {c : ByteArray} {pc : Nat} {x : Nat} (h : ((c.data.toList.drop pc).take 2).map UInt8.toNat = [21, x]) {k : Nat} (e : x = k) : decode c pc = .ok (.iload k, 2) := by
  subst e
  unfold decode Decoder.instr Reader.runAt
  show (do let (instr, next) ← (do let q ← (Reader.u1 : Reader DecodeError Nat) c pc; _ : Except DecodeError (Instr × Nat)); pure (instr, next - pc) : Except DecodeError (Instr × Nat)) = _
  rw [dc_u1 (p := pc) (dc_at (j := 0) h rfl)]
  show (do let (instr, next) ← (do let q ← (Reader.u1 : Reader DecodeError Nat) c (pc + 1); _ : Except DecodeError (Instr × Nat)); pure (instr, next - pc) : Except DecodeError (Instr × Nat)) = _
  rw [dc_u1 (p := pc + 1) (dc_at (j := 1) h rfl)]
  show Except.ok (Instr.iload _, pc + 1 + 1 - pc) = _
  rw [Nat.add_assoc, Nat.add_sub_cancel_left]
theorem dc_25 {c : ByteArray} {pc : Nat} {x : Nat} (h : ((c.data.toList.drop pc).take 2).map UInt8.toNat = [25, x]) {k : Nat} (e : x = k) : decode c pc = .ok (.aload k, 2) := by
  subst e
  unfold decode Decoder.instr Reader.runAt
  show (do let (instr, next) ← (do let q ← (Reader.u1 : Reader DecodeError Nat) c pc; _ : Except DecodeError (Instr × Nat)); pure (instr, next - pc) : Except DecodeError (Instr × Nat)) = _
  rw [dc_u1 (p := pc) (dc_at (j := 0) h rfl)]
  show (do let (instr, next) ← (do let q ← (Reader.u1 : Reader DecodeError Nat) c (pc + 1); _ : Except DecodeError (Instr × Nat)); pure (instr, next - pc) : Except DecodeError (Instr × Nat)) = _
  rw [dc_u1 (p := pc + 1) (dc_at (j := 1) h rfl)]
  show Except.ok (Instr.aload _, pc + 1 + 1 - pc) = _
  rw [Nat.add_assoc, Nat.add_sub_cancel_left]
theorem dc_26 {c : ByteArray} {pc : Nat} (h : ((c.data.toList.drop pc).take 1).map UInt8.toNat = [26]) : decode c pc = .ok (.iload_n 0, 1) := by
  unfold decode Decoder.instr Reader.runAt
  show (do let (instr, next) ← (do let q ← (Reader.u1 : Reader DecodeError Nat) c pc; _ : Except DecodeError (Instr × Nat)); pure (instr, next - pc) : Except DecodeError (Instr × Nat)) = _
  rw [dc_u1 (p := pc) (dc_at (j := 0) h rfl)]
  show Except.ok (Instr.iload_n 0, pc + 1 - pc) = _
  rw [Nat.add_sub_cancel_left]
theorem dc_27 {c : ByteArray} {pc : Nat} (h : ((c.data.toList.drop pc).take 1).map UInt8.toNat = [27]) : decode c pc = .ok (.iload_n 1, 1) := by
  unfold decode Decoder.instr Reader.runAt
  show (do let (instr, next) ← (do let q ← (Reader.u1 : Reader DecodeError Nat) c pc; _ : Except DecodeError (Instr × Nat)); pure (instr, next - pc) : Except DecodeError (Instr × Nat)) = _
  rw [dc_u1 (p := pc) (dc_at (j := 0) h rfl)]
  show Except.ok (Instr.iload_n 1, pc + 1 - pc) = _
  rw [Nat.add_sub_cancel_left]
theorem dc_28 {c : ByteArray} {pc : Nat} (h : ((c.data.toList.drop pc).take 1).map UInt8.toNat = [28]) : decode c pc = .ok (.iload_n 2, 1) := by
  unfold decode Decoder.instr Reader.runAt
  show (do let (instr, next) ← (do let q ← (Reader.u1 : Reader DecodeError Nat) c pc; _ : Except DecodeError (Instr × Nat)); pure (instr, next - pc) : Except DecodeError (Instr × Nat)) = _
  rw [dc_u1 (p := pc) (dc_at (j := 0) h rfl)]
  show Except.ok (Instr.iload_n 2, pc + 1 - pc) = _
  rw [Nat.add_sub_cancel_left]
theorem dc_29 {c : ByteArray} {pc : Nat} (h : ((c.data.toList.drop pc).take 1).map UInt8.toNat = [29]) : decode c pc = .ok (.iload_n 3, 1) := by
  unfold decode Decoder.instr Reader.runAt
  show (do let (instr, next) ← (do let q ← (Reader.u1 : Reader DecodeError Nat) c pc; _ : Except DecodeError (Instr × Nat)); pure (instr, next - pc) : Except DecodeError (Instr × Nat)) = _
  rw [dc_u1 (p := pc) (dc_at (j := 0) h rfl)]
  show Except.ok (Instr.iload_n 3, pc + 1 - pc) = _
  rw [Nat.add_sub_cancel_left]
theorem dc_3 {c : ByteArray} {pc : Nat} (h : ((c.data.toList.drop pc).take 1).map UInt8.toNat = [3]) : decode c pc = .ok (.iconst 0, 1) := by
  unfold decode Decoder.instr Reader.runAt
  show (do let (instr, next) ← (do let q ← (Reader.u1 : Reader DecodeError Nat) c pc; _ : Except DecodeError (Instr × Nat)); pure (instr, next - pc) : Except DecodeError (Instr × Nat)) = _
  rw [dc_u1 (p := pc) (dc_at (j := 0) h rfl)]
  show Except.ok (Instr.iconst 0, pc + 1 - pc) = _
  rw [Nat.add_sub_cancel_left]
theorem dc_30 {c : ByteArray} {pc : Nat} (h : ((c.data.toList.drop pc).take 1).map UInt8.toNat = [30]) : decode c pc = .ok (.lload_n 0, 1) := by
  unfold decode Decoder.instr Reader.runAt
  show (do let (instr, next) ← (do let q ← (Reader.u1 : Reader DecodeError Nat) c pc; _ : Except DecodeError (Instr × Nat)); pure (instr, next - pc) : Except DecodeError (Instr × Nat)) = _
  rw [dc_u1 (p := pc) (dc_at (j := 0) h rfl)]
  show Except.ok (Instr.lload_n 0, pc + 1 - pc) = _
  rw [Nat.add_sub_cancel_left]
theorem dc_31 {c : ByteArray} {pc : Nat} (h : ((c.data.toList.drop pc).take 1).map UInt8.toNat = [31]) : decode c pc = .ok (.lload_n 1, 1) := by
  unfold decode Decoder.instr Reader.runAt
  show (do let (instr, next) ← (do let q ← (Reader.u1 : Reader DecodeError Nat) c pc; _ : Except DecodeError (Instr × Nat)); pure (instr, next - pc) : Except DecodeError (Instr × Nat)) = _
  rw [dc_u1 (p := pc) (dc_at (j := 0) h rfl)]
  show Except.ok (Instr.lload_n 1, pc + 1 - pc) = _
  rw [Nat.add_sub_cancel_left]
theorem dc_32 {c : ByteArray} {pc : Nat} (h : ((c.data.toList.drop pc).take 1).map UInt8.toNat = [32]) : decode c pc = .ok (.lload_n 2, 1) := by
  unfold decode Decoder.instr Reader.runAt
  show (do let (instr, next) ← (do let q ← (Reader.u1 : Reader DecodeError Nat) c pc; _ : Except DecodeError (Instr × Nat)); pure (instr, next - pc) : Except DecodeError (Instr × Nat)) = _
  rw [dc_u1 (p := pc) (dc_at (j := 0) h rfl)]
  show Except.ok (Instr.lload_n 2, pc + 1 - pc) = _
  rw [Nat.add_sub_cancel_left]
theorem dc_4 {c : ByteArray} {pc : Nat} (h : ((c.data.toList.drop pc).take 1).map UInt8.toNat = [4]) : decode c pc = .ok (.iconst 1, 1) := by
  unfold decode Decoder.instr Reader.runAt
  show (do let (instr, next) ← (do let q ← (Reader.u1 : Reader DecodeError Nat) c pc; _ : Except DecodeError (Instr × Nat)); pure (instr, next - pc) : Except DecodeError (Instr × Nat)) = _
  rw [dc_u1 (p := pc) (dc_at (j := 0) h rfl)]
  show Except.ok (Instr.iconst 1, pc + 1 - pc) = _
  rw [Nat.add_sub_cancel_left]
theorem dc_42 {c : ByteArray} {pc : Nat} (h : ((c.data.toList.drop pc).take 1).map UInt8.toNat = [42]) : decode c pc = .ok (.aload_n 0, 1) := by
  unfold decode Decoder.instr Reader.runAt
  show (do let (instr, next) ← (do let q ← (Reader.u1 : Reader DecodeError Nat) c pc; _ : Except DecodeError (Instr × Nat)); pure (instr, next - pc) : Except DecodeError (Instr × Nat)) = _
  rw [dc_u1 (p := pc) (dc_at (j := 0) h rfl)]
  show Except.ok (Instr.aload_n 0, pc + 1 - pc) = _
  rw [Nat.add_sub_cancel_left]
theorem dc_43 {c : ByteArray} {pc : Nat} (h : ((c.data.toList.drop pc).take 1).map UInt8.toNat = [43]) : decode c pc = .ok (.aload_n 1, 1) := by
  unfold decode Decoder.instr Reader.runAt
  show (do let (instr, next) ← (do let q ← (Reader.u1 : Reader DecodeError Nat) c pc; _ : Except DecodeError (Instr × Nat)); pure (instr, next - pc) : Except DecodeError (Instr × Nat)) = _
  rw [dc_u1 (p := pc) (dc_at (j := 0) h rfl)]
  show Except.ok (Instr.aload_n 1, pc + 1 - pc) = _
  rw [Nat.add_sub_cancel_left]
theorem dc_44 {c : ByteArray} {pc : Nat} (h : ((c.data.toList.drop pc).take 1).map UInt8.toNat = [44]) : decode c pc = .ok (.aload_n 2, 1) := by
  unfold decode Decoder.instr Reader.runAt
  show (do let (instr, next) ← (do let q ← (Reader.u1 : Reader DecodeError Nat) c pc; _ : Except DecodeError (Instr × Nat)); pure (instr, next - pc) : Except DecodeError (Instr × Nat)) = _
  rw [dc_u1 (p := pc) (dc_at (j := 0) h rfl)]
  show Except.ok (Instr.aload_n 2, pc + 1 - pc) = _
  rw [Nat.add_sub_cancel_left]
theorem dc_45 {c : ByteArray} {pc : Nat} (h : ((c.data.toList.drop pc).take 1).map UInt8.toNat = [45]) : decode c pc = .ok (.aload_n 3, 1) := by
  unfold decode Decoder.instr Reader.runAt
  show (do let (instr, next) ← (do let q ← (Reader.u1 : Reader DecodeError Nat) c pc; _ : Except DecodeError (Instr × Nat)); pure (instr, next - pc) : Except DecodeError (Instr × Nat)) = _
  rw [dc_u1 (p := pc) (dc_at (j := 0) h rfl)]
  show Except.ok (Instr.aload_n 3, pc + 1 - pc) = _
  rw [Nat.add_sub_cancel_left]
theorem dc_46 {c : ByteArray} {pc : Nat} (h : ((c.data.toList.drop pc).take 1).map UInt8.toNat = [46]) : decode c pc = .ok (.iaload, 1) := by
  unfold decode Decoder.instr Reader.runAt
  show (do let (instr, next) ← (do let q ← (Reader.u1 : Reader DecodeError Nat) c pc; _ : Except DecodeError (Instr × Nat)); pure (instr, next - pc) : Except DecodeError (Instr × Nat)) = _
  rw [dc_u1 (p := pc) (dc_at (j := 0) h rfl)]
  show Except.ok (Instr.iaload, pc + 1 - pc) = _
  rw [Nat.add_sub_cancel_left]
theorem dc_47 {c : ByteArray} {pc : Nat} (h : ((c.data.toList.drop pc).take 1).map UInt8.toNat = [47]) : decode c pc = .ok (.laload, 1) := by
  unfold decode Decoder.instr Reader.runAt
  show (do let (instr, next) ← (do let q ← (Reader.u1 : Reader DecodeError Nat) c pc; _ : Except DecodeError (Instr × Nat)); pure (instr, next - pc) : Except DecodeError (Instr × Nat)) = _
  rw [dc_u1 (p := pc) (dc_at (j := 0) h rfl)]
  show Except.ok (Instr.laload, pc + 1 - pc) = _
  rw [Nat.add_sub_cancel_left]
theorem dc_5 {c : ByteArray} {pc : Nat} (h : ((c.data.toList.drop pc).take 1).map UInt8.toNat = [5]) : decode c pc = .ok (.iconst 2, 1) := by
  unfold decode Decoder.instr Reader.runAt
  show (do let (instr, next) ← (do let q ← (Reader.u1 : Reader DecodeError Nat) c pc; _ : Except DecodeError (Instr × Nat)); pure (instr, next - pc) : Except DecodeError (Instr × Nat)) = _
  rw [dc_u1 (p := pc) (dc_at (j := 0) h rfl)]
  show Except.ok (Instr.iconst 2, pc + 1 - pc) = _
  rw [Nat.add_sub_cancel_left]
theorem dc_50 {c : ByteArray} {pc : Nat} (h : ((c.data.toList.drop pc).take 1).map UInt8.toNat = [50]) : decode c pc = .ok (.aaload, 1) := by
  unfold decode Decoder.instr Reader.runAt
  show (do let (instr, next) ← (do let q ← (Reader.u1 : Reader DecodeError Nat) c pc; _ : Except DecodeError (Instr × Nat)); pure (instr, next - pc) : Except DecodeError (Instr × Nat)) = _
  rw [dc_u1 (p := pc) (dc_at (j := 0) h rfl)]
  show Except.ok (Instr.aaload, pc + 1 - pc) = _
  rw [Nat.add_sub_cancel_left]
theorem dc_51 {c : ByteArray} {pc : Nat} (h : ((c.data.toList.drop pc).take 1).map UInt8.toNat = [51]) : decode c pc = .ok (.baload, 1) := by
  unfold decode Decoder.instr Reader.runAt
  show (do let (instr, next) ← (do let q ← (Reader.u1 : Reader DecodeError Nat) c pc; _ : Except DecodeError (Instr × Nat)); pure (instr, next - pc) : Except DecodeError (Instr × Nat)) = _
  rw [dc_u1 (p := pc) (dc_at (j := 0) h rfl)]
  show Except.ok (Instr.baload, pc + 1 - pc) = _
  rw [Nat.add_sub_cancel_left]
theorem dc_54 {c : ByteArray} {pc : Nat} {x : Nat} (h : ((c.data.toList.drop pc).take 2).map UInt8.toNat = [54, x]) {k : Nat} (e : x = k) : decode c pc = .ok (.istore k, 2) := by
  subst e
  unfold decode Decoder.instr Reader.runAt
  show (do let (instr, next) ← (do let q ← (Reader.u1 : Reader DecodeError Nat) c pc; _ : Except DecodeError (Instr × Nat)); pure (instr, next - pc) : Except DecodeError (Instr × Nat)) = _
  rw [dc_u1 (p := pc) (dc_at (j := 0) h rfl)]
  show (do let (instr, next) ← (do let q ← (Reader.u1 : Reader DecodeError Nat) c (pc + 1); _ : Except DecodeError (Instr × Nat)); pure (instr, next - pc) : Except DecodeError (Instr × Nat)) = _
  rw [dc_u1 (p := pc + 1) (dc_at (j := 1) h rfl)]
  show Except.ok (Instr.istore _, pc + 1 + 1 - pc) = _
  rw [Nat.add_assoc, Nat.add_sub_cancel_left]
theorem dc_58 {c : ByteArray} {pc : Nat} {x : Nat} (h : ((c.data.toList.drop pc).take 2).map UInt8.toNat = [58, x]) {k : Nat} (e : x = k) : decode c pc = .ok (.astore k, 2) := by
  subst e
  unfold decode Decoder.instr Reader.runAt
  show (do let (instr, next) ← (do let q ← (Reader.u1 : Reader DecodeError Nat) c pc; _ : Except DecodeError (Instr × Nat)); pure (instr, next - pc) : Except DecodeError (Instr × Nat)) = _
  rw [dc_u1 (p := pc) (dc_at (j := 0) h rfl)]
  show (do let (instr, next) ← (do let q ← (Reader.u1 : Reader DecodeError Nat) c (pc + 1); _ : Except DecodeError (Instr × Nat)); pure (instr, next - pc) : Except DecodeError (Instr × Nat)) = _
  rw [dc_u1 (p := pc + 1) (dc_at (j := 1) h rfl)]
  show Except.ok (Instr.astore _, pc + 1 + 1 - pc) = _
  rw [Nat.add_assoc, Nat.add_sub_cancel_left]
theorem dc_59 {c : ByteArray} {pc : Nat} (h : ((c.data.toList.drop pc).take 1).map UInt8.toNat = [59]) : decode c pc = .ok (.istore_n 0, 1) := by
  unfold decode Decoder.instr Reader.runAt
  show (do let (instr, next) ← (do let q ← (Reader.u1 : Reader DecodeError Nat) c pc; _ : Except DecodeError (Instr × Nat)); pure (instr, next - pc) : Except DecodeError (Instr × Nat)) = _
  rw [dc_u1 (p := pc) (dc_at (j := 0) h rfl)]
  show Except.ok (Instr.istore_n 0, pc + 1 - pc) = _
  rw [Nat.add_sub_cancel_left]
theorem dc_6 {c : ByteArray} {pc : Nat} (h : ((c.data.toList.drop pc).take 1).map UInt8.toNat = [6]) : decode c pc = .ok (.iconst 3, 1) := by
  unfold decode Decoder.instr Reader.runAt
  show (do let (instr, next) ← (do let q ← (Reader.u1 : Reader DecodeError Nat) c pc; _ : Except DecodeError (Instr × Nat)); pure (instr, next - pc) : Except DecodeError (Instr × Nat)) = _
  rw [dc_u1 (p := pc) (dc_at (j := 0) h rfl)]
  show Except.ok (Instr.iconst 3, pc + 1 - pc) = _
  rw [Nat.add_sub_cancel_left]
theorem dc_60 {c : ByteArray} {pc : Nat} (h : ((c.data.toList.drop pc).take 1).map UInt8.toNat = [60]) : decode c pc = .ok (.istore_n 1, 1) := by
  unfold decode Decoder.instr Reader.runAt
  show (do let (instr, next) ← (do let q ← (Reader.u1 : Reader DecodeError Nat) c pc; _ : Except DecodeError (Instr × Nat)); pure (instr, next - pc) : Except DecodeError (Instr × Nat)) = _
  rw [dc_u1 (p := pc) (dc_at (j := 0) h rfl)]
  show Except.ok (Instr.istore_n 1, pc + 1 - pc) = _
  rw [Nat.add_sub_cancel_left]
theorem dc_61 {c : ByteArray} {pc : Nat} (h : ((c.data.toList.drop pc).take 1).map UInt8.toNat = [61]) : decode c pc = .ok (.istore_n 2, 1) := by
  unfold decode Decoder.instr Reader.runAt
  show (do let (instr, next) ← (do let q ← (Reader.u1 : Reader DecodeError Nat) c pc; _ : Except DecodeError (Instr × Nat)); pure (instr, next - pc) : Except DecodeError (Instr × Nat)) = _
  rw [dc_u1 (p := pc) (dc_at (j := 0) h rfl)]
  show Except.ok (Instr.istore_n 2, pc + 1 - pc) = _
  rw [Nat.add_sub_cancel_left]
theorem dc_62 {c : ByteArray} {pc : Nat} (h : ((c.data.toList.drop pc).take 1).map UInt8.toNat = [62]) : decode c pc = .ok (.istore_n 3, 1) := by
  unfold decode Decoder.instr Reader.runAt
  show (do let (instr, next) ← (do let q ← (Reader.u1 : Reader DecodeError Nat) c pc; _ : Except DecodeError (Instr × Nat)); pure (instr, next - pc) : Except DecodeError (Instr × Nat)) = _
  rw [dc_u1 (p := pc) (dc_at (j := 0) h rfl)]
  show Except.ok (Instr.istore_n 3, pc + 1 - pc) = _
  rw [Nat.add_sub_cancel_left]
theorem dc_64 {c : ByteArray} {pc : Nat} (h : ((c.data.toList.drop pc).take 1).map UInt8.toNat = [64]) : decode c pc = .ok (.lstore_n 1, 1) := by
  unfold decode Decoder.instr Reader.runAt
  show (do let (instr, next) ← (do let q ← (Reader.u1 : Reader DecodeError Nat) c pc; _ : Except DecodeError (Instr × Nat)); pure (instr, next - pc) : Except DecodeError (Instr × Nat)) = _
  rw [dc_u1 (p := pc) (dc_at (j := 0) h rfl)]
  show Except.ok (Instr.lstore_n 1, pc + 1 - pc) = _
  rw [Nat.add_sub_cancel_left]
theorem dc_65 {c : ByteArray} {pc : Nat} (h : ((c.data.toList.drop pc).take 1).map UInt8.toNat = [65]) : decode c pc = .ok (.lstore_n 2, 1) := by
  unfold decode Decoder.instr Reader.runAt
  show (do let (instr, next) ← (do let q ← (Reader.u1 : Reader DecodeError Nat) c pc; _ : Except DecodeError (Instr × Nat)); pure (instr, next - pc) : Except DecodeError (Instr × Nat)) = _
  rw [dc_u1 (p := pc) (dc_at (j := 0) h rfl)]
  show Except.ok (Instr.lstore_n 2, pc + 1 - pc) = _
  rw [Nat.add_sub_cancel_left]
theorem dc_7 {c : ByteArray} {pc : Nat} (h : ((c.data.toList.drop pc).take 1).map UInt8.toNat = [7]) : decode c pc = .ok (.iconst 4, 1) := by
  unfold decode Decoder.instr Reader.runAt
  show (do let (instr, next) ← (do let q ← (Reader.u1 : Reader DecodeError Nat) c pc; _ : Except DecodeError (Instr × Nat)); pure (instr, next - pc) : Except DecodeError (Instr × Nat)) = _
  rw [dc_u1 (p := pc) (dc_at (j := 0) h rfl)]
  show Except.ok (Instr.iconst 4, pc + 1 - pc) = _
  rw [Nat.add_sub_cancel_left]
theorem dc_76 {c : ByteArray} {pc : Nat} (h : ((c.data.toList.drop pc).take 1).map UInt8.toNat = [76]) : decode c pc = .ok (.astore_n 1, 1) := by
  unfold decode Decoder.instr Reader.runAt
  show (do let (instr, next) ← (do let q ← (Reader.u1 : Reader DecodeError Nat) c pc; _ : Except DecodeError (Instr × Nat)); pure (instr, next - pc) : Except DecodeError (Instr × Nat)) = _
  rw [dc_u1 (p := pc) (dc_at (j := 0) h rfl)]
  show Except.ok (Instr.astore_n 1, pc + 1 - pc) = _
  rw [Nat.add_sub_cancel_left]
theorem dc_77 {c : ByteArray} {pc : Nat} (h : ((c.data.toList.drop pc).take 1).map UInt8.toNat = [77]) : decode c pc = .ok (.astore_n 2, 1) := by
  unfold decode Decoder.instr Reader.runAt
  show (do let (instr, next) ← (do let q ← (Reader.u1 : Reader DecodeError Nat) c pc; _ : Except DecodeError (Instr × Nat)); pure (instr, next - pc) : Except DecodeError (Instr × Nat)) = _
  rw [dc_u1 (p := pc) (dc_at (j := 0) h rfl)]
  show Except.ok (Instr.astore_n 2, pc + 1 - pc) = _
  rw [Nat.add_sub_cancel_left]
theorem dc_78 {c : ByteArray} {pc : Nat} (h : ((c.data.toList.drop pc).take 1).map UInt8.toNat = [78]) : decode c pc = .ok (.astore_n 3, 1) := by
  unfold decode Decoder.instr Reader.runAt
  show (do let (instr, next) ← (do let q ← (Reader.u1 : Reader DecodeError Nat) c pc; _ : Except DecodeError (Instr × Nat)); pure (instr, next - pc) : Except DecodeError (Instr × Nat)) = _
  rw [dc_u1 (p := pc) (dc_at (j := 0) h rfl)]
  show Except.ok (Instr.astore_n 3, pc + 1 - pc) = _
  rw [Nat.add_sub_cancel_left]
theorem dc_79 {c : ByteArray} {pc : Nat} (h : ((c.data.toList.drop pc).take 1).map UInt8.toNat = [79]) : decode c pc = .ok (.iastore, 1) := by
  unfold decode Decoder.instr Reader.runAt
  show (do let (instr, next) ← (do let q ← (Reader.u1 : Reader DecodeError Nat) c pc; _ : Except DecodeError (Instr × Nat)); pure (instr, next - pc) : Except DecodeError (Instr × Nat)) = _
  rw [dc_u1 (p := pc) (dc_at (j := 0) h rfl)]
  show Except.ok (Instr.iastore, pc + 1 - pc) = _
  rw [Nat.add_sub_cancel_left]
theorem dc_8 {c : ByteArray} {pc : Nat} (h : ((c.data.toList.drop pc).take 1).map UInt8.toNat = [8]) : decode c pc = .ok (.iconst 5, 1) := by
  unfold decode Decoder.instr Reader.runAt
  show (do let (instr, next) ← (do let q ← (Reader.u1 : Reader DecodeError Nat) c pc; _ : Except DecodeError (Instr × Nat)); pure (instr, next - pc) : Except DecodeError (Instr × Nat)) = _
  rw [dc_u1 (p := pc) (dc_at (j := 0) h rfl)]
  show Except.ok (Instr.iconst 5, pc + 1 - pc) = _
  rw [Nat.add_sub_cancel_left]
theorem dc_80 {c : ByteArray} {pc : Nat} (h : ((c.data.toList.drop pc).take 1).map UInt8.toNat = [80]) : decode c pc = .ok (.lastore, 1) := by
  unfold decode Decoder.instr Reader.runAt
  show (do let (instr, next) ← (do let q ← (Reader.u1 : Reader DecodeError Nat) c pc; _ : Except DecodeError (Instr × Nat)); pure (instr, next - pc) : Except DecodeError (Instr × Nat)) = _
  rw [dc_u1 (p := pc) (dc_at (j := 0) h rfl)]
  show Except.ok (Instr.lastore, pc + 1 - pc) = _
  rw [Nat.add_sub_cancel_left]
theorem dc_83 {c : ByteArray} {pc : Nat} (h : ((c.data.toList.drop pc).take 1).map UInt8.toNat = [83]) : decode c pc = .ok (.aastore, 1) := by
  unfold decode Decoder.instr Reader.runAt
  show (do let (instr, next) ← (do let q ← (Reader.u1 : Reader DecodeError Nat) c pc; _ : Except DecodeError (Instr × Nat)); pure (instr, next - pc) : Except DecodeError (Instr × Nat)) = _
  rw [dc_u1 (p := pc) (dc_at (j := 0) h rfl)]
  show Except.ok (Instr.aastore, pc + 1 - pc) = _
  rw [Nat.add_sub_cancel_left]
theorem dc_84 {c : ByteArray} {pc : Nat} (h : ((c.data.toList.drop pc).take 1).map UInt8.toNat = [84]) : decode c pc = .ok (.bastore, 1) := by
  unfold decode Decoder.instr Reader.runAt
  show (do let (instr, next) ← (do let q ← (Reader.u1 : Reader DecodeError Nat) c pc; _ : Except DecodeError (Instr × Nat)); pure (instr, next - pc) : Except DecodeError (Instr × Nat)) = _
  rw [dc_u1 (p := pc) (dc_at (j := 0) h rfl)]
  show Except.ok (Instr.bastore, pc + 1 - pc) = _
  rw [Nat.add_sub_cancel_left]
theorem dc_87 {c : ByteArray} {pc : Nat} (h : ((c.data.toList.drop pc).take 1).map UInt8.toNat = [87]) : decode c pc = .ok (.pop, 1) := by
  unfold decode Decoder.instr Reader.runAt
  show (do let (instr, next) ← (do let q ← (Reader.u1 : Reader DecodeError Nat) c pc; _ : Except DecodeError (Instr × Nat)); pure (instr, next - pc) : Except DecodeError (Instr × Nat)) = _
  rw [dc_u1 (p := pc) (dc_at (j := 0) h rfl)]
  show Except.ok (Instr.pop, pc + 1 - pc) = _
  rw [Nat.add_sub_cancel_left]
theorem dc_88 {c : ByteArray} {pc : Nat} (h : ((c.data.toList.drop pc).take 1).map UInt8.toNat = [88]) : decode c pc = .ok (.pop2, 1) := by
  unfold decode Decoder.instr Reader.runAt
  show (do let (instr, next) ← (do let q ← (Reader.u1 : Reader DecodeError Nat) c pc; _ : Except DecodeError (Instr × Nat)); pure (instr, next - pc) : Except DecodeError (Instr × Nat)) = _
  rw [dc_u1 (p := pc) (dc_at (j := 0) h rfl)]
  show Except.ok (Instr.pop2, pc + 1 - pc) = _
  rw [Nat.add_sub_cancel_left]
theorem dc_89 {c : ByteArray} {pc : Nat} (h : ((c.data.toList.drop pc).take 1).map UInt8.toNat = [89]) : decode c pc = .ok (.dup, 1) := by
  unfold decode Decoder.instr Reader.runAt
  show (do let (instr, next) ← (do let q ← (Reader.u1 : Reader DecodeError Nat) c pc; _ : Except DecodeError (Instr × Nat)); pure (instr, next - pc) : Except DecodeError (Instr × Nat)) = _
  rw [dc_u1 (p := pc) (dc_at (j := 0) h rfl)]
  show Except.ok (Instr.dup, pc + 1 - pc) = _
  rw [Nat.add_sub_cancel_left]
theorem dc_9 {c : ByteArray} {pc : Nat} (h : ((c.data.toList.drop pc).take 1).map UInt8.toNat = [9]) : decode c pc = .ok (.lconst 0, 1) := by
  unfold decode Decoder.instr Reader.runAt
  show (do let (instr, next) ← (do let q ← (Reader.u1 : Reader DecodeError Nat) c pc; _ : Except DecodeError (Instr × Nat)); pure (instr, next - pc) : Except DecodeError (Instr × Nat)) = _
  rw [dc_u1 (p := pc) (dc_at (j := 0) h rfl)]
  show Except.ok (Instr.lconst 0, pc + 1 - pc) = _
  rw [Nat.add_sub_cancel_left]
theorem dc_92 {c : ByteArray} {pc : Nat} (h : ((c.data.toList.drop pc).take 1).map UInt8.toNat = [92]) : decode c pc = .ok (.dup2, 1) := by
  unfold decode Decoder.instr Reader.runAt
  show (do let (instr, next) ← (do let q ← (Reader.u1 : Reader DecodeError Nat) c pc; _ : Except DecodeError (Instr × Nat)); pure (instr, next - pc) : Except DecodeError (Instr × Nat)) = _
  rw [dc_u1 (p := pc) (dc_at (j := 0) h rfl)]
  show Except.ok (Instr.dup2, pc + 1 - pc) = _
  rw [Nat.add_sub_cancel_left]
theorem dc_96 {c : ByteArray} {pc : Nat} (h : ((c.data.toList.drop pc).take 1).map UInt8.toNat = [96]) : decode c pc = .ok (.iadd, 1) := by
  unfold decode Decoder.instr Reader.runAt
  show (do let (instr, next) ← (do let q ← (Reader.u1 : Reader DecodeError Nat) c pc; _ : Except DecodeError (Instr × Nat)); pure (instr, next - pc) : Except DecodeError (Instr × Nat)) = _
  rw [dc_u1 (p := pc) (dc_at (j := 0) h rfl)]
  show Except.ok (Instr.iadd, pc + 1 - pc) = _
  rw [Nat.add_sub_cancel_left]
theorem dc_97 {c : ByteArray} {pc : Nat} (h : ((c.data.toList.drop pc).take 1).map UInt8.toNat = [97]) : decode c pc = .ok (.ladd, 1) := by
  unfold decode Decoder.instr Reader.runAt
  show (do let (instr, next) ← (do let q ← (Reader.u1 : Reader DecodeError Nat) c pc; _ : Except DecodeError (Instr × Nat)); pure (instr, next - pc) : Except DecodeError (Instr × Nat)) = _
  rw [dc_u1 (p := pc) (dc_at (j := 0) h rfl)]
  show Except.ok (Instr.ladd, pc + 1 - pc) = _
  rw [Nat.add_sub_cancel_left]
