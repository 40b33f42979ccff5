/-! the law's rows, by its bytes in pieces -/
theorem dc_ba {a : ByteArray} {k : Nat} {u : UInt8} (hk : k < a.size) (hu : a[k] = u) : (Reader.u1 : Decoder Nat) a k = .ok (u.toNat, k + 1) := by
  show (if h : k < a.size then (do set (k + 1); pure (a[k]'h).toNat : Decoder Nat) else throw (HasTruncated.truncated k)) a k = _
  rw [dif_pos hk, hu]
  rfl
theorem dc_bv {a : ByteArray} {k : Nat} (v : Nat) (hv : v < 256) (h : a.data.toList[k]? = some (UInt8.ofNat v)) : (Reader.u1 : Decoder Nat) a k = .ok (v, k + 1) := by
  rw [Array.getElem?_toList] at h
  obtain ⟨hk, hu⟩ := Array.getElem?_eq_some_iff.mp h
  have e := dc_ba (a := a) hk hu
  have e2 : (UInt8.ofNat v).toNat = v := by
    show v % 256 = v
    exact Nat.mod_eq_of_lt hv
  rw [e2] at e
  exact e
theorem dc_of {a : ByteArray} {k n : Nat} {I : Instr} (h : (Decoder.instr k) a k = .ok (I, k + n)) : decode a k = .ok (I, n) := by
  show Except.bind ((Decoder.instr k) a k) _ = _
  rw [h]
  show Except.ok (I, k + n - k) = _
  rw [Nat.add_sub_cancel_left]
theorem dc_u2 {a : ByteArray} {k h l : Nat} (e1 : (Reader.u1 : Decoder Nat) a k = .ok (h, k + 1)) (e2 : (Reader.u1 : Decoder Nat) a (k + 1) = .ok (l, k + 1 + 1)) : (Reader.u2 : Decoder Nat) a k = .ok (h * 256 + l, k + 2) := by
  show Except.bind ((Reader.u1 : Decoder Nat) a k) _ = _
  rw [e1]
  show Except.bind ((Reader.u1 : Decoder Nat) a (k + 1)) _ = _
  rw [e2]
  rfl
theorem dc_s2 {a : ByteArray} {k h l : Nat} (e1 : (Reader.u1 : Decoder Nat) a k = .ok (h, k + 1)) (e2 : (Reader.u1 : Decoder Nat) a (k + 1) = .ok (l, k + 1 + 1)) : (Reader.s2 : Decoder Int) a k = .ok (Reader.signed 16 (h * 256 + l), k + 2) := by
  show Except.bind ((Reader.u2 : Decoder Nat) a k) _ = _
  rw [dc_u2 e1 e2]
  rfl
theorem dc_3 {a : ByteArray} {k : Nat} (e0 : (Reader.u1 : Decoder Nat) a k = .ok (3, k + 1)) : decode a k = .ok (.iconst 0, 1) := by
  refine dc_of ?_
  show Except.bind ((Reader.u1 : Decoder Nat) a k) _ = _
  rw [e0]
  rfl
theorem dc_4 {a : ByteArray} {k : Nat} (e0 : (Reader.u1 : Decoder Nat) a k = .ok (4, k + 1)) : decode a k = .ok (.iconst 1, 1) := by
  refine dc_of ?_
  show Except.bind ((Reader.u1 : Decoder Nat) a k) _ = _
  rw [e0]
  rfl
theorem dc_5 {a : ByteArray} {k : Nat} (e0 : (Reader.u1 : Decoder Nat) a k = .ok (5, k + 1)) : decode a k = .ok (.iconst 2, 1) := by
  refine dc_of ?_
  show Except.bind ((Reader.u1 : Decoder Nat) a k) _ = _
  rw [e0]
  rfl
theorem dc_6 {a : ByteArray} {k : Nat} (e0 : (Reader.u1 : Decoder Nat) a k = .ok (6, k + 1)) : decode a k = .ok (.iconst 3, 1) := by
  refine dc_of ?_
  show Except.bind ((Reader.u1 : Decoder Nat) a k) _ = _
  rw [e0]
  rfl
theorem dc_7 {a : ByteArray} {k : Nat} (e0 : (Reader.u1 : Decoder Nat) a k = .ok (7, k + 1)) : decode a k = .ok (.iconst 4, 1) := by
  refine dc_of ?_
  show Except.bind ((Reader.u1 : Decoder Nat) a k) _ = _
  rw [e0]
  rfl
theorem dc_8 {a : ByteArray} {k : Nat} (e0 : (Reader.u1 : Decoder Nat) a k = .ok (8, k + 1)) : decode a k = .ok (.iconst 5, 1) := by
  refine dc_of ?_
  show Except.bind ((Reader.u1 : Decoder Nat) a k) _ = _
  rw [e0]
  rfl
theorem dc_9 {a : ByteArray} {k : Nat} (e0 : (Reader.u1 : Decoder Nat) a k = .ok (9, k + 1)) : decode a k = .ok (.lconst 0, 1) := by
  refine dc_of ?_
  show Except.bind ((Reader.u1 : Decoder Nat) a k) _ = _
  rw [e0]
  rfl
theorem dc_10 {a : ByteArray} {k : Nat} (e0 : (Reader.u1 : Decoder Nat) a k = .ok (10, k + 1)) : decode a k = .ok (.lconst 1, 1) := by
  refine dc_of ?_
  show Except.bind ((Reader.u1 : Decoder Nat) a k) _ = _
  rw [e0]
  rfl
theorem dc_21 {a : ByteArray} {k x : Nat} (e0 : (Reader.u1 : Decoder Nat) a k = .ok (21, k + 1)) (e1 : (Reader.u1 : Decoder Nat) a (k + 1) = .ok (x, k + 1 + 1)) : decode a k = .ok (.iload x, 2) := by
  refine dc_of ?_
  show Except.bind ((Reader.u1 : Decoder Nat) a k) _ = _
  rw [e0]
  show Except.bind ((Reader.u1 : Decoder Nat) a (k + 1)) _ = _
  rw [e1]
  rfl
theorem dc_22 {a : ByteArray} {k x : Nat} (e0 : (Reader.u1 : Decoder Nat) a k = .ok (22, k + 1)) (e1 : (Reader.u1 : Decoder Nat) a (k + 1) = .ok (x, k + 1 + 1)) : decode a k = .ok (.lload x, 2) := by
  refine dc_of ?_
  show Except.bind ((Reader.u1 : Decoder Nat) a k) _ = _
  rw [e0]
  show Except.bind ((Reader.u1 : Decoder Nat) a (k + 1)) _ = _
  rw [e1]
  rfl
theorem dc_42 {a : ByteArray} {k : Nat} (e0 : (Reader.u1 : Decoder Nat) a k = .ok (42, k + 1)) : decode a k = .ok (.aload_n 0, 1) := by
  refine dc_of ?_
  show Except.bind ((Reader.u1 : Decoder Nat) a k) _ = _
  rw [e0]
  rfl
theorem dc_43 {a : ByteArray} {k : Nat} (e0 : (Reader.u1 : Decoder Nat) a k = .ok (43, k + 1)) : decode a k = .ok (.aload_n 1, 1) := by
  refine dc_of ?_
  show Except.bind ((Reader.u1 : Decoder Nat) a k) _ = _
  rw [e0]
  rfl
theorem dc_44 {a : ByteArray} {k : Nat} (e0 : (Reader.u1 : Decoder Nat) a k = .ok (44, k + 1)) : decode a k = .ok (.aload_n 2, 1) := by
  refine dc_of ?_
  show Except.bind ((Reader.u1 : Decoder Nat) a k) _ = _
  rw [e0]
  rfl
theorem dc_45 {a : ByteArray} {k : Nat} (e0 : (Reader.u1 : Decoder Nat) a k = .ok (45, k + 1)) : decode a k = .ok (.aload_n 3, 1) := by
  refine dc_of ?_
  show Except.bind ((Reader.u1 : Decoder Nat) a k) _ = _
  rw [e0]
  rfl
theorem dc_46 {a : ByteArray} {k : Nat} (e0 : (Reader.u1 : Decoder Nat) a k = .ok (46, k + 1)) : decode a k = .ok (.iaload, 1) := by
  refine dc_of ?_
  show Except.bind ((Reader.u1 : Decoder Nat) a k) _ = _
  rw [e0]
  rfl
theorem dc_47 {a : ByteArray} {k : Nat} (e0 : (Reader.u1 : Decoder Nat) a k = .ok (47, k + 1)) : decode a k = .ok (.laload, 1) := by
  refine dc_of ?_
  show Except.bind ((Reader.u1 : Decoder Nat) a k) _ = _
  rw [e0]
  rfl
theorem dc_54 {a : ByteArray} {k x : Nat} (e0 : (Reader.u1 : Decoder Nat) a k = .ok (54, k + 1)) (e1 : (Reader.u1 : Decoder Nat) a (k + 1) = .ok (x, k + 1 + 1)) : decode a k = .ok (.istore x, 2) := by
  refine dc_of ?_
  show Except.bind ((Reader.u1 : Decoder Nat) a k) _ = _
  rw [e0]
  show Except.bind ((Reader.u1 : Decoder Nat) a (k + 1)) _ = _
  rw [e1]
  rfl
theorem dc_55 {a : ByteArray} {k x : Nat} (e0 : (Reader.u1 : Decoder Nat) a k = .ok (55, k + 1)) (e1 : (Reader.u1 : Decoder Nat) a (k + 1) = .ok (x, k + 1 + 1)) : decode a k = .ok (.lstore x, 2) := by
  refine dc_of ?_
  show Except.bind ((Reader.u1 : Decoder Nat) a k) _ = _
  rw [e0]
  show Except.bind ((Reader.u1 : Decoder Nat) a (k + 1)) _ = _
  rw [e1]
  rfl
theorem dc_76 {a : ByteArray} {k : Nat} (e0 : (Reader.u1 : Decoder Nat) a k = .ok (76, k + 1)) : decode a k = .ok (.astore_n 1, 1) := by
  refine dc_of ?_
  show Except.bind ((Reader.u1 : Decoder Nat) a k) _ = _
  rw [e0]
  rfl
theorem dc_77 {a : ByteArray} {k : Nat} (e0 : (Reader.u1 : Decoder Nat) a k = .ok (77, k + 1)) : decode a k = .ok (.astore_n 2, 1) := by
  refine dc_of ?_
  show Except.bind ((Reader.u1 : Decoder Nat) a k) _ = _
  rw [e0]
  rfl
theorem dc_78 {a : ByteArray} {k : Nat} (e0 : (Reader.u1 : Decoder Nat) a k = .ok (78, k + 1)) : decode a k = .ok (.astore_n 3, 1) := by
  refine dc_of ?_
  show Except.bind ((Reader.u1 : Decoder Nat) a k) _ = _
  rw [e0]
  rfl
theorem dc_89 {a : ByteArray} {k : Nat} (e0 : (Reader.u1 : Decoder Nat) a k = .ok (89, k + 1)) : decode a k = .ok (.dup, 1) := by
  refine dc_of ?_
  show Except.bind ((Reader.u1 : Decoder Nat) a k) _ = _
  rw [e0]
  rfl
theorem dc_96 {a : ByteArray} {k : Nat} (e0 : (Reader.u1 : Decoder Nat) a k = .ok (96, k + 1)) : decode a k = .ok (.iadd, 1) := by
  refine dc_of ?_
  show Except.bind ((Reader.u1 : Decoder Nat) a k) _ = _
  rw [e0]
  rfl
theorem dc_100 {a : ByteArray} {k : Nat} (e0 : (Reader.u1 : Decoder Nat) a k = .ok (100, k + 1)) : decode a k = .ok (.isub, 1) := by
  refine dc_of ?_
  show Except.bind ((Reader.u1 : Decoder Nat) a k) _ = _
  rw [e0]
  rfl
theorem dc_126 {a : ByteArray} {k : Nat} (e0 : (Reader.u1 : Decoder Nat) a k = .ok (126, k + 1)) : decode a k = .ok (.iand, 1) := by
  refine dc_of ?_
  show Except.bind ((Reader.u1 : Decoder Nat) a k) _ = _
  rw [e0]
  rfl
theorem dc_133 {a : ByteArray} {k : Nat} (e0 : (Reader.u1 : Decoder Nat) a k = .ok (133, k + 1)) : decode a k = .ok (.i2l, 1) := by
  refine dc_of ?_
  show Except.bind ((Reader.u1 : Decoder Nat) a k) _ = _
  rw [e0]
  rfl
theorem dc_148 {a : ByteArray} {k : Nat} (e0 : (Reader.u1 : Decoder Nat) a k = .ok (148, k + 1)) : decode a k = .ok (.lcmp, 1) := by
  refine dc_of ?_
  show Except.bind ((Reader.u1 : Decoder Nat) a k) _ = _
  rw [e0]
  rfl
theorem dc_153 {a : ByteArray} {k h l : Nat} (e0 : (Reader.u1 : Decoder Nat) a k = .ok (153, k + 1)) (e1 : (Reader.u1 : Decoder Nat) a (k + 1) = .ok (h, k + 1 + 1)) (e2 : (Reader.u1 : Decoder Nat) a (k + 1 + 1) = .ok (l, k + 1 + 1 + 1)) : decode a k = .ok (.ifCond .eq (Reader.signed 16 (h * 256 + l)), 3) := by
  refine dc_of ?_
  show Except.bind ((Reader.u1 : Decoder Nat) a k) _ = _
  rw [e0]
  show Except.bind ((Reader.s2 : Decoder Int) a (k + 1)) _ = _
  rw [dc_s2 e1 e2]
  rfl
theorem dc_154 {a : ByteArray} {k h l : Nat} (e0 : (Reader.u1 : Decoder Nat) a k = .ok (154, k + 1)) (e1 : (Reader.u1 : Decoder Nat) a (k + 1) = .ok (h, k + 1 + 1)) (e2 : (Reader.u1 : Decoder Nat) a (k + 1 + 1) = .ok (l, k + 1 + 1 + 1)) : decode a k = .ok (.ifCond .ne (Reader.signed 16 (h * 256 + l)), 3) := by
  refine dc_of ?_
  show Except.bind ((Reader.u1 : Decoder Nat) a k) _ = _
  rw [e0]
  show Except.bind ((Reader.s2 : Decoder Int) a (k + 1)) _ = _
  rw [dc_s2 e1 e2]
  rfl
theorem dc_159 {a : ByteArray} {k h l : Nat} (e0 : (Reader.u1 : Decoder Nat) a k = .ok (159, k + 1)) (e1 : (Reader.u1 : Decoder Nat) a (k + 1) = .ok (h, k + 1 + 1)) (e2 : (Reader.u1 : Decoder Nat) a (k + 1 + 1) = .ok (l, k + 1 + 1 + 1)) : decode a k = .ok (.if_icmp .eq (Reader.signed 16 (h * 256 + l)), 3) := by
  refine dc_of ?_
  show Except.bind ((Reader.u1 : Decoder Nat) a k) _ = _
  rw [e0]
  show Except.bind ((Reader.s2 : Decoder Int) a (k + 1)) _ = _
  rw [dc_s2 e1 e2]
  rfl
theorem dc_163 {a : ByteArray} {k h l : Nat} (e0 : (Reader.u1 : Decoder Nat) a k = .ok (163, k + 1)) (e1 : (Reader.u1 : Decoder Nat) a (k + 1) = .ok (h, k + 1 + 1)) (e2 : (Reader.u1 : Decoder Nat) a (k + 1 + 1) = .ok (l, k + 1 + 1 + 1)) : decode a k = .ok (.if_icmp .gt (Reader.signed 16 (h * 256 + l)), 3) := by
  refine dc_of ?_
  show Except.bind ((Reader.u1 : Decoder Nat) a k) _ = _
  rw [e0]
  show Except.bind ((Reader.s2 : Decoder Int) a (k + 1)) _ = _
  rw [dc_s2 e1 e2]
  rfl
theorem dc_167 {a : ByteArray} {k h l : Nat} (e0 : (Reader.u1 : Decoder Nat) a k = .ok (167, k + 1)) (e1 : (Reader.u1 : Decoder Nat) a (k + 1) = .ok (h, k + 1 + 1)) (e2 : (Reader.u1 : Decoder Nat) a (k + 1 + 1) = .ok (l, k + 1 + 1 + 1)) : decode a k = .ok (.goto (Reader.signed 16 (h * 256 + l)), 3) := by
  refine dc_of ?_
  show Except.bind ((Reader.u1 : Decoder Nat) a k) _ = _
  rw [e0]
  show Except.bind ((Reader.s2 : Decoder Int) a (k + 1)) _ = _
  rw [dc_s2 e1 e2]
  rfl
theorem dc_172 {a : ByteArray} {k : Nat} (e0 : (Reader.u1 : Decoder Nat) a k = .ok (172, k + 1)) : decode a k = .ok (.ireturn, 1) := by
  refine dc_of ?_
  show Except.bind ((Reader.u1 : Decoder Nat) a k) _ = _
  rw [e0]
  rfl
theorem dc_182 {a : ByteArray} {k h l : Nat} (e0 : (Reader.u1 : Decoder Nat) a k = .ok (182, k + 1)) (e1 : (Reader.u1 : Decoder Nat) a (k + 1) = .ok (h, k + 1 + 1)) (e2 : (Reader.u1 : Decoder Nat) a (k + 1 + 1) = .ok (l, k + 1 + 1 + 1)) : decode a k = .ok (.invokevirtual (h * 256 + l), 3) := by
  refine dc_of ?_
  show Except.bind ((Reader.u1 : Decoder Nat) a k) _ = _
  rw [e0]
  show Except.bind ((Reader.u2 : Decoder Nat) a (k + 1)) _ = _
  rw [dc_u2 e1 e2]
  rfl
theorem dc_183 {a : ByteArray} {k h l : Nat} (e0 : (Reader.u1 : Decoder Nat) a k = .ok (183, k + 1)) (e1 : (Reader.u1 : Decoder Nat) a (k + 1) = .ok (h, k + 1 + 1)) (e2 : (Reader.u1 : Decoder Nat) a (k + 1 + 1) = .ok (l, k + 1 + 1 + 1)) : decode a k = .ok (.invokespecial (h * 256 + l), 3) := by
  refine dc_of ?_
  show Except.bind ((Reader.u1 : Decoder Nat) a k) _ = _
  rw [e0]
  show Except.bind ((Reader.u2 : Decoder Nat) a (k + 1)) _ = _
  rw [dc_u2 e1 e2]
  rfl
theorem dc_184 {a : ByteArray} {k h l : Nat} (e0 : (Reader.u1 : Decoder Nat) a k = .ok (184, k + 1)) (e1 : (Reader.u1 : Decoder Nat) a (k + 1) = .ok (h, k + 1 + 1)) (e2 : (Reader.u1 : Decoder Nat) a (k + 1 + 1) = .ok (l, k + 1 + 1 + 1)) : decode a k = .ok (.invokestatic (h * 256 + l), 3) := by
  refine dc_of ?_
  show Except.bind ((Reader.u1 : Decoder Nat) a k) _ = _
  rw [e0]
  show Except.bind ((Reader.u2 : Decoder Nat) a (k + 1)) _ = _
  rw [dc_u2 e1 e2]
  rfl
theorem dc_187 {a : ByteArray} {k h l : Nat} (e0 : (Reader.u1 : Decoder Nat) a k = .ok (187, k + 1)) (e1 : (Reader.u1 : Decoder Nat) a (k + 1) = .ok (h, k + 1 + 1)) (e2 : (Reader.u1 : Decoder Nat) a (k + 1 + 1) = .ok (l, k + 1 + 1 + 1)) : decode a k = .ok (.new (h * 256 + l), 3) := by
  refine dc_of ?_
  show Except.bind ((Reader.u1 : Decoder Nat) a k) _ = _
  rw [e0]
  show Except.bind ((Reader.u2 : Decoder Nat) a (k + 1)) _ = _
  rw [dc_u2 e1 e2]
  rfl
theorem dc_190 {a : ByteArray} {k : Nat} (e0 : (Reader.u1 : Decoder Nat) a k = .ok (190, k + 1)) : decode a k = .ok (.arraylength, 1) := by
  refine dc_of ?_
  show Except.bind ((Reader.u1 : Decoder Nat) a k) _ = _
  rw [e0]
  rfl
def lbt_41 : List UInt8 := [21, 6, 133, 148, 153, 0, 5, 3, 172, 167, 0, 3, 132, 4, 6, 167, 245, 200, 4, 172]
def lbt_40 : List UInt8 := [44, 182, 1, 21, 167, 0, 72, 43, 182, 1, 22, 44, 182, 1, 26, 159, 0, 61, 3, 172, 43, 42, 21, 4, 4, 96, 46, 45, 184, 1, 27, 54, 5, 44, 42, 21, 4, 4, 96, 46, 182, 1, 29, 54, 6, 44, 182, 0, 138, 21, 5, 159, 0, 5, 3, 172, 21, 5, 154, 0, 15, 45, 3, 47] ++ lbt_41
def lbt_39 : List UInt8 := [148, 153, 0, 5, 3, 172, 167, 0, 134, 43, 42, 21, 4, 4, 96, 46, 182, 1, 6, 44, 42, 21, 4, 4, 96, 46, 182, 1, 9, 159, 0, 111, 3, 172, 43, 182, 1, 10, 44, 182, 1, 13, 159, 0, 98, 3, 172, 43, 182, 1, 14, 44, 182, 1, 17, 159, 0, 85, 3, 172, 43, 182, 1, 18] ++ lbt_40
def lbt_38 : List UInt8 := [0, 15, 45, 3, 47, 21, 6, 133, 148, 153, 0, 5, 3, 172, 167, 0, 190, 43, 42, 21, 4, 4, 96, 46, 45, 184, 1, 3, 54, 5, 44, 42, 21, 4, 4, 96, 46, 182, 1, 5, 54, 6, 44, 182, 0, 138, 21, 5, 159, 0, 5, 3, 172, 21, 5, 154, 0, 15, 45, 3, 47, 21, 6, 133] ++ lbt_39
def lbt_37 : List UInt8 := [47, 21, 6, 133, 148, 153, 0, 5, 3, 172, 167, 1, 2, 43, 42, 21, 4, 4, 96, 46, 42, 21, 4, 5, 96, 46, 45, 184, 1, 0, 54, 5, 44, 42, 21, 4, 4, 96, 46, 42, 21, 4, 5, 96, 46, 182, 1, 2, 54, 6, 44, 182, 0, 138, 21, 5, 159, 0, 5, 3, 172, 21, 5, 154] ++ lbt_38
def lbt_36 : List UInt8 := [172, 21, 5, 154, 0, 15, 45, 3, 47, 21, 6, 133, 148, 153, 0, 5, 3, 172, 167, 1, 58, 43, 42, 21, 4, 4, 96, 46, 45, 184, 0, 253, 54, 5, 44, 42, 21, 4, 4, 96, 46, 182, 0, 255, 54, 6, 44, 182, 0, 138, 21, 5, 159, 0, 5, 3, 172, 21, 5, 154, 0, 15, 45, 3] ++ lbt_37
def lbt_35 : List UInt8 := [0, 15, 45, 3, 47, 21, 6, 133, 148, 153, 0, 5, 3, 172, 167, 1, 126, 43, 42, 21, 4, 4, 96, 46, 42, 21, 4, 5, 96, 46, 45, 184, 0, 250, 54, 5, 44, 42, 21, 4, 4, 96, 46, 42, 21, 4, 5, 96, 46, 182, 0, 252, 54, 6, 44, 182, 0, 138, 21, 5, 159, 0, 5, 3] ++ lbt_36
def lbt_34 : List UInt8 := [206, 43, 42, 21, 4, 4, 96, 46, 42, 21, 4, 5, 96, 46, 42, 21, 4, 6, 96, 46, 45, 184, 0, 247, 54, 5, 44, 42, 21, 4, 4, 96, 46, 42, 21, 4, 5, 96, 46, 42, 21, 4, 6, 96, 46, 182, 0, 249, 54, 6, 44, 182, 0, 138, 21, 5, 159, 0, 5, 3, 172, 21, 5, 154] ++ lbt_35
def lbt_33 : List UInt8 := [4, 6, 96, 46, 45, 184, 0, 244, 54, 5, 44, 42, 21, 4, 4, 96, 46, 42, 21, 4, 5, 96, 46, 42, 21, 4, 6, 96, 46, 182, 0, 246, 54, 6, 44, 182, 0, 138, 21, 5, 159, 0, 5, 3, 172, 21, 5, 154, 0, 15, 45, 3, 47, 21, 6, 133, 148, 153, 0, 5, 3, 172, 167, 1] ++ lbt_34
def lbt_32 : List UInt8 := [45, 184, 0, 241, 54, 5, 44, 42, 21, 4, 4, 96, 46, 182, 0, 243, 54, 6, 44, 182, 0, 138, 21, 5, 159, 0, 5, 3, 172, 21, 5, 154, 0, 15, 45, 3, 47, 21, 6, 133, 148, 153, 0, 5, 3, 172, 167, 2, 30, 43, 42, 21, 4, 4, 96, 46, 42, 21, 4, 5, 96, 46, 42, 21] ++ lbt_33
def lbt_31 : List UInt8 := [96, 46, 45, 184, 0, 238, 54, 5, 44, 42, 21, 4, 4, 96, 46, 42, 21, 4, 5, 96, 46, 182, 0, 240, 54, 6, 44, 182, 0, 138, 21, 5, 159, 0, 5, 3, 172, 21, 5, 154, 0, 15, 45, 3, 47, 21, 6, 133, 148, 153, 0, 5, 3, 172, 167, 2, 86, 43, 42, 21, 4, 4, 96, 46] ++ lbt_32
def lbt_30 : List UInt8 := [21, 4, 4, 96, 46, 42, 21, 4, 5, 96, 46, 42, 21, 4, 6, 96, 46, 182, 0, 237, 54, 6, 44, 182, 0, 138, 21, 5, 159, 0, 5, 3, 172, 21, 5, 154, 0, 15, 45, 3, 47, 21, 6, 133, 148, 153, 0, 5, 3, 172, 167, 2, 154, 43, 42, 21, 4, 4, 96, 46, 42, 21, 4, 5] ++ lbt_31
def lbt_29 : List UInt8 := [46, 182, 0, 233, 54, 6, 44, 182, 0, 138, 21, 5, 159, 0, 5, 3, 172, 21, 5, 154, 0, 15, 45, 3, 47, 21, 6, 133, 148, 153, 0, 5, 3, 172, 167, 2, 234, 43, 42, 21, 4, 4, 96, 46, 42, 21, 4, 5, 96, 46, 42, 21, 4, 6, 96, 46, 45, 184, 0, 234, 54, 5, 44, 42] ++ lbt_30
def lbt_28 : List UInt8 := [54, 6, 44, 182, 0, 138, 21, 5, 159, 0, 5, 3, 172, 21, 5, 154, 0, 15, 45, 3, 47, 21, 6, 133, 148, 153, 0, 5, 3, 172, 167, 3, 46, 43, 42, 21, 4, 4, 96, 46, 42, 21, 4, 5, 96, 46, 45, 184, 0, 231, 54, 5, 44, 42, 21, 4, 4, 96, 46, 42, 21, 4, 5, 96] ++ lbt_29
def lbt_27 : List UInt8 := [227, 54, 6, 44, 182, 0, 138, 21, 5, 159, 0, 5, 3, 172, 21, 5, 154, 0, 22, 45, 3, 47, 21, 6, 153, 0, 7, 10, 167, 0, 4, 9, 148, 153, 0, 5, 3, 172, 167, 3, 102, 43, 42, 21, 4, 4, 96, 46, 45, 184, 0, 228, 54, 5, 44, 42, 21, 4, 4, 96, 46, 182, 0, 230] ++ lbt_28
def lbt_26 : List UInt8 := [45, 3, 47, 22, 6, 148, 153, 0, 5, 3, 172, 167, 3, 193, 43, 42, 21, 4, 4, 96, 46, 42, 21, 4, 5, 96, 46, 153, 0, 7, 4, 167, 0, 4, 3, 45, 184, 0, 225, 54, 5, 44, 42, 21, 4, 4, 96, 46, 42, 21, 4, 5, 96, 46, 153, 0, 7, 4, 167, 0, 4, 3, 182, 0] ++ lbt_27
def lbt_25 : List UInt8 := [5, 3, 172, 21, 5, 154, 0, 15, 45, 3, 47, 21, 6, 133, 148, 153, 0, 5, 3, 172, 167, 3, 248, 43, 42, 21, 4, 4, 96, 46, 45, 184, 0, 222, 54, 5, 44, 42, 21, 4, 4, 96, 46, 182, 0, 224, 55, 6, 44, 182, 0, 138, 21, 5, 159, 0, 5, 3, 172, 21, 5, 154, 0, 14] ++ lbt_26
def lbt_24 : List UInt8 := [5, 154, 0, 15, 45, 3, 47, 21, 6, 133, 148, 153, 0, 5, 3, 172, 167, 4, 60, 43, 42, 21, 4, 4, 96, 46, 42, 21, 4, 5, 96, 46, 45, 184, 0, 219, 54, 5, 44, 42, 21, 4, 4, 96, 46, 42, 21, 4, 5, 96, 46, 182, 0, 221, 54, 6, 44, 182, 0, 138, 21, 5, 159, 0] ++ lbt_25
def lbt_23 : List UInt8 := [21, 5, 159, 0, 5, 3, 172, 21, 5, 154, 0, 15, 45, 3, 47, 21, 6, 133, 148, 153, 0, 5, 3, 172, 167, 4, 116, 43, 42, 21, 4, 4, 96, 46, 45, 184, 0, 216, 54, 5, 44, 42, 21, 4, 4, 96, 46, 182, 0, 218, 54, 6, 44, 182, 0, 138, 21, 5, 159, 0, 5, 3, 172, 21] ++ lbt_24
def lbt_22 : List UInt8 := [0, 212, 54, 6, 44, 182, 0, 138, 21, 5, 159, 0, 5, 3, 172, 21, 5, 154, 0, 15, 45, 3, 47, 21, 6, 133, 148, 153, 0, 5, 3, 172, 167, 4, 172, 43, 42, 21, 4, 4, 96, 46, 45, 184, 0, 213, 54, 5, 44, 42, 21, 4, 4, 96, 46, 182, 0, 215, 54, 6, 44, 182, 0, 138] ++ lbt_23
def lbt_21 : List UInt8 := [44, 182, 0, 138, 21, 5, 159, 0, 5, 3, 172, 21, 5, 154, 0, 15, 45, 3, 47, 21, 6, 133, 148, 153, 0, 5, 3, 172, 167, 4, 240, 43, 42, 21, 4, 4, 96, 46, 42, 21, 4, 5, 96, 46, 45, 184, 0, 210, 54, 5, 44, 42, 21, 4, 4, 96, 46, 42, 21, 4, 5, 96, 46, 182] ++ lbt_22
def lbt_20 : List UInt8 := [138, 21, 5, 159, 0, 5, 3, 172, 21, 5, 154, 0, 14, 45, 3, 47, 22, 6, 148, 153, 0, 5, 3, 172, 167, 5, 52, 43, 42, 21, 4, 4, 96, 46, 42, 21, 4, 5, 96, 46, 45, 184, 0, 207, 54, 5, 44, 42, 21, 4, 4, 96, 46, 42, 21, 4, 5, 96, 46, 182, 0, 209, 54, 6] ++ lbt_21
def lbt_19 : List UInt8 := [4, 96, 46, 42, 21, 4, 5, 96, 46, 153, 0, 7, 4, 167, 0, 4, 3, 42, 21, 4, 6, 96, 46, 45, 184, 0, 203, 54, 5, 44, 42, 21, 4, 4, 96, 46, 42, 21, 4, 5, 96, 46, 153, 0, 7, 4, 167, 0, 4, 3, 42, 21, 4, 6, 96, 46, 182, 0, 206, 55, 6, 44, 182, 0] ++ lbt_20
def lbt_18 : List UInt8 := [199, 54, 5, 44, 42, 21, 4, 4, 96, 46, 42, 21, 4, 5, 96, 46, 153, 0, 7, 4, 167, 0, 4, 3, 182, 0, 202, 54, 6, 44, 182, 0, 138, 21, 5, 159, 0, 5, 3, 172, 21, 5, 154, 0, 15, 45, 3, 47, 21, 6, 133, 148, 153, 0, 5, 3, 172, 167, 5, 147, 43, 42, 21, 4] ++ lbt_19
def lbt_17 : List UInt8 := [54, 6, 44, 182, 0, 138, 21, 5, 159, 0, 5, 3, 172, 21, 5, 154, 0, 22, 45, 3, 47, 21, 6, 153, 0, 7, 10, 167, 0, 4, 9, 148, 153, 0, 5, 3, 172, 167, 5, 231, 43, 42, 21, 4, 4, 96, 46, 42, 21, 4, 5, 96, 46, 153, 0, 7, 4, 167, 0, 4, 3, 45, 184, 0] ++ lbt_18
def lbt_16 : List UInt8 := [21, 4, 4, 96, 46, 182, 0, 195, 54, 6, 44, 182, 0, 138, 21, 5, 159, 0, 5, 3, 172, 21, 5, 154, 0, 15, 45, 3, 47, 21, 6, 133, 148, 153, 0, 5, 3, 172, 167, 6, 38, 43, 42, 21, 4, 4, 96, 46, 45, 184, 0, 196, 54, 5, 44, 42, 21, 4, 4, 96, 46, 182, 0, 198] ++ lbt_17
def lbt_15 : List UInt8 := [45, 184, 0, 190, 54, 5, 44, 42, 21, 4, 4, 96, 46, 182, 0, 192, 54, 6, 44, 182, 0, 138, 21, 5, 159, 0, 5, 3, 172, 21, 5, 154, 0, 15, 45, 3, 47, 21, 6, 133, 148, 153, 0, 5, 3, 172, 167, 6, 94, 43, 42, 21, 4, 4, 96, 46, 45, 184, 0, 193, 54, 5, 44, 42] ++ lbt_16
def lbt_14 : List UInt8 := [206, 43, 42, 21, 4, 4, 96, 46, 45, 184, 0, 187, 54, 5, 44, 42, 21, 4, 4, 96, 46, 182, 0, 189, 54, 6, 44, 182, 0, 138, 21, 5, 159, 0, 5, 3, 172, 21, 5, 154, 0, 15, 45, 3, 47, 21, 6, 133, 148, 153, 0, 5, 3, 172, 167, 6, 150, 43, 42, 21, 4, 4, 96, 46] ++ lbt_15
def lbt_13 : List UInt8 := [148, 153, 0, 5, 3, 172, 167, 7, 6, 43, 42, 21, 4, 4, 96, 46, 45, 184, 0, 184, 54, 5, 44, 42, 21, 4, 4, 96, 46, 182, 0, 186, 54, 6, 44, 182, 0, 138, 21, 5, 159, 0, 5, 3, 172, 21, 5, 154, 0, 15, 45, 3, 47, 21, 6, 133, 148, 153, 0, 5, 3, 172, 167, 6] ++ lbt_14
def lbt_12 : List UInt8 := [3, 172, 167, 7, 74, 43, 42, 21, 4, 4, 96, 46, 42, 21, 4, 5, 96, 46, 45, 184, 0, 180, 54, 5, 44, 42, 21, 4, 4, 96, 46, 42, 21, 4, 5, 96, 46, 182, 0, 183, 54, 6, 44, 182, 0, 138, 21, 5, 159, 0, 5, 3, 172, 21, 5, 154, 0, 15, 45, 3, 47, 21, 6, 133] ++ lbt_13
def lbt_11 : List UInt8 := [43, 182, 0, 173, 44, 182, 0, 176, 159, 7, 132, 3, 172, 43, 42, 21, 4, 4, 96, 46, 45, 184, 0, 177, 54, 5, 44, 42, 21, 4, 4, 96, 46, 182, 0, 179, 54, 6, 44, 182, 0, 138, 21, 5, 159, 0, 5, 3, 172, 21, 5, 154, 0, 15, 45, 3, 47, 21, 6, 133, 148, 153, 0, 5] ++ lbt_12
def lbt_10 : List UInt8 := [153, 0, 5, 3, 172, 167, 7, 199, 43, 42, 21, 4, 4, 96, 46, 45, 184, 0, 170, 54, 5, 44, 42, 21, 4, 4, 96, 46, 182, 0, 172, 54, 6, 44, 182, 0, 138, 21, 5, 159, 0, 5, 3, 172, 21, 5, 154, 0, 15, 45, 3, 47, 21, 6, 133, 148, 153, 0, 5, 3, 172, 167, 7, 143] ++ lbt_11
def lbt_9 : List UInt8 := [0, 7, 10, 167, 0, 4, 9, 148, 153, 0, 5, 3, 172, 167, 7, 255, 43, 42, 21, 4, 4, 96, 46, 45, 184, 0, 167, 54, 5, 44, 42, 21, 4, 4, 96, 46, 182, 0, 169, 54, 6, 44, 182, 0, 138, 21, 5, 159, 0, 5, 3, 172, 21, 5, 154, 0, 15, 45, 3, 47, 21, 6, 133, 148] ++ lbt_10
def lbt_8 : List UInt8 := [0, 15, 45, 3, 47, 21, 6, 133, 148, 153, 0, 5, 3, 172, 167, 8, 62, 43, 42, 21, 4, 4, 96, 46, 45, 184, 0, 164, 54, 5, 44, 42, 21, 4, 4, 96, 46, 182, 0, 166, 54, 6, 44, 182, 0, 138, 21, 5, 159, 0, 5, 3, 172, 21, 5, 154, 0, 22, 45, 3, 47, 21, 6, 153] ++ lbt_9
def lbt_7 : List UInt8 := [159, 0, 5, 3, 172, 21, 5, 154, 0, 15, 45, 3, 47, 21, 6, 133, 148, 153, 0, 5, 3, 172, 167, 8, 118, 43, 42, 21, 4, 4, 96, 46, 45, 184, 0, 161, 54, 5, 44, 42, 21, 4, 4, 96, 46, 182, 0, 163, 54, 6, 44, 182, 0, 138, 21, 5, 159, 0, 5, 3, 172, 21, 5, 154] ++ lbt_8
def lbt_6 : List UInt8 := [0, 149, 159, 8, 202, 3, 172, 43, 182, 0, 150, 44, 182, 0, 153, 159, 8, 189, 3, 172, 43, 182, 0, 154, 44, 182, 0, 157, 159, 8, 176, 3, 172, 43, 42, 21, 4, 4, 96, 46, 45, 184, 0, 158, 54, 5, 44, 42, 21, 4, 4, 96, 46, 182, 0, 160, 54, 6, 44, 182, 0, 138, 21, 5] ++ lbt_7
def lbt_5 : List UInt8 := [54, 5, 44, 42, 21, 4, 4, 96, 46, 182, 0, 137, 54, 6, 44, 182, 0, 138, 21, 5, 159, 0, 5, 3, 172, 21, 5, 154, 0, 15, 45, 3, 47, 21, 6, 133, 148, 153, 0, 5, 3, 172, 167, 8, 226, 43, 182, 0, 142, 44, 182, 0, 145, 159, 8, 215, 3, 172, 43, 182, 0, 146, 44, 182] ++ lbt_6
def lbt_4 : List UInt8 := [21, 4, 7, 96, 46, 42, 21, 4, 8, 96, 46, 182, 0, 127, 44, 42, 21, 4, 4, 96, 46, 42, 21, 4, 5, 96, 46, 42, 21, 4, 6, 96, 46, 42, 21, 4, 7, 96, 46, 42, 21, 4, 8, 96, 46, 182, 0, 131, 159, 9, 28, 3, 172, 43, 42, 21, 4, 4, 96, 46, 45, 184, 0, 132] ++ lbt_5
def lbt_3 : List UInt8 := [0, 0, 8, 89, 0, 0, 8, 169, 0, 0, 8, 237, 0, 0, 9, 37, 0, 0, 9, 105, 0, 0, 9, 161, 0, 0, 9, 186, 0, 0, 9, 199, 0, 0, 9, 212, 0, 0, 9, 223, 0, 0, 9, 236, 43, 42, 21, 4, 4, 96, 46, 42, 21, 4, 5, 96, 46, 42, 21, 4, 6, 96, 46, 42] ++ lbt_4
def lbt_2 : List UInt8 := [0, 0, 4, 1, 0, 0, 4, 64, 0, 0, 4, 148, 0, 0, 4, 243, 0, 0, 5, 55, 0, 0, 5, 123, 0, 0, 5, 179, 0, 0, 5, 235, 0, 0, 6, 47, 0, 0, 6, 102, 0, 0, 6, 193, 0, 0, 6, 249, 0, 0, 7, 61, 0, 0, 7, 141, 0, 0, 7, 209, 0, 0, 8, 9] ++ lbt_3
def lbt_1 : List UInt8 := [0, 0, 1, 69, 0, 0, 1, 82, 0, 0, 1, 95, 0, 0, 1, 108, 0, 0, 1, 121, 0, 0, 1, 177, 0, 0, 1, 233, 0, 0, 2, 40, 0, 0, 2, 96, 0, 0, 2, 152, 0, 0, 2, 165, 0, 0, 2, 221, 0, 0, 3, 33, 0, 0, 3, 89, 0, 0, 3, 145, 0, 0, 3, 201] ++ lbt_2
def lbt_0 : List UInt8 := [187, 0, 8, 89, 183, 0, 123, 76, 187, 0, 124, 89, 183, 0, 126, 77, 4, 188, 11, 78, 3, 54, 4, 21, 4, 42, 190, 16, 6, 100, 163, 10, 52, 42, 21, 4, 46, 16, 63, 126, 170, 0, 0, 0, 0, 0, 10, 36, 0, 0, 0, 0, 0, 0, 0, 44, 0, 0, 0, 196, 0, 0, 1, 13] ++ lbt_1
set_option maxRecDepth 100000 in
theorem lg_0 (i : Nat) : cL_law.data.toList[0 + i]? = lbt_0[i]? := by
  rw [Nat.zero_add, show cL_law.data.toList = lbt_0 by decide +kernel]
theorem lg_1 (i : Nat) : cL_law.data.toList[64 + i]? = lbt_1[i]? := by
  rw [show 64 + i = 0 + (64 + i) by omega, lg_0, show lbt_0 = [187, 0, 8, 89, 183, 0, 123, 76, 187, 0, 124, 89, 183, 0, 126, 77, 4, 188, 11, 78, 3, 54, 4, 21, 4, 42, 190, 16, 6, 100, 163, 10, 52, 42, 21, 4, 46, 16, 63, 126, 170, 0, 0, 0, 0, 0, 10, 36, 0, 0, 0, 0, 0, 0, 0, 44, 0, 0, 0, 196, 0, 0, 1, 13] ++ lbt_1 from rfl, List.getElem?_append_right (Nat.le_add_right 64 i)]
  show lbt_1[64 + i - 64]? = _
  rw [Nat.add_sub_cancel_left]
theorem lg_2 (i : Nat) : cL_law.data.toList[128 + i]? = lbt_2[i]? := by
  rw [show 128 + i = 64 + (64 + i) by omega, lg_1, show lbt_1 = [0, 0, 1, 69, 0, 0, 1, 82, 0, 0, 1, 95, 0, 0, 1, 108, 0, 0, 1, 121, 0, 0, 1, 177, 0, 0, 1, 233, 0, 0, 2, 40, 0, 0, 2, 96, 0, 0, 2, 152, 0, 0, 2, 165, 0, 0, 2, 221, 0, 0, 3, 33, 0, 0, 3, 89, 0, 0, 3, 145, 0, 0, 3, 201] ++ lbt_2 from rfl, List.getElem?_append_right (Nat.le_add_right 64 i)]
  show lbt_2[64 + i - 64]? = _
  rw [Nat.add_sub_cancel_left]
theorem lg_3 (i : Nat) : cL_law.data.toList[192 + i]? = lbt_3[i]? := by
  rw [show 192 + i = 128 + (64 + i) by omega, lg_2, show lbt_2 = [0, 0, 4, 1, 0, 0, 4, 64, 0, 0, 4, 148, 0, 0, 4, 243, 0, 0, 5, 55, 0, 0, 5, 123, 0, 0, 5, 179, 0, 0, 5, 235, 0, 0, 6, 47, 0, 0, 6, 102, 0, 0, 6, 193, 0, 0, 6, 249, 0, 0, 7, 61, 0, 0, 7, 141, 0, 0, 7, 209, 0, 0, 8, 9] ++ lbt_3 from rfl, List.getElem?_append_right (Nat.le_add_right 64 i)]
  show lbt_3[64 + i - 64]? = _
  rw [Nat.add_sub_cancel_left]
theorem lg_4 (i : Nat) : cL_law.data.toList[256 + i]? = lbt_4[i]? := by
  rw [show 256 + i = 192 + (64 + i) by omega, lg_3, show lbt_3 = [0, 0, 8, 89, 0, 0, 8, 169, 0, 0, 8, 237, 0, 0, 9, 37, 0, 0, 9, 105, 0, 0, 9, 161, 0, 0, 9, 186, 0, 0, 9, 199, 0, 0, 9, 212, 0, 0, 9, 223, 0, 0, 9, 236, 43, 42, 21, 4, 4, 96, 46, 42, 21, 4, 5, 96, 46, 42, 21, 4, 6, 96, 46, 42] ++ lbt_4 from rfl, List.getElem?_append_right (Nat.le_add_right 64 i)]
  show lbt_4[64 + i - 64]? = _
  rw [Nat.add_sub_cancel_left]
theorem lg_5 (i : Nat) : cL_law.data.toList[320 + i]? = lbt_5[i]? := by
  rw [show 320 + i = 256 + (64 + i) by omega, lg_4, show lbt_4 = [21, 4, 7, 96, 46, 42, 21, 4, 8, 96, 46, 182, 0, 127, 44, 42, 21, 4, 4, 96, 46, 42, 21, 4, 5, 96, 46, 42, 21, 4, 6, 96, 46, 42, 21, 4, 7, 96, 46, 42, 21, 4, 8, 96, 46, 182, 0, 131, 159, 9, 28, 3, 172, 43, 42, 21, 4, 4, 96, 46, 45, 184, 0, 132] ++ lbt_5 from rfl, List.getElem?_append_right (Nat.le_add_right 64 i)]
  show lbt_5[64 + i - 64]? = _
  rw [Nat.add_sub_cancel_left]
theorem lg_6 (i : Nat) : cL_law.data.toList[384 + i]? = lbt_6[i]? := by
  rw [show 384 + i = 320 + (64 + i) by omega, lg_5, show lbt_5 = [54, 5, 44, 42, 21, 4, 4, 96, 46, 182, 0, 137, 54, 6, 44, 182, 0, 138, 21, 5, 159, 0, 5, 3, 172, 21, 5, 154, 0, 15, 45, 3, 47, 21, 6, 133, 148, 153, 0, 5, 3, 172, 167, 8, 226, 43, 182, 0, 142, 44, 182, 0, 145, 159, 8, 215, 3, 172, 43, 182, 0, 146, 44, 182] ++ lbt_6 from rfl, List.getElem?_append_right (Nat.le_add_right 64 i)]
  show lbt_6[64 + i - 64]? = _
  rw [Nat.add_sub_cancel_left]
theorem lg_7 (i : Nat) : cL_law.data.toList[448 + i]? = lbt_7[i]? := by
  rw [show 448 + i = 384 + (64 + i) by omega, lg_6, show lbt_6 = [0, 149, 159, 8, 202, 3, 172, 43, 182, 0, 150, 44, 182, 0, 153, 159, 8, 189, 3, 172, 43, 182, 0, 154, 44, 182, 0, 157, 159, 8, 176, 3, 172, 43, 42, 21, 4, 4, 96, 46, 45, 184, 0, 158, 54, 5, 44, 42, 21, 4, 4, 96, 46, 182, 0, 160, 54, 6, 44, 182, 0, 138, 21, 5] ++ lbt_7 from rfl, List.getElem?_append_right (Nat.le_add_right 64 i)]
  show lbt_7[64 + i - 64]? = _
  rw [Nat.add_sub_cancel_left]
theorem lg_8 (i : Nat) : cL_law.data.toList[512 + i]? = lbt_8[i]? := by
  rw [show 512 + i = 448 + (64 + i) by omega, lg_7, show lbt_7 = [159, 0, 5, 3, 172, 21, 5, 154, 0, 15, 45, 3, 47, 21, 6, 133, 148, 153, 0, 5, 3, 172, 167, 8, 118, 43, 42, 21, 4, 4, 96, 46, 45, 184, 0, 161, 54, 5, 44, 42, 21, 4, 4, 96, 46, 182, 0, 163, 54, 6, 44, 182, 0, 138, 21, 5, 159, 0, 5, 3, 172, 21, 5, 154] ++ lbt_8 from rfl, List.getElem?_append_right (Nat.le_add_right 64 i)]
  show lbt_8[64 + i - 64]? = _
  rw [Nat.add_sub_cancel_left]
theorem lg_9 (i : Nat) : cL_law.data.toList[576 + i]? = lbt_9[i]? := by
  rw [show 576 + i = 512 + (64 + i) by omega, lg_8, show lbt_8 = [0, 15, 45, 3, 47, 21, 6, 133, 148, 153, 0, 5, 3, 172, 167, 8, 62, 43, 42, 21, 4, 4, 96, 46, 45, 184, 0, 164, 54, 5, 44, 42, 21, 4, 4, 96, 46, 182, 0, 166, 54, 6, 44, 182, 0, 138, 21, 5, 159, 0, 5, 3, 172, 21, 5, 154, 0, 22, 45, 3, 47, 21, 6, 153] ++ lbt_9 from rfl, List.getElem?_append_right (Nat.le_add_right 64 i)]
  show lbt_9[64 + i - 64]? = _
  rw [Nat.add_sub_cancel_left]
theorem lg_10 (i : Nat) : cL_law.data.toList[640 + i]? = lbt_10[i]? := by
  rw [show 640 + i = 576 + (64 + i) by omega, lg_9, show lbt_9 = [0, 7, 10, 167, 0, 4, 9, 148, 153, 0, 5, 3, 172, 167, 7, 255, 43, 42, 21, 4, 4, 96, 46, 45, 184, 0, 167, 54, 5, 44, 42, 21, 4, 4, 96, 46, 182, 0, 169, 54, 6, 44, 182, 0, 138, 21, 5, 159, 0, 5, 3, 172, 21, 5, 154, 0, 15, 45, 3, 47, 21, 6, 133, 148] ++ lbt_10 from rfl, List.getElem?_append_right (Nat.le_add_right 64 i)]
  show lbt_10[64 + i - 64]? = _
  rw [Nat.add_sub_cancel_left]
theorem lg_11 (i : Nat) : cL_law.data.toList[704 + i]? = lbt_11[i]? := by
  rw [show 704 + i = 640 + (64 + i) by omega, lg_10, show lbt_10 = [153, 0, 5, 3, 172, 167, 7, 199, 43, 42, 21, 4, 4, 96, 46, 45, 184, 0, 170, 54, 5, 44, 42, 21, 4, 4, 96, 46, 182, 0, 172, 54, 6, 44, 182, 0, 138, 21, 5, 159, 0, 5, 3, 172, 21, 5, 154, 0, 15, 45, 3, 47, 21, 6, 133, 148, 153, 0, 5, 3, 172, 167, 7, 143] ++ lbt_11 from rfl, List.getElem?_append_right (Nat.le_add_right 64 i)]
  show lbt_11[64 + i - 64]? = _
  rw [Nat.add_sub_cancel_left]
theorem lg_12 (i : Nat) : cL_law.data.toList[768 + i]? = lbt_12[i]? := by
  rw [show 768 + i = 704 + (64 + i) by omega, lg_11, show lbt_11 = [43, 182, 0, 173, 44, 182, 0, 176, 159, 7, 132, 3, 172, 43, 42, 21, 4, 4, 96, 46, 45, 184, 0, 177, 54, 5, 44, 42, 21, 4, 4, 96, 46, 182, 0, 179, 54, 6, 44, 182, 0, 138, 21, 5, 159, 0, 5, 3, 172, 21, 5, 154, 0, 15, 45, 3, 47, 21, 6, 133, 148, 153, 0, 5] ++ lbt_12 from rfl, List.getElem?_append_right (Nat.le_add_right 64 i)]
  show lbt_12[64 + i - 64]? = _
  rw [Nat.add_sub_cancel_left]
theorem lg_13 (i : Nat) : cL_law.data.toList[832 + i]? = lbt_13[i]? := by
  rw [show 832 + i = 768 + (64 + i) by omega, lg_12, show lbt_12 = [3, 172, 167, 7, 74, 43, 42, 21, 4, 4, 96, 46, 42, 21, 4, 5, 96, 46, 45, 184, 0, 180, 54, 5, 44, 42, 21, 4, 4, 96, 46, 42, 21, 4, 5, 96, 46, 182, 0, 183, 54, 6, 44, 182, 0, 138, 21, 5, 159, 0, 5, 3, 172, 21, 5, 154, 0, 15, 45, 3, 47, 21, 6, 133] ++ lbt_13 from rfl, List.getElem?_append_right (Nat.le_add_right 64 i)]
  show lbt_13[64 + i - 64]? = _
  rw [Nat.add_sub_cancel_left]
theorem lg_14 (i : Nat) : cL_law.data.toList[896 + i]? = lbt_14[i]? := by
  rw [show 896 + i = 832 + (64 + i) by omega, lg_13, show lbt_13 = [148, 153, 0, 5, 3, 172, 167, 7, 6, 43, 42, 21, 4, 4, 96, 46, 45, 184, 0, 184, 54, 5, 44, 42, 21, 4, 4, 96, 46, 182, 0, 186, 54, 6, 44, 182, 0, 138, 21, 5, 159, 0, 5, 3, 172, 21, 5, 154, 0, 15, 45, 3, 47, 21, 6, 133, 148, 153, 0, 5, 3, 172, 167, 6] ++ lbt_14 from rfl, List.getElem?_append_right (Nat.le_add_right 64 i)]
  show lbt_14[64 + i - 64]? = _
  rw [Nat.add_sub_cancel_left]
theorem lg_15 (i : Nat) : cL_law.data.toList[960 + i]? = lbt_15[i]? := by
  rw [show 960 + i = 896 + (64 + i) by omega, lg_14, show lbt_14 = [206, 43, 42, 21, 4, 4, 96, 46, 45, 184, 0, 187, 54, 5, 44, 42, 21, 4, 4, 96, 46, 182, 0, 189, 54, 6, 44, 182, 0, 138, 21, 5, 159, 0, 5, 3, 172, 21, 5, 154, 0, 15, 45, 3, 47, 21, 6, 133, 148, 153, 0, 5, 3, 172, 167, 6, 150, 43, 42, 21, 4, 4, 96, 46] ++ lbt_15 from rfl, List.getElem?_append_right (Nat.le_add_right 64 i)]
  show lbt_15[64 + i - 64]? = _
  rw [Nat.add_sub_cancel_left]
theorem lg_16 (i : Nat) : cL_law.data.toList[1024 + i]? = lbt_16[i]? := by
  rw [show 1024 + i = 960 + (64 + i) by omega, lg_15, show lbt_15 = [45, 184, 0, 190, 54, 5, 44, 42, 21, 4, 4, 96, 46, 182, 0, 192, 54, 6, 44, 182, 0, 138, 21, 5, 159, 0, 5, 3, 172, 21, 5, 154, 0, 15, 45, 3, 47, 21, 6, 133, 148, 153, 0, 5, 3, 172, 167, 6, 94, 43, 42, 21, 4, 4, 96, 46, 45, 184, 0, 193, 54, 5, 44, 42] ++ lbt_16 from rfl, List.getElem?_append_right (Nat.le_add_right 64 i)]
  show lbt_16[64 + i - 64]? = _
  rw [Nat.add_sub_cancel_left]
theorem lg_17 (i : Nat) : cL_law.data.toList[1088 + i]? = lbt_17[i]? := by
  rw [show 1088 + i = 1024 + (64 + i) by omega, lg_16, show lbt_16 = [21, 4, 4, 96, 46, 182, 0, 195, 54, 6, 44, 182, 0, 138, 21, 5, 159, 0, 5, 3, 172, 21, 5, 154, 0, 15, 45, 3, 47, 21, 6, 133, 148, 153, 0, 5, 3, 172, 167, 6, 38, 43, 42, 21, 4, 4, 96, 46, 45, 184, 0, 196, 54, 5, 44, 42, 21, 4, 4, 96, 46, 182, 0, 198] ++ lbt_17 from rfl, List.getElem?_append_right (Nat.le_add_right 64 i)]
  show lbt_17[64 + i - 64]? = _
  rw [Nat.add_sub_cancel_left]
theorem lg_18 (i : Nat) : cL_law.data.toList[1152 + i]? = lbt_18[i]? := by
  rw [show 1152 + i = 1088 + (64 + i) by omega, lg_17, show lbt_17 = [54, 6, 44, 182, 0, 138, 21, 5, 159, 0, 5, 3, 172, 21, 5, 154, 0, 22, 45, 3, 47, 21, 6, 153, 0, 7, 10, 167, 0, 4, 9, 148, 153, 0, 5, 3, 172, 167, 5, 231, 43, 42, 21, 4, 4, 96, 46, 42, 21, 4, 5, 96, 46, 153, 0, 7, 4, 167, 0, 4, 3, 45, 184, 0] ++ lbt_18 from rfl, List.getElem?_append_right (Nat.le_add_right 64 i)]
  show lbt_18[64 + i - 64]? = _
  rw [Nat.add_sub_cancel_left]
theorem lg_19 (i : Nat) : cL_law.data.toList[1216 + i]? = lbt_19[i]? := by
  rw [show 1216 + i = 1152 + (64 + i) by omega, lg_18, show lbt_18 = [199, 54, 5, 44, 42, 21, 4, 4, 96, 46, 42, 21, 4, 5, 96, 46, 153, 0, 7, 4, 167, 0, 4, 3, 182, 0, 202, 54, 6, 44, 182, 0, 138, 21, 5, 159, 0, 5, 3, 172, 21, 5, 154, 0, 15, 45, 3, 47, 21, 6, 133, 148, 153, 0, 5, 3, 172, 167, 5, 147, 43, 42, 21, 4] ++ lbt_19 from rfl, List.getElem?_append_right (Nat.le_add_right 64 i)]
  show lbt_19[64 + i - 64]? = _
  rw [Nat.add_sub_cancel_left]
theorem lg_20 (i : Nat) : cL_law.data.toList[1280 + i]? = lbt_20[i]? := by
  rw [show 1280 + i = 1216 + (64 + i) by omega, lg_19, show lbt_19 = [4, 96, 46, 42, 21, 4, 5, 96, 46, 153, 0, 7, 4, 167, 0, 4, 3, 42, 21, 4, 6, 96, 46, 45, 184, 0, 203, 54, 5, 44, 42, 21, 4, 4, 96, 46, 42, 21, 4, 5, 96, 46, 153, 0, 7, 4, 167, 0, 4, 3, 42, 21, 4, 6, 96, 46, 182, 0, 206, 55, 6, 44, 182, 0] ++ lbt_20 from rfl, List.getElem?_append_right (Nat.le_add_right 64 i)]
  show lbt_20[64 + i - 64]? = _
  rw [Nat.add_sub_cancel_left]
theorem lg_21 (i : Nat) : cL_law.data.toList[1344 + i]? = lbt_21[i]? := by
  rw [show 1344 + i = 1280 + (64 + i) by omega, lg_20, show lbt_20 = [138, 21, 5, 159, 0, 5, 3, 172, 21, 5, 154, 0, 14, 45, 3, 47, 22, 6, 148, 153, 0, 5, 3, 172, 167, 5, 52, 43, 42, 21, 4, 4, 96, 46, 42, 21, 4, 5, 96, 46, 45, 184, 0, 207, 54, 5, 44, 42, 21, 4, 4, 96, 46, 42, 21, 4, 5, 96, 46, 182, 0, 209, 54, 6] ++ lbt_21 from rfl, List.getElem?_append_right (Nat.le_add_right 64 i)]
  show lbt_21[64 + i - 64]? = _
  rw [Nat.add_sub_cancel_left]
theorem lg_22 (i : Nat) : cL_law.data.toList[1408 + i]? = lbt_22[i]? := by
  rw [show 1408 + i = 1344 + (64 + i) by omega, lg_21, show lbt_21 = [44, 182, 0, 138, 21, 5, 159, 0, 5, 3, 172, 21, 5, 154, 0, 15, 45, 3, 47, 21, 6, 133, 148, 153, 0, 5, 3, 172, 167, 4, 240, 43, 42, 21, 4, 4, 96, 46, 42, 21, 4, 5, 96, 46, 45, 184, 0, 210, 54, 5, 44, 42, 21, 4, 4, 96, 46, 42, 21, 4, 5, 96, 46, 182] ++ lbt_22 from rfl, List.getElem?_append_right (Nat.le_add_right 64 i)]
  show lbt_22[64 + i - 64]? = _
  rw [Nat.add_sub_cancel_left]
theorem lg_23 (i : Nat) : cL_law.data.toList[1472 + i]? = lbt_23[i]? := by
  rw [show 1472 + i = 1408 + (64 + i) by omega, lg_22, show lbt_22 = [0, 212, 54, 6, 44, 182, 0, 138, 21, 5, 159, 0, 5, 3, 172, 21, 5, 154, 0, 15, 45, 3, 47, 21, 6, 133, 148, 153, 0, 5, 3, 172, 167, 4, 172, 43, 42, 21, 4, 4, 96, 46, 45, 184, 0, 213, 54, 5, 44, 42, 21, 4, 4, 96, 46, 182, 0, 215, 54, 6, 44, 182, 0, 138] ++ lbt_23 from rfl, List.getElem?_append_right (Nat.le_add_right 64 i)]
  show lbt_23[64 + i - 64]? = _
  rw [Nat.add_sub_cancel_left]
theorem lg_24 (i : Nat) : cL_law.data.toList[1536 + i]? = lbt_24[i]? := by
  rw [show 1536 + i = 1472 + (64 + i) by omega, lg_23, show lbt_23 = [21, 5, 159, 0, 5, 3, 172, 21, 5, 154, 0, 15, 45, 3, 47, 21, 6, 133, 148, 153, 0, 5, 3, 172, 167, 4, 116, 43, 42, 21, 4, 4, 96, 46, 45, 184, 0, 216, 54, 5, 44, 42, 21, 4, 4, 96, 46, 182, 0, 218, 54, 6, 44, 182, 0, 138, 21, 5, 159, 0, 5, 3, 172, 21] ++ lbt_24 from rfl, List.getElem?_append_right (Nat.le_add_right 64 i)]
  show lbt_24[64 + i - 64]? = _
  rw [Nat.add_sub_cancel_left]
theorem lg_25 (i : Nat) : cL_law.data.toList[1600 + i]? = lbt_25[i]? := by
  rw [show 1600 + i = 1536 + (64 + i) by omega, lg_24, show lbt_24 = [5, 154, 0, 15, 45, 3, 47, 21, 6, 133, 148, 153, 0, 5, 3, 172, 167, 4, 60, 43, 42, 21, 4, 4, 96, 46, 42, 21, 4, 5, 96, 46, 45, 184, 0, 219, 54, 5, 44, 42, 21, 4, 4, 96, 46, 42, 21, 4, 5, 96, 46, 182, 0, 221, 54, 6, 44, 182, 0, 138, 21, 5, 159, 0] ++ lbt_25 from rfl, List.getElem?_append_right (Nat.le_add_right 64 i)]
  show lbt_25[64 + i - 64]? = _
  rw [Nat.add_sub_cancel_left]
theorem lg_26 (i : Nat) : cL_law.data.toList[1664 + i]? = lbt_26[i]? := by
  rw [show 1664 + i = 1600 + (64 + i) by omega, lg_25, show lbt_25 = [5, 3, 172, 21, 5, 154, 0, 15, 45, 3, 47, 21, 6, 133, 148, 153, 0, 5, 3, 172, 167, 3, 248, 43, 42, 21, 4, 4, 96, 46, 45, 184, 0, 222, 54, 5, 44, 42, 21, 4, 4, 96, 46, 182, 0, 224, 55, 6, 44, 182, 0, 138, 21, 5, 159, 0, 5, 3, 172, 21, 5, 154, 0, 14] ++ lbt_26 from rfl, List.getElem?_append_right (Nat.le_add_right 64 i)]
  show lbt_26[64 + i - 64]? = _
  rw [Nat.add_sub_cancel_left]
theorem lg_27 (i : Nat) : cL_law.data.toList[1728 + i]? = lbt_27[i]? := by
  rw [show 1728 + i = 1664 + (64 + i) by omega, lg_26, show lbt_26 = [45, 3, 47, 22, 6, 148, 153, 0, 5, 3, 172, 167, 3, 193, 43, 42, 21, 4, 4, 96, 46, 42, 21, 4, 5, 96, 46, 153, 0, 7, 4, 167, 0, 4, 3, 45, 184, 0, 225, 54, 5, 44, 42, 21, 4, 4, 96, 46, 42, 21, 4, 5, 96, 46, 153, 0, 7, 4, 167, 0, 4, 3, 182, 0] ++ lbt_27 from rfl, List.getElem?_append_right (Nat.le_add_right 64 i)]
  show lbt_27[64 + i - 64]? = _
  rw [Nat.add_sub_cancel_left]
theorem lg_28 (i : Nat) : cL_law.data.toList[1792 + i]? = lbt_28[i]? := by
  rw [show 1792 + i = 1728 + (64 + i) by omega, lg_27, show lbt_27 = [227, 54, 6, 44, 182, 0, 138, 21, 5, 159, 0, 5, 3, 172, 21, 5, 154, 0, 22, 45, 3, 47, 21, 6, 153, 0, 7, 10, 167, 0, 4, 9, 148, 153, 0, 5, 3, 172, 167, 3, 102, 43, 42, 21, 4, 4, 96, 46, 45, 184, 0, 228, 54, 5, 44, 42, 21, 4, 4, 96, 46, 182, 0, 230] ++ lbt_28 from rfl, List.getElem?_append_right (Nat.le_add_right 64 i)]
  show lbt_28[64 + i - 64]? = _
  rw [Nat.add_sub_cancel_left]
theorem lg_29 (i : Nat) : cL_law.data.toList[1856 + i]? = lbt_29[i]? := by
  rw [show 1856 + i = 1792 + (64 + i) by omega, lg_28, show lbt_28 = [54, 6, 44, 182, 0, 138, 21, 5, 159, 0, 5, 3, 172, 21, 5, 154, 0, 15, 45, 3, 47, 21, 6, 133, 148, 153, 0, 5, 3, 172, 167, 3, 46, 43, 42, 21, 4, 4, 96, 46, 42, 21, 4, 5, 96, 46, 45, 184, 0, 231, 54, 5, 44, 42, 21, 4, 4, 96, 46, 42, 21, 4, 5, 96] ++ lbt_29 from rfl, List.getElem?_append_right (Nat.le_add_right 64 i)]
  show lbt_29[64 + i - 64]? = _
  rw [Nat.add_sub_cancel_left]
theorem lg_30 (i : Nat) : cL_law.data.toList[1920 + i]? = lbt_30[i]? := by
  rw [show 1920 + i = 1856 + (64 + i) by omega, lg_29, show lbt_29 = [46, 182, 0, 233, 54, 6, 44, 182, 0, 138, 21, 5, 159, 0, 5, 3, 172, 21, 5, 154, 0, 15, 45, 3, 47, 21, 6, 133, 148, 153, 0, 5, 3, 172, 167, 2, 234, 43, 42, 21, 4, 4, 96, 46, 42, 21, 4, 5, 96, 46, 42, 21, 4, 6, 96, 46, 45, 184, 0, 234, 54, 5, 44, 42] ++ lbt_30 from rfl, List.getElem?_append_right (Nat.le_add_right 64 i)]
  show lbt_30[64 + i - 64]? = _
  rw [Nat.add_sub_cancel_left]
theorem lg_31 (i : Nat) : cL_law.data.toList[1984 + i]? = lbt_31[i]? := by
  rw [show 1984 + i = 1920 + (64 + i) by omega, lg_30, show lbt_30 = [21, 4, 4, 96, 46, 42, 21, 4, 5, 96, 46, 42, 21, 4, 6, 96, 46, 182, 0, 237, 54, 6, 44, 182, 0, 138, 21, 5, 159, 0, 5, 3, 172, 21, 5, 154, 0, 15, 45, 3, 47, 21, 6, 133, 148, 153, 0, 5, 3, 172, 167, 2, 154, 43, 42, 21, 4, 4, 96, 46, 42, 21, 4, 5] ++ lbt_31 from rfl, List.getElem?_append_right (Nat.le_add_right 64 i)]
  show lbt_31[64 + i - 64]? = _
  rw [Nat.add_sub_cancel_left]
theorem lg_32 (i : Nat) : cL_law.data.toList[2048 + i]? = lbt_32[i]? := by
  rw [show 2048 + i = 1984 + (64 + i) by omega, lg_31, show lbt_31 = [96, 46, 45, 184, 0, 238, 54, 5, 44, 42, 21, 4, 4, 96, 46, 42, 21, 4, 5, 96, 46, 182, 0, 240, 54, 6, 44, 182, 0, 138, 21, 5, 159, 0, 5, 3, 172, 21, 5, 154, 0, 15, 45, 3, 47, 21, 6, 133, 148, 153, 0, 5, 3, 172, 167, 2, 86, 43, 42, 21, 4, 4, 96, 46] ++ lbt_32 from rfl, List.getElem?_append_right (Nat.le_add_right 64 i)]
  show lbt_32[64 + i - 64]? = _
  rw [Nat.add_sub_cancel_left]
theorem lg_33 (i : Nat) : cL_law.data.toList[2112 + i]? = lbt_33[i]? := by
  rw [show 2112 + i = 2048 + (64 + i) by omega, lg_32, show lbt_32 = [45, 184, 0, 241, 54, 5, 44, 42, 21, 4, 4, 96, 46, 182, 0, 243, 54, 6, 44, 182, 0, 138, 21, 5, 159, 0, 5, 3, 172, 21, 5, 154, 0, 15, 45, 3, 47, 21, 6, 133, 148, 153, 0, 5, 3, 172, 167, 2, 30, 43, 42, 21, 4, 4, 96, 46, 42, 21, 4, 5, 96, 46, 42, 21] ++ lbt_33 from rfl, List.getElem?_append_right (Nat.le_add_right 64 i)]
  show lbt_33[64 + i - 64]? = _
  rw [Nat.add_sub_cancel_left]
theorem lg_34 (i : Nat) : cL_law.data.toList[2176 + i]? = lbt_34[i]? := by
  rw [show 2176 + i = 2112 + (64 + i) by omega, lg_33, show lbt_33 = [4, 6, 96, 46, 45, 184, 0, 244, 54, 5, 44, 42, 21, 4, 4, 96, 46, 42, 21, 4, 5, 96, 46, 42, 21, 4, 6, 96, 46, 182, 0, 246, 54, 6, 44, 182, 0, 138, 21, 5, 159, 0, 5, 3, 172, 21, 5, 154, 0, 15, 45, 3, 47, 21, 6, 133, 148, 153, 0, 5, 3, 172, 167, 1] ++ lbt_34 from rfl, List.getElem?_append_right (Nat.le_add_right 64 i)]
  show lbt_34[64 + i - 64]? = _
  rw [Nat.add_sub_cancel_left]
theorem lg_35 (i : Nat) : cL_law.data.toList[2240 + i]? = lbt_35[i]? := by
  rw [show 2240 + i = 2176 + (64 + i) by omega, lg_34, show lbt_34 = [206, 43, 42, 21, 4, 4, 96, 46, 42, 21, 4, 5, 96, 46, 42, 21, 4, 6, 96, 46, 45, 184, 0, 247, 54, 5, 44, 42, 21, 4, 4, 96, 46, 42, 21, 4, 5, 96, 46, 42, 21, 4, 6, 96, 46, 182, 0, 249, 54, 6, 44, 182, 0, 138, 21, 5, 159, 0, 5, 3, 172, 21, 5, 154] ++ lbt_35 from rfl, List.getElem?_append_right (Nat.le_add_right 64 i)]
  show lbt_35[64 + i - 64]? = _
  rw [Nat.add_sub_cancel_left]
theorem lg_36 (i : Nat) : cL_law.data.toList[2304 + i]? = lbt_36[i]? := by
  rw [show 2304 + i = 2240 + (64 + i) by omega, lg_35, show lbt_35 = [0, 15, 45, 3, 47, 21, 6, 133, 148, 153, 0, 5, 3, 172, 167, 1, 126, 43, 42, 21, 4, 4, 96, 46, 42, 21, 4, 5, 96, 46, 45, 184, 0, 250, 54, 5, 44, 42, 21, 4, 4, 96, 46, 42, 21, 4, 5, 96, 46, 182, 0, 252, 54, 6, 44, 182, 0, 138, 21, 5, 159, 0, 5, 3] ++ lbt_36 from rfl, List.getElem?_append_right (Nat.le_add_right 64 i)]
  show lbt_36[64 + i - 64]? = _
  rw [Nat.add_sub_cancel_left]
theorem lg_37 (i : Nat) : cL_law.data.toList[2368 + i]? = lbt_37[i]? := by
  rw [show 2368 + i = 2304 + (64 + i) by omega, lg_36, show lbt_36 = [172, 21, 5, 154, 0, 15, 45, 3, 47, 21, 6, 133, 148, 153, 0, 5, 3, 172, 167, 1, 58, 43, 42, 21, 4, 4, 96, 46, 45, 184, 0, 253, 54, 5, 44, 42, 21, 4, 4, 96, 46, 182, 0, 255, 54, 6, 44, 182, 0, 138, 21, 5, 159, 0, 5, 3, 172, 21, 5, 154, 0, 15, 45, 3] ++ lbt_37 from rfl, List.getElem?_append_right (Nat.le_add_right 64 i)]
  show lbt_37[64 + i - 64]? = _
  rw [Nat.add_sub_cancel_left]
theorem lg_38 (i : Nat) : cL_law.data.toList[2432 + i]? = lbt_38[i]? := by
  rw [show 2432 + i = 2368 + (64 + i) by omega, lg_37, show lbt_37 = [47, 21, 6, 133, 148, 153, 0, 5, 3, 172, 167, 1, 2, 43, 42, 21, 4, 4, 96, 46, 42, 21, 4, 5, 96, 46, 45, 184, 1, 0, 54, 5, 44, 42, 21, 4, 4, 96, 46, 42, 21, 4, 5, 96, 46, 182, 1, 2, 54, 6, 44, 182, 0, 138, 21, 5, 159, 0, 5, 3, 172, 21, 5, 154] ++ lbt_38 from rfl, List.getElem?_append_right (Nat.le_add_right 64 i)]
  show lbt_38[64 + i - 64]? = _
  rw [Nat.add_sub_cancel_left]
theorem lg_39 (i : Nat) : cL_law.data.toList[2496 + i]? = lbt_39[i]? := by
  rw [show 2496 + i = 2432 + (64 + i) by omega, lg_38, show lbt_38 = [0, 15, 45, 3, 47, 21, 6, 133, 148, 153, 0, 5, 3, 172, 167, 0, 190, 43, 42, 21, 4, 4, 96, 46, 45, 184, 1, 3, 54, 5, 44, 42, 21, 4, 4, 96, 46, 182, 1, 5, 54, 6, 44, 182, 0, 138, 21, 5, 159, 0, 5, 3, 172, 21, 5, 154, 0, 15, 45, 3, 47, 21, 6, 133] ++ lbt_39 from rfl, List.getElem?_append_right (Nat.le_add_right 64 i)]
  show lbt_39[64 + i - 64]? = _
  rw [Nat.add_sub_cancel_left]
theorem lg_40 (i : Nat) : cL_law.data.toList[2560 + i]? = lbt_40[i]? := by
  rw [show 2560 + i = 2496 + (64 + i) by omega, lg_39, show lbt_39 = [148, 153, 0, 5, 3, 172, 167, 0, 134, 43, 42, 21, 4, 4, 96, 46, 182, 1, 6, 44, 42, 21, 4, 4, 96, 46, 182, 1, 9, 159, 0, 111, 3, 172, 43, 182, 1, 10, 44, 182, 1, 13, 159, 0, 98, 3, 172, 43, 182, 1, 14, 44, 182, 1, 17, 159, 0, 85, 3, 172, 43, 182, 1, 18] ++ lbt_40 from rfl, List.getElem?_append_right (Nat.le_add_right 64 i)]
  show lbt_40[64 + i - 64]? = _
  rw [Nat.add_sub_cancel_left]
theorem lg_41 (i : Nat) : cL_law.data.toList[2624 + i]? = lbt_41[i]? := by
  rw [show 2624 + i = 2560 + (64 + i) by omega, lg_40, show lbt_40 = [44, 182, 1, 21, 167, 0, 72, 43, 182, 1, 22, 44, 182, 1, 26, 159, 0, 61, 3, 172, 43, 42, 21, 4, 4, 96, 46, 45, 184, 1, 27, 54, 5, 44, 42, 21, 4, 4, 96, 46, 182, 1, 29, 54, 6, 44, 182, 0, 138, 21, 5, 159, 0, 5, 3, 172, 21, 5, 154, 0, 15, 45, 3, 47] ++ lbt_41 from rfl, List.getElem?_append_right (Nat.le_add_right 64 i)]
  show lbt_41[64 + i - 64]? = _
  rw [Nat.add_sub_cancel_left]
theorem dL_law_0 : decode cL_law 0 = .ok (.new 8, 3) := dc_187 (dc_bv 187 (by decide) ((lg_0 0).trans rfl)) (dc_bv 0 (by decide) ((lg_0 1).trans rfl)) (dc_bv 8 (by decide) ((lg_0 2).trans rfl))
theorem dL_law_3 : decode cL_law 3 = .ok (.dup, 1) := dc_89 (dc_bv 89 (by decide) ((lg_0 3).trans rfl))
theorem dL_law_4 : decode cL_law 4 = .ok (.invokespecial 123, 3) := dc_183 (dc_bv 183 (by decide) ((lg_0 4).trans rfl)) (dc_bv 0 (by decide) ((lg_0 5).trans rfl)) (dc_bv 123 (by decide) ((lg_0 6).trans rfl))
theorem dL_law_7 : decode cL_law 7 = .ok (.astore_n 1, 1) := dc_76 (dc_bv 76 (by decide) ((lg_0 7).trans rfl))
theorem dL_law_8 : decode cL_law 8 = .ok (.new 124, 3) := dc_187 (dc_bv 187 (by decide) ((lg_0 8).trans rfl)) (dc_bv 0 (by decide) ((lg_0 9).trans rfl)) (dc_bv 124 (by decide) ((lg_0 10).trans rfl))
theorem dL_law_11 : decode cL_law 11 = .ok (.dup, 1) := dc_89 (dc_bv 89 (by decide) ((lg_0 11).trans rfl))
theorem dL_law_12 : decode cL_law 12 = .ok (.invokespecial 126, 3) := dc_183 (dc_bv 183 (by decide) ((lg_0 12).trans rfl)) (dc_bv 0 (by decide) ((lg_0 13).trans rfl)) (dc_bv 126 (by decide) ((lg_0 14).trans rfl))
theorem dL_law_15 : decode cL_law 15 = .ok (.astore_n 2, 1) := dc_77 (dc_bv 77 (by decide) ((lg_0 15).trans rfl))
theorem dL_law_16 : decode cL_law 16 = .ok (.iconst 1, 1) := dc_4 (dc_bv 4 (by decide) ((lg_0 16).trans rfl))
theorem dL_law_17 : decode cL_law 17 = .ok (.newarray .long, 2) := by decide +kernel
theorem dL_law_19 : decode cL_law 19 = .ok (.astore_n 3, 1) := dc_78 (dc_bv 78 (by decide) ((lg_0 19).trans rfl))
theorem dL_law_20 : decode cL_law 20 = .ok (.iconst 0, 1) := dc_3 (dc_bv 3 (by decide) ((lg_0 20).trans rfl))
theorem dL_law_21 : decode cL_law 21 = .ok (.istore 4, 2) := dc_54 (dc_bv 54 (by decide) ((lg_0 21).trans rfl)) (dc_bv 4 (by decide) ((lg_0 22).trans rfl))
theorem dL_law_23 : decode cL_law 23 = .ok (.iload 4, 2) := dc_21 (dc_bv 21 (by decide) ((lg_0 23).trans rfl)) (dc_bv 4 (by decide) ((lg_0 24).trans rfl))
theorem dL_law_25 : decode cL_law 25 = .ok (.aload_n 0, 1) := dc_42 (dc_bv 42 (by decide) ((lg_0 25).trans rfl))
theorem dL_law_26 : decode cL_law 26 = .ok (.arraylength, 1) := dc_190 (dc_bv 190 (by decide) ((lg_0 26).trans rfl))
theorem dL_law_27 : decode cL_law 27 = .ok (.bipush 6, 2) := by decide +kernel
theorem dL_law_29 : decode cL_law 29 = .ok (.isub, 1) := dc_100 (dc_bv 100 (by decide) ((lg_0 29).trans rfl))
theorem dL_law_30 : decode cL_law 30 = .ok (.if_icmp .gt 2612, 3) := dc_163 (dc_bv 163 (by decide) ((lg_0 30).trans rfl)) (dc_bv 10 (by decide) ((lg_0 31).trans rfl)) (dc_bv 52 (by decide) ((lg_0 32).trans rfl))
theorem dL_law_33 : decode cL_law 33 = .ok (.aload_n 0, 1) := dc_42 (dc_bv 42 (by decide) ((lg_0 33).trans rfl))
theorem dL_law_34 : decode cL_law 34 = .ok (.iload 4, 2) := dc_21 (dc_bv 21 (by decide) ((lg_0 34).trans rfl)) (dc_bv 4 (by decide) ((lg_0 35).trans rfl))
theorem dL_law_36 : decode cL_law 36 = .ok (.iaload, 1) := dc_46 (dc_bv 46 (by decide) ((lg_0 36).trans rfl))
theorem dL_law_37 : decode cL_law 37 = .ok (.bipush 63, 2) := by decide +kernel
theorem dL_law_39 : decode cL_law 39 = .ok (.iand, 1) := dc_126 (dc_bv 126 (by decide) ((lg_0 39).trans rfl))
theorem dL_law_40 : decode cL_law 40 = .ok (.tableswitch 2596 0 44 #[196, 269, 325, 338, 351, 364, 377, 433, 489, 552, 608, 664, 677, 733, 801, 857, 913, 969, 1025, 1088, 1172, 1267, 1335, 1403, 1459, 1515, 1583, 1638, 1729, 1785, 1853, 1933, 2001, 2057, 2137, 2217, 2285, 2341, 2409, 2465, 2490, 2503, 2516, 2527, 2540], 196) := by decide +kernel
theorem dL_law_236 : decode cL_law 236 = .ok (.aload_n 1, 1) := dc_43 (dc_bv 43 (by decide) ((lg_3 44).trans rfl))
theorem dL_law_237 : decode cL_law 237 = .ok (.aload_n 0, 1) := dc_42 (dc_bv 42 (by decide) ((lg_3 45).trans rfl))
theorem dL_law_238 : decode cL_law 238 = .ok (.iload 4, 2) := dc_21 (dc_bv 21 (by decide) ((lg_3 46).trans rfl)) (dc_bv 4 (by decide) ((lg_3 47).trans rfl))
theorem dL_law_240 : decode cL_law 240 = .ok (.iconst 1, 1) := dc_4 (dc_bv 4 (by decide) ((lg_3 48).trans rfl))
theorem dL_law_241 : decode cL_law 241 = .ok (.iadd, 1) := dc_96 (dc_bv 96 (by decide) ((lg_3 49).trans rfl))
theorem dL_law_242 : decode cL_law 242 = .ok (.iaload, 1) := dc_46 (dc_bv 46 (by decide) ((lg_3 50).trans rfl))
theorem dL_law_243 : decode cL_law 243 = .ok (.aload_n 0, 1) := dc_42 (dc_bv 42 (by decide) ((lg_3 51).trans rfl))
theorem dL_law_244 : decode cL_law 244 = .ok (.iload 4, 2) := dc_21 (dc_bv 21 (by decide) ((lg_3 52).trans rfl)) (dc_bv 4 (by decide) ((lg_3 53).trans rfl))
theorem dL_law_246 : decode cL_law 246 = .ok (.iconst 2, 1) := dc_5 (dc_bv 5 (by decide) ((lg_3 54).trans rfl))
theorem dL_law_247 : decode cL_law 247 = .ok (.iadd, 1) := dc_96 (dc_bv 96 (by decide) ((lg_3 55).trans rfl))
theorem dL_law_248 : decode cL_law 248 = .ok (.iaload, 1) := dc_46 (dc_bv 46 (by decide) ((lg_3 56).trans rfl))
theorem dL_law_249 : decode cL_law 249 = .ok (.aload_n 0, 1) := dc_42 (dc_bv 42 (by decide) ((lg_3 57).trans rfl))
theorem dL_law_250 : decode cL_law 250 = .ok (.iload 4, 2) := dc_21 (dc_bv 21 (by decide) ((lg_3 58).trans rfl)) (dc_bv 4 (by decide) ((lg_3 59).trans rfl))
theorem dL_law_252 : decode cL_law 252 = .ok (.iconst 3, 1) := dc_6 (dc_bv 6 (by decide) ((lg_3 60).trans rfl))
theorem dL_law_253 : decode cL_law 253 = .ok (.iadd, 1) := dc_96 (dc_bv 96 (by decide) ((lg_3 61).trans rfl))
theorem dL_law_254 : decode cL_law 254 = .ok (.iaload, 1) := dc_46 (dc_bv 46 (by decide) ((lg_3 62).trans rfl))
theorem dL_law_255 : decode cL_law 255 = .ok (.aload_n 0, 1) := dc_42 (dc_bv 42 (by decide) ((lg_3 63).trans rfl))
theorem dL_law_256 : decode cL_law 256 = .ok (.iload 4, 2) := dc_21 (dc_bv 21 (by decide) ((lg_4 0).trans rfl)) (dc_bv 4 (by decide) ((lg_4 1).trans rfl))
theorem dL_law_258 : decode cL_law 258 = .ok (.iconst 4, 1) := dc_7 (dc_bv 7 (by decide) ((lg_4 2).trans rfl))
theorem dL_law_259 : decode cL_law 259 = .ok (.iadd, 1) := dc_96 (dc_bv 96 (by decide) ((lg_4 3).trans rfl))
theorem dL_law_260 : decode cL_law 260 = .ok (.iaload, 1) := dc_46 (dc_bv 46 (by decide) ((lg_4 4).trans rfl))
theorem dL_law_261 : decode cL_law 261 = .ok (.aload_n 0, 1) := dc_42 (dc_bv 42 (by decide) ((lg_4 5).trans rfl))
theorem dL_law_262 : decode cL_law 262 = .ok (.iload 4, 2) := dc_21 (dc_bv 21 (by decide) ((lg_4 6).trans rfl)) (dc_bv 4 (by decide) ((lg_4 7).trans rfl))
theorem dL_law_264 : decode cL_law 264 = .ok (.iconst 5, 1) := dc_8 (dc_bv 8 (by decide) ((lg_4 8).trans rfl))
theorem dL_law_265 : decode cL_law 265 = .ok (.iadd, 1) := dc_96 (dc_bv 96 (by decide) ((lg_4 9).trans rfl))
theorem dL_law_266 : decode cL_law 266 = .ok (.iaload, 1) := dc_46 (dc_bv 46 (by decide) ((lg_4 10).trans rfl))
theorem dL_law_267 : decode cL_law 267 = .ok (.invokevirtual 127, 3) := dc_182 (dc_bv 182 (by decide) ((lg_4 11).trans rfl)) (dc_bv 0 (by decide) ((lg_4 12).trans rfl)) (dc_bv 127 (by decide) ((lg_4 13).trans rfl))
theorem dL_law_270 : decode cL_law 270 = .ok (.aload_n 2, 1) := dc_44 (dc_bv 44 (by decide) ((lg_4 14).trans rfl))
theorem dL_law_271 : decode cL_law 271 = .ok (.aload_n 0, 1) := dc_42 (dc_bv 42 (by decide) ((lg_4 15).trans rfl))
theorem dL_law_272 : decode cL_law 272 = .ok (.iload 4, 2) := dc_21 (dc_bv 21 (by decide) ((lg_4 16).trans rfl)) (dc_bv 4 (by decide) ((lg_4 17).trans rfl))
theorem dL_law_274 : decode cL_law 274 = .ok (.iconst 1, 1) := dc_4 (dc_bv 4 (by decide) ((lg_4 18).trans rfl))
theorem dL_law_275 : decode cL_law 275 = .ok (.iadd, 1) := dc_96 (dc_bv 96 (by decide) ((lg_4 19).trans rfl))
theorem dL_law_276 : decode cL_law 276 = .ok (.iaload, 1) := dc_46 (dc_bv 46 (by decide) ((lg_4 20).trans rfl))
theorem dL_law_277 : decode cL_law 277 = .ok (.aload_n 0, 1) := dc_42 (dc_bv 42 (by decide) ((lg_4 21).trans rfl))
theorem dL_law_278 : decode cL_law 278 = .ok (.iload 4, 2) := dc_21 (dc_bv 21 (by decide) ((lg_4 22).trans rfl)) (dc_bv 4 (by decide) ((lg_4 23).trans rfl))
theorem dL_law_280 : decode cL_law 280 = .ok (.iconst 2, 1) := dc_5 (dc_bv 5 (by decide) ((lg_4 24).trans rfl))
theorem dL_law_281 : decode cL_law 281 = .ok (.iadd, 1) := dc_96 (dc_bv 96 (by decide) ((lg_4 25).trans rfl))
theorem dL_law_282 : decode cL_law 282 = .ok (.iaload, 1) := dc_46 (dc_bv 46 (by decide) ((lg_4 26).trans rfl))
theorem dL_law_283 : decode cL_law 283 = .ok (.aload_n 0, 1) := dc_42 (dc_bv 42 (by decide) ((lg_4 27).trans rfl))
theorem dL_law_284 : decode cL_law 284 = .ok (.iload 4, 2) := dc_21 (dc_bv 21 (by decide) ((lg_4 28).trans rfl)) (dc_bv 4 (by decide) ((lg_4 29).trans rfl))
theorem dL_law_286 : decode cL_law 286 = .ok (.iconst 3, 1) := dc_6 (dc_bv 6 (by decide) ((lg_4 30).trans rfl))
theorem dL_law_287 : decode cL_law 287 = .ok (.iadd, 1) := dc_96 (dc_bv 96 (by decide) ((lg_4 31).trans rfl))
theorem dL_law_288 : decode cL_law 288 = .ok (.iaload, 1) := dc_46 (dc_bv 46 (by decide) ((lg_4 32).trans rfl))
theorem dL_law_289 : decode cL_law 289 = .ok (.aload_n 0, 1) := dc_42 (dc_bv 42 (by decide) ((lg_4 33).trans rfl))
theorem dL_law_290 : decode cL_law 290 = .ok (.iload 4, 2) := dc_21 (dc_bv 21 (by decide) ((lg_4 34).trans rfl)) (dc_bv 4 (by decide) ((lg_4 35).trans rfl))
theorem dL_law_292 : decode cL_law 292 = .ok (.iconst 4, 1) := dc_7 (dc_bv 7 (by decide) ((lg_4 36).trans rfl))
theorem dL_law_293 : decode cL_law 293 = .ok (.iadd, 1) := dc_96 (dc_bv 96 (by decide) ((lg_4 37).trans rfl))
theorem dL_law_294 : decode cL_law 294 = .ok (.iaload, 1) := dc_46 (dc_bv 46 (by decide) ((lg_4 38).trans rfl))
theorem dL_law_295 : decode cL_law 295 = .ok (.aload_n 0, 1) := dc_42 (dc_bv 42 (by decide) ((lg_4 39).trans rfl))
theorem dL_law_296 : decode cL_law 296 = .ok (.iload 4, 2) := dc_21 (dc_bv 21 (by decide) ((lg_4 40).trans rfl)) (dc_bv 4 (by decide) ((lg_4 41).trans rfl))
theorem dL_law_298 : decode cL_law 298 = .ok (.iconst 5, 1) := dc_8 (dc_bv 8 (by decide) ((lg_4 42).trans rfl))
theorem dL_law_299 : decode cL_law 299 = .ok (.iadd, 1) := dc_96 (dc_bv 96 (by decide) ((lg_4 43).trans rfl))
theorem dL_law_300 : decode cL_law 300 = .ok (.iaload, 1) := dc_46 (dc_bv 46 (by decide) ((lg_4 44).trans rfl))
theorem dL_law_301 : decode cL_law 301 = .ok (.invokevirtual 131, 3) := dc_182 (dc_bv 182 (by decide) ((lg_4 45).trans rfl)) (dc_bv 0 (by decide) ((lg_4 46).trans rfl)) (dc_bv 131 (by decide) ((lg_4 47).trans rfl))
theorem dL_law_304 : decode cL_law 304 = .ok (.if_icmp .eq 2332, 3) := dc_159 (dc_bv 159 (by decide) ((lg_4 48).trans rfl)) (dc_bv 9 (by decide) ((lg_4 49).trans rfl)) (dc_bv 28 (by decide) ((lg_4 50).trans rfl))
theorem dL_law_307 : decode cL_law 307 = .ok (.iconst 0, 1) := dc_3 (dc_bv 3 (by decide) ((lg_4 51).trans rfl))
theorem dL_law_308 : decode cL_law 308 = .ok (.ireturn, 1) := dc_172 (dc_bv 172 (by decide) ((lg_4 52).trans rfl))
theorem dL_law_309 : decode cL_law 309 = .ok (.aload_n 1, 1) := dc_43 (dc_bv 43 (by decide) ((lg_4 53).trans rfl))
theorem dL_law_310 : decode cL_law 310 = .ok (.aload_n 0, 1) := dc_42 (dc_bv 42 (by decide) ((lg_4 54).trans rfl))
theorem dL_law_311 : decode cL_law 311 = .ok (.iload 4, 2) := dc_21 (dc_bv 21 (by decide) ((lg_4 55).trans rfl)) (dc_bv 4 (by decide) ((lg_4 56).trans rfl))
theorem dL_law_313 : decode cL_law 313 = .ok (.iconst 1, 1) := dc_4 (dc_bv 4 (by decide) ((lg_4 57).trans rfl))
theorem dL_law_314 : decode cL_law 314 = .ok (.iadd, 1) := dc_96 (dc_bv 96 (by decide) ((lg_4 58).trans rfl))
theorem dL_law_315 : decode cL_law 315 = .ok (.iaload, 1) := dc_46 (dc_bv 46 (by decide) ((lg_4 59).trans rfl))
theorem dL_law_316 : decode cL_law 316 = .ok (.aload_n 3, 1) := dc_45 (dc_bv 45 (by decide) ((lg_4 60).trans rfl))
theorem dL_law_317 : decode cL_law 317 = .ok (.invokestatic 132, 3) := dc_184 (dc_bv 184 (by decide) ((lg_4 61).trans rfl)) (dc_bv 0 (by decide) ((lg_4 62).trans rfl)) (dc_bv 132 (by decide) ((lg_4 63).trans rfl))
theorem dL_law_320 : decode cL_law 320 = .ok (.istore 5, 2) := dc_54 (dc_bv 54 (by decide) ((lg_5 0).trans rfl)) (dc_bv 5 (by decide) ((lg_5 1).trans rfl))
theorem dL_law_322 : decode cL_law 322 = .ok (.aload_n 2, 1) := dc_44 (dc_bv 44 (by decide) ((lg_5 2).trans rfl))
theorem dL_law_323 : decode cL_law 323 = .ok (.aload_n 0, 1) := dc_42 (dc_bv 42 (by decide) ((lg_5 3).trans rfl))
theorem dL_law_324 : decode cL_law 324 = .ok (.iload 4, 2) := dc_21 (dc_bv 21 (by decide) ((lg_5 4).trans rfl)) (dc_bv 4 (by decide) ((lg_5 5).trans rfl))
theorem dL_law_326 : decode cL_law 326 = .ok (.iconst 1, 1) := dc_4 (dc_bv 4 (by decide) ((lg_5 6).trans rfl))
theorem dL_law_327 : decode cL_law 327 = .ok (.iadd, 1) := dc_96 (dc_bv 96 (by decide) ((lg_5 7).trans rfl))
theorem dL_law_328 : decode cL_law 328 = .ok (.iaload, 1) := dc_46 (dc_bv 46 (by decide) ((lg_5 8).trans rfl))
theorem dL_law_329 : decode cL_law 329 = .ok (.invokevirtual 137, 3) := dc_182 (dc_bv 182 (by decide) ((lg_5 9).trans rfl)) (dc_bv 0 (by decide) ((lg_5 10).trans rfl)) (dc_bv 137 (by decide) ((lg_5 11).trans rfl))
theorem dL_law_332 : decode cL_law 332 = .ok (.istore 6, 2) := dc_54 (dc_bv 54 (by decide) ((lg_5 12).trans rfl)) (dc_bv 6 (by decide) ((lg_5 13).trans rfl))
theorem dL_law_334 : decode cL_law 334 = .ok (.aload_n 2, 1) := dc_44 (dc_bv 44 (by decide) ((lg_5 14).trans rfl))
theorem dL_law_335 : decode cL_law 335 = .ok (.invokevirtual 138, 3) := dc_182 (dc_bv 182 (by decide) ((lg_5 15).trans rfl)) (dc_bv 0 (by decide) ((lg_5 16).trans rfl)) (dc_bv 138 (by decide) ((lg_5 17).trans rfl))
theorem dL_law_338 : decode cL_law 338 = .ok (.iload 5, 2) := dc_21 (dc_bv 21 (by decide) ((lg_5 18).trans rfl)) (dc_bv 5 (by decide) ((lg_5 19).trans rfl))
theorem dL_law_340 : decode cL_law 340 = .ok (.if_icmp .eq 5, 3) := dc_159 (dc_bv 159 (by decide) ((lg_5 20).trans rfl)) (dc_bv 0 (by decide) ((lg_5 21).trans rfl)) (dc_bv 5 (by decide) ((lg_5 22).trans rfl))
theorem dL_law_343 : decode cL_law 343 = .ok (.iconst 0, 1) := dc_3 (dc_bv 3 (by decide) ((lg_5 23).trans rfl))
theorem dL_law_344 : decode cL_law 344 = .ok (.ireturn, 1) := dc_172 (dc_bv 172 (by decide) ((lg_5 24).trans rfl))
theorem dL_law_345 : decode cL_law 345 = .ok (.iload 5, 2) := dc_21 (dc_bv 21 (by decide) ((lg_5 25).trans rfl)) (dc_bv 5 (by decide) ((lg_5 26).trans rfl))
theorem dL_law_347 : decode cL_law 347 = .ok (.ifCond .ne 15, 3) := dc_154 (dc_bv 154 (by decide) ((lg_5 27).trans rfl)) (dc_bv 0 (by decide) ((lg_5 28).trans rfl)) (dc_bv 15 (by decide) ((lg_5 29).trans rfl))
theorem dL_law_350 : decode cL_law 350 = .ok (.aload_n 3, 1) := dc_45 (dc_bv 45 (by decide) ((lg_5 30).trans rfl))
theorem dL_law_351 : decode cL_law 351 = .ok (.iconst 0, 1) := dc_3 (dc_bv 3 (by decide) ((lg_5 31).trans rfl))
theorem dL_law_352 : decode cL_law 352 = .ok (.laload, 1) := dc_47 (dc_bv 47 (by decide) ((lg_5 32).trans rfl))
theorem dL_law_353 : decode cL_law 353 = .ok (.iload 6, 2) := dc_21 (dc_bv 21 (by decide) ((lg_5 33).trans rfl)) (dc_bv 6 (by decide) ((lg_5 34).trans rfl))
theorem dL_law_355 : decode cL_law 355 = .ok (.i2l, 1) := dc_133 (dc_bv 133 (by decide) ((lg_5 35).trans rfl))
theorem dL_law_356 : decode cL_law 356 = .ok (.lcmp, 1) := dc_148 (dc_bv 148 (by decide) ((lg_5 36).trans rfl))
theorem dL_law_357 : decode cL_law 357 = .ok (.ifCond .eq 5, 3) := dc_153 (dc_bv 153 (by decide) ((lg_5 37).trans rfl)) (dc_bv 0 (by decide) ((lg_5 38).trans rfl)) (dc_bv 5 (by decide) ((lg_5 39).trans rfl))
theorem dL_law_360 : decode cL_law 360 = .ok (.iconst 0, 1) := dc_3 (dc_bv 3 (by decide) ((lg_5 40).trans rfl))
theorem dL_law_361 : decode cL_law 361 = .ok (.ireturn, 1) := dc_172 (dc_bv 172 (by decide) ((lg_5 41).trans rfl))
theorem dL_law_362 : decode cL_law 362 = .ok (.goto 2274, 3) := dc_167 (dc_bv 167 (by decide) ((lg_5 42).trans rfl)) (dc_bv 8 (by decide) ((lg_5 43).trans rfl)) (dc_bv 226 (by decide) ((lg_5 44).trans rfl))
theorem dL_law_365 : decode cL_law 365 = .ok (.aload_n 1, 1) := dc_43 (dc_bv 43 (by decide) ((lg_5 45).trans rfl))
theorem dL_law_366 : decode cL_law 366 = .ok (.invokevirtual 142, 3) := dc_182 (dc_bv 182 (by decide) ((lg_5 46).trans rfl)) (dc_bv 0 (by decide) ((lg_5 47).trans rfl)) (dc_bv 142 (by decide) ((lg_5 48).trans rfl))
theorem dL_law_369 : decode cL_law 369 = .ok (.aload_n 2, 1) := dc_44 (dc_bv 44 (by decide) ((lg_5 49).trans rfl))
theorem dL_law_370 : decode cL_law 370 = .ok (.invokevirtual 145, 3) := dc_182 (dc_bv 182 (by decide) ((lg_5 50).trans rfl)) (dc_bv 0 (by decide) ((lg_5 51).trans rfl)) (dc_bv 145 (by decide) ((lg_5 52).trans rfl))
theorem dL_law_373 : decode cL_law 373 = .ok (.if_icmp .eq 2263, 3) := dc_159 (dc_bv 159 (by decide) ((lg_5 53).trans rfl)) (dc_bv 8 (by decide) ((lg_5 54).trans rfl)) (dc_bv 215 (by decide) ((lg_5 55).trans rfl))
theorem dL_law_376 : decode cL_law 376 = .ok (.iconst 0, 1) := dc_3 (dc_bv 3 (by decide) ((lg_5 56).trans rfl))
theorem dL_law_377 : decode cL_law 377 = .ok (.ireturn, 1) := dc_172 (dc_bv 172 (by decide) ((lg_5 57).trans rfl))
theorem dL_law_378 : decode cL_law 378 = .ok (.aload_n 1, 1) := dc_43 (dc_bv 43 (by decide) ((lg_5 58).trans rfl))
theorem dL_law_379 : decode cL_law 379 = .ok (.invokevirtual 146, 3) := dc_182 (dc_bv 182 (by decide) ((lg_5 59).trans rfl)) (dc_bv 0 (by decide) ((lg_5 60).trans rfl)) (dc_bv 146 (by decide) ((lg_5 61).trans rfl))
theorem dL_law_382 : decode cL_law 382 = .ok (.aload_n 2, 1) := dc_44 (dc_bv 44 (by decide) ((lg_5 62).trans rfl))
theorem dL_law_383 : decode cL_law 383 = .ok (.invokevirtual 149, 3) := dc_182 (dc_bv 182 (by decide) ((lg_5 63).trans rfl)) (dc_bv 0 (by decide) ((lg_6 0).trans rfl)) (dc_bv 149 (by decide) ((lg_6 1).trans rfl))
theorem dL_law_386 : decode cL_law 386 = .ok (.if_icmp .eq 2250, 3) := dc_159 (dc_bv 159 (by decide) ((lg_6 2).trans rfl)) (dc_bv 8 (by decide) ((lg_6 3).trans rfl)) (dc_bv 202 (by decide) ((lg_6 4).trans rfl))
theorem dL_law_389 : decode cL_law 389 = .ok (.iconst 0, 1) := dc_3 (dc_bv 3 (by decide) ((lg_6 5).trans rfl))
theorem dL_law_390 : decode cL_law 390 = .ok (.ireturn, 1) := dc_172 (dc_bv 172 (by decide) ((lg_6 6).trans rfl))
theorem dL_law_391 : decode cL_law 391 = .ok (.aload_n 1, 1) := dc_43 (dc_bv 43 (by decide) ((lg_6 7).trans rfl))
theorem dL_law_392 : decode cL_law 392 = .ok (.invokevirtual 150, 3) := dc_182 (dc_bv 182 (by decide) ((lg_6 8).trans rfl)) (dc_bv 0 (by decide) ((lg_6 9).trans rfl)) (dc_bv 150 (by decide) ((lg_6 10).trans rfl))
theorem dL_law_395 : decode cL_law 395 = .ok (.aload_n 2, 1) := dc_44 (dc_bv 44 (by decide) ((lg_6 11).trans rfl))
theorem dL_law_396 : decode cL_law 396 = .ok (.invokevirtual 153, 3) := dc_182 (dc_bv 182 (by decide) ((lg_6 12).trans rfl)) (dc_bv 0 (by decide) ((lg_6 13).trans rfl)) (dc_bv 153 (by decide) ((lg_6 14).trans rfl))
theorem dL_law_399 : decode cL_law 399 = .ok (.if_icmp .eq 2237, 3) := dc_159 (dc_bv 159 (by decide) ((lg_6 15).trans rfl)) (dc_bv 8 (by decide) ((lg_6 16).trans rfl)) (dc_bv 189 (by decide) ((lg_6 17).trans rfl))
theorem dL_law_402 : decode cL_law 402 = .ok (.iconst 0, 1) := dc_3 (dc_bv 3 (by decide) ((lg_6 18).trans rfl))
theorem dL_law_403 : decode cL_law 403 = .ok (.ireturn, 1) := dc_172 (dc_bv 172 (by decide) ((lg_6 19).trans rfl))
theorem dL_law_404 : decode cL_law 404 = .ok (.aload_n 1, 1) := dc_43 (dc_bv 43 (by decide) ((lg_6 20).trans rfl))
theorem dL_law_405 : decode cL_law 405 = .ok (.invokevirtual 154, 3) := dc_182 (dc_bv 182 (by decide) ((lg_6 21).trans rfl)) (dc_bv 0 (by decide) ((lg_6 22).trans rfl)) (dc_bv 154 (by decide) ((lg_6 23).trans rfl))
theorem dL_law_408 : decode cL_law 408 = .ok (.aload_n 2, 1) := dc_44 (dc_bv 44 (by decide) ((lg_6 24).trans rfl))
theorem dL_law_409 : decode cL_law 409 = .ok (.invokevirtual 157, 3) := dc_182 (dc_bv 182 (by decide) ((lg_6 25).trans rfl)) (dc_bv 0 (by decide) ((lg_6 26).trans rfl)) (dc_bv 157 (by decide) ((lg_6 27).trans rfl))
theorem dL_law_412 : decode cL_law 412 = .ok (.if_icmp .eq 2224, 3) := dc_159 (dc_bv 159 (by decide) ((lg_6 28).trans rfl)) (dc_bv 8 (by decide) ((lg_6 29).trans rfl)) (dc_bv 176 (by decide) ((lg_6 30).trans rfl))
theorem dL_law_415 : decode cL_law 415 = .ok (.iconst 0, 1) := dc_3 (dc_bv 3 (by decide) ((lg_6 31).trans rfl))
theorem dL_law_416 : decode cL_law 416 = .ok (.ireturn, 1) := dc_172 (dc_bv 172 (by decide) ((lg_6 32).trans rfl))
theorem dL_law_417 : decode cL_law 417 = .ok (.aload_n 1, 1) := dc_43 (dc_bv 43 (by decide) ((lg_6 33).trans rfl))
theorem dL_law_418 : decode cL_law 418 = .ok (.aload_n 0, 1) := dc_42 (dc_bv 42 (by decide) ((lg_6 34).trans rfl))
theorem dL_law_419 : decode cL_law 419 = .ok (.iload 4, 2) := dc_21 (dc_bv 21 (by decide) ((lg_6 35).trans rfl)) (dc_bv 4 (by decide) ((lg_6 36).trans rfl))
theorem dL_law_421 : decode cL_law 421 = .ok (.iconst 1, 1) := dc_4 (dc_bv 4 (by decide) ((lg_6 37).trans rfl))
theorem dL_law_422 : decode cL_law 422 = .ok (.iadd, 1) := dc_96 (dc_bv 96 (by decide) ((lg_6 38).trans rfl))
theorem dL_law_423 : decode cL_law 423 = .ok (.iaload, 1) := dc_46 (dc_bv 46 (by decide) ((lg_6 39).trans rfl))
theorem dL_law_424 : decode cL_law 424 = .ok (.aload_n 3, 1) := dc_45 (dc_bv 45 (by decide) ((lg_6 40).trans rfl))
theorem dL_law_425 : decode cL_law 425 = .ok (.invokestatic 158, 3) := dc_184 (dc_bv 184 (by decide) ((lg_6 41).trans rfl)) (dc_bv 0 (by decide) ((lg_6 42).trans rfl)) (dc_bv 158 (by decide) ((lg_6 43).trans rfl))
theorem dL_law_428 : decode cL_law 428 = .ok (.istore 5, 2) := dc_54 (dc_bv 54 (by decide) ((lg_6 44).trans rfl)) (dc_bv 5 (by decide) ((lg_6 45).trans rfl))
theorem dL_law_430 : decode cL_law 430 = .ok (.aload_n 2, 1) := dc_44 (dc_bv 44 (by decide) ((lg_6 46).trans rfl))
theorem dL_law_431 : decode cL_law 431 = .ok (.aload_n 0, 1) := dc_42 (dc_bv 42 (by decide) ((lg_6 47).trans rfl))
theorem dL_law_432 : decode cL_law 432 = .ok (.iload 4, 2) := dc_21 (dc_bv 21 (by decide) ((lg_6 48).trans rfl)) (dc_bv 4 (by decide) ((lg_6 49).trans rfl))
theorem dL_law_434 : decode cL_law 434 = .ok (.iconst 1, 1) := dc_4 (dc_bv 4 (by decide) ((lg_6 50).trans rfl))
theorem dL_law_435 : decode cL_law 435 = .ok (.iadd, 1) := dc_96 (dc_bv 96 (by decide) ((lg_6 51).trans rfl))
theorem dL_law_436 : decode cL_law 436 = .ok (.iaload, 1) := dc_46 (dc_bv 46 (by decide) ((lg_6 52).trans rfl))
theorem dL_law_437 : decode cL_law 437 = .ok (.invokevirtual 160, 3) := dc_182 (dc_bv 182 (by decide) ((lg_6 53).trans rfl)) (dc_bv 0 (by decide) ((lg_6 54).trans rfl)) (dc_bv 160 (by decide) ((lg_6 55).trans rfl))
theorem dL_law_440 : decode cL_law 440 = .ok (.istore 6, 2) := dc_54 (dc_bv 54 (by decide) ((lg_6 56).trans rfl)) (dc_bv 6 (by decide) ((lg_6 57).trans rfl))
theorem dL_law_442 : decode cL_law 442 = .ok (.aload_n 2, 1) := dc_44 (dc_bv 44 (by decide) ((lg_6 58).trans rfl))
theorem dL_law_443 : decode cL_law 443 = .ok (.invokevirtual 138, 3) := dc_182 (dc_bv 182 (by decide) ((lg_6 59).trans rfl)) (dc_bv 0 (by decide) ((lg_6 60).trans rfl)) (dc_bv 138 (by decide) ((lg_6 61).trans rfl))
theorem dL_law_446 : decode cL_law 446 = .ok (.iload 5, 2) := dc_21 (dc_bv 21 (by decide) ((lg_6 62).trans rfl)) (dc_bv 5 (by decide) ((lg_6 63).trans rfl))
theorem dL_law_448 : decode cL_law 448 = .ok (.if_icmp .eq 5, 3) := dc_159 (dc_bv 159 (by decide) ((lg_7 0).trans rfl)) (dc_bv 0 (by decide) ((lg_7 1).trans rfl)) (dc_bv 5 (by decide) ((lg_7 2).trans rfl))
theorem dL_law_451 : decode cL_law 451 = .ok (.iconst 0, 1) := dc_3 (dc_bv 3 (by decide) ((lg_7 3).trans rfl))
theorem dL_law_452 : decode cL_law 452 = .ok (.ireturn, 1) := dc_172 (dc_bv 172 (by decide) ((lg_7 4).trans rfl))
theorem dL_law_453 : decode cL_law 453 = .ok (.iload 5, 2) := dc_21 (dc_bv 21 (by decide) ((lg_7 5).trans rfl)) (dc_bv 5 (by decide) ((lg_7 6).trans rfl))
theorem dL_law_455 : decode cL_law 455 = .ok (.ifCond .ne 15, 3) := dc_154 (dc_bv 154 (by decide) ((lg_7 7).trans rfl)) (dc_bv 0 (by decide) ((lg_7 8).trans rfl)) (dc_bv 15 (by decide) ((lg_7 9).trans rfl))
theorem dL_law_458 : decode cL_law 458 = .ok (.aload_n 3, 1) := dc_45 (dc_bv 45 (by decide) ((lg_7 10).trans rfl))
theorem dL_law_459 : decode cL_law 459 = .ok (.iconst 0, 1) := dc_3 (dc_bv 3 (by decide) ((lg_7 11).trans rfl))
theorem dL_law_460 : decode cL_law 460 = .ok (.laload, 1) := dc_47 (dc_bv 47 (by decide) ((lg_7 12).trans rfl))
theorem dL_law_461 : decode cL_law 461 = .ok (.iload 6, 2) := dc_21 (dc_bv 21 (by decide) ((lg_7 13).trans rfl)) (dc_bv 6 (by decide) ((lg_7 14).trans rfl))
theorem dL_law_463 : decode cL_law 463 = .ok (.i2l, 1) := dc_133 (dc_bv 133 (by decide) ((lg_7 15).trans rfl))
theorem dL_law_464 : decode cL_law 464 = .ok (.lcmp, 1) := dc_148 (dc_bv 148 (by decide) ((lg_7 16).trans rfl))
theorem dL_law_465 : decode cL_law 465 = .ok (.ifCond .eq 5, 3) := dc_153 (dc_bv 153 (by decide) ((lg_7 17).trans rfl)) (dc_bv 0 (by decide) ((lg_7 18).trans rfl)) (dc_bv 5 (by decide) ((lg_7 19).trans rfl))
theorem dL_law_468 : decode cL_law 468 = .ok (.iconst 0, 1) := dc_3 (dc_bv 3 (by decide) ((lg_7 20).trans rfl))
theorem dL_law_469 : decode cL_law 469 = .ok (.ireturn, 1) := dc_172 (dc_bv 172 (by decide) ((lg_7 21).trans rfl))
theorem dL_law_470 : decode cL_law 470 = .ok (.goto 2166, 3) := dc_167 (dc_bv 167 (by decide) ((lg_7 22).trans rfl)) (dc_bv 8 (by decide) ((lg_7 23).trans rfl)) (dc_bv 118 (by decide) ((lg_7 24).trans rfl))
theorem dL_law_473 : decode cL_law 473 = .ok (.aload_n 1, 1) := dc_43 (dc_bv 43 (by decide) ((lg_7 25).trans rfl))
theorem dL_law_474 : decode cL_law 474 = .ok (.aload_n 0, 1) := dc_42 (dc_bv 42 (by decide) ((lg_7 26).trans rfl))
theorem dL_law_475 : decode cL_law 475 = .ok (.iload 4, 2) := dc_21 (dc_bv 21 (by decide) ((lg_7 27).trans rfl)) (dc_bv 4 (by decide) ((lg_7 28).trans rfl))
theorem dL_law_477 : decode cL_law 477 = .ok (.iconst 1, 1) := dc_4 (dc_bv 4 (by decide) ((lg_7 29).trans rfl))
theorem dL_law_478 : decode cL_law 478 = .ok (.iadd, 1) := dc_96 (dc_bv 96 (by decide) ((lg_7 30).trans rfl))
theorem dL_law_479 : decode cL_law 479 = .ok (.iaload, 1) := dc_46 (dc_bv 46 (by decide) ((lg_7 31).trans rfl))
theorem dL_law_480 : decode cL_law 480 = .ok (.aload_n 3, 1) := dc_45 (dc_bv 45 (by decide) ((lg_7 32).trans rfl))
theorem dL_law_481 : decode cL_law 481 = .ok (.invokestatic 161, 3) := dc_184 (dc_bv 184 (by decide) ((lg_7 33).trans rfl)) (dc_bv 0 (by decide) ((lg_7 34).trans rfl)) (dc_bv 161 (by decide) ((lg_7 35).trans rfl))
theorem dL_law_484 : decode cL_law 484 = .ok (.istore 5, 2) := dc_54 (dc_bv 54 (by decide) ((lg_7 36).trans rfl)) (dc_bv 5 (by decide) ((lg_7 37).trans rfl))
theorem dL_law_486 : decode cL_law 486 = .ok (.aload_n 2, 1) := dc_44 (dc_bv 44 (by decide) ((lg_7 38).trans rfl))
theorem dL_law_487 : decode cL_law 487 = .ok (.aload_n 0, 1) := dc_42 (dc_bv 42 (by decide) ((lg_7 39).trans rfl))
theorem dL_law_488 : decode cL_law 488 = .ok (.iload 4, 2) := dc_21 (dc_bv 21 (by decide) ((lg_7 40).trans rfl)) (dc_bv 4 (by decide) ((lg_7 41).trans rfl))
theorem dL_law_490 : decode cL_law 490 = .ok (.iconst 1, 1) := dc_4 (dc_bv 4 (by decide) ((lg_7 42).trans rfl))
theorem dL_law_491 : decode cL_law 491 = .ok (.iadd, 1) := dc_96 (dc_bv 96 (by decide) ((lg_7 43).trans rfl))
theorem dL_law_492 : decode cL_law 492 = .ok (.iaload, 1) := dc_46 (dc_bv 46 (by decide) ((lg_7 44).trans rfl))
theorem dL_law_493 : decode cL_law 493 = .ok (.invokevirtual 163, 3) := dc_182 (dc_bv 182 (by decide) ((lg_7 45).trans rfl)) (dc_bv 0 (by decide) ((lg_7 46).trans rfl)) (dc_bv 163 (by decide) ((lg_7 47).trans rfl))
theorem dL_law_496 : decode cL_law 496 = .ok (.istore 6, 2) := dc_54 (dc_bv 54 (by decide) ((lg_7 48).trans rfl)) (dc_bv 6 (by decide) ((lg_7 49).trans rfl))
theorem dL_law_498 : decode cL_law 498 = .ok (.aload_n 2, 1) := dc_44 (dc_bv 44 (by decide) ((lg_7 50).trans rfl))
theorem dL_law_499 : decode cL_law 499 = .ok (.invokevirtual 138, 3) := dc_182 (dc_bv 182 (by decide) ((lg_7 51).trans rfl)) (dc_bv 0 (by decide) ((lg_7 52).trans rfl)) (dc_bv 138 (by decide) ((lg_7 53).trans rfl))
theorem dL_law_502 : decode cL_law 502 = .ok (.iload 5, 2) := dc_21 (dc_bv 21 (by decide) ((lg_7 54).trans rfl)) (dc_bv 5 (by decide) ((lg_7 55).trans rfl))
theorem dL_law_504 : decode cL_law 504 = .ok (.if_icmp .eq 5, 3) := dc_159 (dc_bv 159 (by decide) ((lg_7 56).trans rfl)) (dc_bv 0 (by decide) ((lg_7 57).trans rfl)) (dc_bv 5 (by decide) ((lg_7 58).trans rfl))
theorem dL_law_507 : decode cL_law 507 = .ok (.iconst 0, 1) := dc_3 (dc_bv 3 (by decide) ((lg_7 59).trans rfl))
theorem dL_law_508 : decode cL_law 508 = .ok (.ireturn, 1) := dc_172 (dc_bv 172 (by decide) ((lg_7 60).trans rfl))
theorem dL_law_509 : decode cL_law 509 = .ok (.iload 5, 2) := dc_21 (dc_bv 21 (by decide) ((lg_7 61).trans rfl)) (dc_bv 5 (by decide) ((lg_7 62).trans rfl))
theorem dL_law_511 : decode cL_law 511 = .ok (.ifCond .ne 15, 3) := dc_154 (dc_bv 154 (by decide) ((lg_7 63).trans rfl)) (dc_bv 0 (by decide) ((lg_8 0).trans rfl)) (dc_bv 15 (by decide) ((lg_8 1).trans rfl))
theorem dL_law_514 : decode cL_law 514 = .ok (.aload_n 3, 1) := dc_45 (dc_bv 45 (by decide) ((lg_8 2).trans rfl))
theorem dL_law_515 : decode cL_law 515 = .ok (.iconst 0, 1) := dc_3 (dc_bv 3 (by decide) ((lg_8 3).trans rfl))
theorem dL_law_516 : decode cL_law 516 = .ok (.laload, 1) := dc_47 (dc_bv 47 (by decide) ((lg_8 4).trans rfl))
theorem dL_law_517 : decode cL_law 517 = .ok (.iload 6, 2) := dc_21 (dc_bv 21 (by decide) ((lg_8 5).trans rfl)) (dc_bv 6 (by decide) ((lg_8 6).trans rfl))
theorem dL_law_519 : decode cL_law 519 = .ok (.i2l, 1) := dc_133 (dc_bv 133 (by decide) ((lg_8 7).trans rfl))
theorem dL_law_520 : decode cL_law 520 = .ok (.lcmp, 1) := dc_148 (dc_bv 148 (by decide) ((lg_8 8).trans rfl))
theorem dL_law_521 : decode cL_law 521 = .ok (.ifCond .eq 5, 3) := dc_153 (dc_bv 153 (by decide) ((lg_8 9).trans rfl)) (dc_bv 0 (by decide) ((lg_8 10).trans rfl)) (dc_bv 5 (by decide) ((lg_8 11).trans rfl))
theorem dL_law_524 : decode cL_law 524 = .ok (.iconst 0, 1) := dc_3 (dc_bv 3 (by decide) ((lg_8 12).trans rfl))
theorem dL_law_525 : decode cL_law 525 = .ok (.ireturn, 1) := dc_172 (dc_bv 172 (by decide) ((lg_8 13).trans rfl))
theorem dL_law_526 : decode cL_law 526 = .ok (.goto 2110, 3) := dc_167 (dc_bv 167 (by decide) ((lg_8 14).trans rfl)) (dc_bv 8 (by decide) ((lg_8 15).trans rfl)) (dc_bv 62 (by decide) ((lg_8 16).trans rfl))
theorem dL_law_529 : decode cL_law 529 = .ok (.aload_n 1, 1) := dc_43 (dc_bv 43 (by decide) ((lg_8 17).trans rfl))
theorem dL_law_530 : decode cL_law 530 = .ok (.aload_n 0, 1) := dc_42 (dc_bv 42 (by decide) ((lg_8 18).trans rfl))
theorem dL_law_531 : decode cL_law 531 = .ok (.iload 4, 2) := dc_21 (dc_bv 21 (by decide) ((lg_8 19).trans rfl)) (dc_bv 4 (by decide) ((lg_8 20).trans rfl))
theorem dL_law_533 : decode cL_law 533 = .ok (.iconst 1, 1) := dc_4 (dc_bv 4 (by decide) ((lg_8 21).trans rfl))
theorem dL_law_534 : decode cL_law 534 = .ok (.iadd, 1) := dc_96 (dc_bv 96 (by decide) ((lg_8 22).trans rfl))
theorem dL_law_535 : decode cL_law 535 = .ok (.iaload, 1) := dc_46 (dc_bv 46 (by decide) ((lg_8 23).trans rfl))
theorem dL_law_536 : decode cL_law 536 = .ok (.aload_n 3, 1) := dc_45 (dc_bv 45 (by decide) ((lg_8 24).trans rfl))
theorem dL_law_537 : decode cL_law 537 = .ok (.invokestatic 164, 3) := dc_184 (dc_bv 184 (by decide) ((lg_8 25).trans rfl)) (dc_bv 0 (by decide) ((lg_8 26).trans rfl)) (dc_bv 164 (by decide) ((lg_8 27).trans rfl))
theorem dL_law_540 : decode cL_law 540 = .ok (.istore 5, 2) := dc_54 (dc_bv 54 (by decide) ((lg_8 28).trans rfl)) (dc_bv 5 (by decide) ((lg_8 29).trans rfl))
theorem dL_law_542 : decode cL_law 542 = .ok (.aload_n 2, 1) := dc_44 (dc_bv 44 (by decide) ((lg_8 30).trans rfl))
theorem dL_law_543 : decode cL_law 543 = .ok (.aload_n 0, 1) := dc_42 (dc_bv 42 (by decide) ((lg_8 31).trans rfl))
theorem dL_law_544 : decode cL_law 544 = .ok (.iload 4, 2) := dc_21 (dc_bv 21 (by decide) ((lg_8 32).trans rfl)) (dc_bv 4 (by decide) ((lg_8 33).trans rfl))
theorem dL_law_546 : decode cL_law 546 = .ok (.iconst 1, 1) := dc_4 (dc_bv 4 (by decide) ((lg_8 34).trans rfl))
theorem dL_law_547 : decode cL_law 547 = .ok (.iadd, 1) := dc_96 (dc_bv 96 (by decide) ((lg_8 35).trans rfl))
theorem dL_law_548 : decode cL_law 548 = .ok (.iaload, 1) := dc_46 (dc_bv 46 (by decide) ((lg_8 36).trans rfl))
theorem dL_law_549 : decode cL_law 549 = .ok (.invokevirtual 166, 3) := dc_182 (dc_bv 182 (by decide) ((lg_8 37).trans rfl)) (dc_bv 0 (by decide) ((lg_8 38).trans rfl)) (dc_bv 166 (by decide) ((lg_8 39).trans rfl))
theorem dL_law_552 : decode cL_law 552 = .ok (.istore 6, 2) := dc_54 (dc_bv 54 (by decide) ((lg_8 40).trans rfl)) (dc_bv 6 (by decide) ((lg_8 41).trans rfl))
theorem dL_law_554 : decode cL_law 554 = .ok (.aload_n 2, 1) := dc_44 (dc_bv 44 (by decide) ((lg_8 42).trans rfl))
theorem dL_law_555 : decode cL_law 555 = .ok (.invokevirtual 138, 3) := dc_182 (dc_bv 182 (by decide) ((lg_8 43).trans rfl)) (dc_bv 0 (by decide) ((lg_8 44).trans rfl)) (dc_bv 138 (by decide) ((lg_8 45).trans rfl))
theorem dL_law_558 : decode cL_law 558 = .ok (.iload 5, 2) := dc_21 (dc_bv 21 (by decide) ((lg_8 46).trans rfl)) (dc_bv 5 (by decide) ((lg_8 47).trans rfl))
theorem dL_law_560 : decode cL_law 560 = .ok (.if_icmp .eq 5, 3) := dc_159 (dc_bv 159 (by decide) ((lg_8 48).trans rfl)) (dc_bv 0 (by decide) ((lg_8 49).trans rfl)) (dc_bv 5 (by decide) ((lg_8 50).trans rfl))
theorem dL_law_563 : decode cL_law 563 = .ok (.iconst 0, 1) := dc_3 (dc_bv 3 (by decide) ((lg_8 51).trans rfl))
theorem dL_law_564 : decode cL_law 564 = .ok (.ireturn, 1) := dc_172 (dc_bv 172 (by decide) ((lg_8 52).trans rfl))
theorem dL_law_565 : decode cL_law 565 = .ok (.iload 5, 2) := dc_21 (dc_bv 21 (by decide) ((lg_8 53).trans rfl)) (dc_bv 5 (by decide) ((lg_8 54).trans rfl))
theorem dL_law_567 : decode cL_law 567 = .ok (.ifCond .ne 22, 3) := dc_154 (dc_bv 154 (by decide) ((lg_8 55).trans rfl)) (dc_bv 0 (by decide) ((lg_8 56).trans rfl)) (dc_bv 22 (by decide) ((lg_8 57).trans rfl))
theorem dL_law_570 : decode cL_law 570 = .ok (.aload_n 3, 1) := dc_45 (dc_bv 45 (by decide) ((lg_8 58).trans rfl))
theorem dL_law_571 : decode cL_law 571 = .ok (.iconst 0, 1) := dc_3 (dc_bv 3 (by decide) ((lg_8 59).trans rfl))
theorem dL_law_572 : decode cL_law 572 = .ok (.laload, 1) := dc_47 (dc_bv 47 (by decide) ((lg_8 60).trans rfl))
theorem dL_law_573 : decode cL_law 573 = .ok (.iload 6, 2) := dc_21 (dc_bv 21 (by decide) ((lg_8 61).trans rfl)) (dc_bv 6 (by decide) ((lg_8 62).trans rfl))
theorem dL_law_575 : decode cL_law 575 = .ok (.ifCond .eq 7, 3) := dc_153 (dc_bv 153 (by decide) ((lg_8 63).trans rfl)) (dc_bv 0 (by decide) ((lg_9 0).trans rfl)) (dc_bv 7 (by decide) ((lg_9 1).trans rfl))
theorem dL_law_578 : decode cL_law 578 = .ok (.lconst 1, 1) := dc_10 (dc_bv 10 (by decide) ((lg_9 2).trans rfl))
theorem dL_law_579 : decode cL_law 579 = .ok (.goto 4, 3) := dc_167 (dc_bv 167 (by decide) ((lg_9 3).trans rfl)) (dc_bv 0 (by decide) ((lg_9 4).trans rfl)) (dc_bv 4 (by decide) ((lg_9 5).trans rfl))
theorem dL_law_582 : decode cL_law 582 = .ok (.lconst 0, 1) := dc_9 (dc_bv 9 (by decide) ((lg_9 6).trans rfl))
theorem dL_law_583 : decode cL_law 583 = .ok (.lcmp, 1) := dc_148 (dc_bv 148 (by decide) ((lg_9 7).trans rfl))
theorem dL_law_584 : decode cL_law 584 = .ok (.ifCond .eq 5, 3) := dc_153 (dc_bv 153 (by decide) ((lg_9 8).trans rfl)) (dc_bv 0 (by decide) ((lg_9 9).trans rfl)) (dc_bv 5 (by decide) ((lg_9 10).trans rfl))
theorem dL_law_587 : decode cL_law 587 = .ok (.iconst 0, 1) := dc_3 (dc_bv 3 (by decide) ((lg_9 11).trans rfl))
theorem dL_law_588 : decode cL_law 588 = .ok (.ireturn, 1) := dc_172 (dc_bv 172 (by decide) ((lg_9 12).trans rfl))
theorem dL_law_589 : decode cL_law 589 = .ok (.goto 2047, 3) := dc_167 (dc_bv 167 (by decide) ((lg_9 13).trans rfl)) (dc_bv 7 (by decide) ((lg_9 14).trans rfl)) (dc_bv 255 (by decide) ((lg_9 15).trans rfl))
theorem dL_law_592 : decode cL_law 592 = .ok (.aload_n 1, 1) := dc_43 (dc_bv 43 (by decide) ((lg_9 16).trans rfl))
theorem dL_law_593 : decode cL_law 593 = .ok (.aload_n 0, 1) := dc_42 (dc_bv 42 (by decide) ((lg_9 17).trans rfl))
theorem dL_law_594 : decode cL_law 594 = .ok (.iload 4, 2) := dc_21 (dc_bv 21 (by decide) ((lg_9 18).trans rfl)) (dc_bv 4 (by decide) ((lg_9 19).trans rfl))
theorem dL_law_596 : decode cL_law 596 = .ok (.iconst 1, 1) := dc_4 (dc_bv 4 (by decide) ((lg_9 20).trans rfl))
theorem dL_law_597 : decode cL_law 597 = .ok (.iadd, 1) := dc_96 (dc_bv 96 (by decide) ((lg_9 21).trans rfl))
theorem dL_law_598 : decode cL_law 598 = .ok (.iaload, 1) := dc_46 (dc_bv 46 (by decide) ((lg_9 22).trans rfl))
theorem dL_law_599 : decode cL_law 599 = .ok (.aload_n 3, 1) := dc_45 (dc_bv 45 (by decide) ((lg_9 23).trans rfl))
theorem dL_law_600 : decode cL_law 600 = .ok (.invokestatic 167, 3) := dc_184 (dc_bv 184 (by decide) ((lg_9 24).trans rfl)) (dc_bv 0 (by decide) ((lg_9 25).trans rfl)) (dc_bv 167 (by decide) ((lg_9 26).trans rfl))
theorem dL_law_603 : decode cL_law 603 = .ok (.istore 5, 2) := dc_54 (dc_bv 54 (by decide) ((lg_9 27).trans rfl)) (dc_bv 5 (by decide) ((lg_9 28).trans rfl))
theorem dL_law_605 : decode cL_law 605 = .ok (.aload_n 2, 1) := dc_44 (dc_bv 44 (by decide) ((lg_9 29).trans rfl))
theorem dL_law_606 : decode cL_law 606 = .ok (.aload_n 0, 1) := dc_42 (dc_bv 42 (by decide) ((lg_9 30).trans rfl))
theorem dL_law_607 : decode cL_law 607 = .ok (.iload 4, 2) := dc_21 (dc_bv 21 (by decide) ((lg_9 31).trans rfl)) (dc_bv 4 (by decide) ((lg_9 32).trans rfl))
theorem dL_law_609 : decode cL_law 609 = .ok (.iconst 1, 1) := dc_4 (dc_bv 4 (by decide) ((lg_9 33).trans rfl))
theorem dL_law_610 : decode cL_law 610 = .ok (.iadd, 1) := dc_96 (dc_bv 96 (by decide) ((lg_9 34).trans rfl))
theorem dL_law_611 : decode cL_law 611 = .ok (.iaload, 1) := dc_46 (dc_bv 46 (by decide) ((lg_9 35).trans rfl))
theorem dL_law_612 : decode cL_law 612 = .ok (.invokevirtual 169, 3) := dc_182 (dc_bv 182 (by decide) ((lg_9 36).trans rfl)) (dc_bv 0 (by decide) ((lg_9 37).trans rfl)) (dc_bv 169 (by decide) ((lg_9 38).trans rfl))
theorem dL_law_615 : decode cL_law 615 = .ok (.istore 6, 2) := dc_54 (dc_bv 54 (by decide) ((lg_9 39).trans rfl)) (dc_bv 6 (by decide) ((lg_9 40).trans rfl))
theorem dL_law_617 : decode cL_law 617 = .ok (.aload_n 2, 1) := dc_44 (dc_bv 44 (by decide) ((lg_9 41).trans rfl))
theorem dL_law_618 : decode cL_law 618 = .ok (.invokevirtual 138, 3) := dc_182 (dc_bv 182 (by decide) ((lg_9 42).trans rfl)) (dc_bv 0 (by decide) ((lg_9 43).trans rfl)) (dc_bv 138 (by decide) ((lg_9 44).trans rfl))
theorem dL_law_621 : decode cL_law 621 = .ok (.iload 5, 2) := dc_21 (dc_bv 21 (by decide) ((lg_9 45).trans rfl)) (dc_bv 5 (by decide) ((lg_9 46).trans rfl))
theorem dL_law_623 : decode cL_law 623 = .ok (.if_icmp .eq 5, 3) := dc_159 (dc_bv 159 (by decide) ((lg_9 47).trans rfl)) (dc_bv 0 (by decide) ((lg_9 48).trans rfl)) (dc_bv 5 (by decide) ((lg_9 49).trans rfl))
theorem dL_law_626 : decode cL_law 626 = .ok (.iconst 0, 1) := dc_3 (dc_bv 3 (by decide) ((lg_9 50).trans rfl))
theorem dL_law_627 : decode cL_law 627 = .ok (.ireturn, 1) := dc_172 (dc_bv 172 (by decide) ((lg_9 51).trans rfl))
theorem dL_law_628 : decode cL_law 628 = .ok (.iload 5, 2) := dc_21 (dc_bv 21 (by decide) ((lg_9 52).trans rfl)) (dc_bv 5 (by decide) ((lg_9 53).trans rfl))
theorem dL_law_630 : decode cL_law 630 = .ok (.ifCond .ne 15, 3) := dc_154 (dc_bv 154 (by decide) ((lg_9 54).trans rfl)) (dc_bv 0 (by decide) ((lg_9 55).trans rfl)) (dc_bv 15 (by decide) ((lg_9 56).trans rfl))
theorem dL_law_633 : decode cL_law 633 = .ok (.aload_n 3, 1) := dc_45 (dc_bv 45 (by decide) ((lg_9 57).trans rfl))
theorem dL_law_634 : decode cL_law 634 = .ok (.iconst 0, 1) := dc_3 (dc_bv 3 (by decide) ((lg_9 58).trans rfl))
theorem dL_law_635 : decode cL_law 635 = .ok (.laload, 1) := dc_47 (dc_bv 47 (by decide) ((lg_9 59).trans rfl))
theorem dL_law_636 : decode cL_law 636 = .ok (.iload 6, 2) := dc_21 (dc_bv 21 (by decide) ((lg_9 60).trans rfl)) (dc_bv 6 (by decide) ((lg_9 61).trans rfl))
theorem dL_law_638 : decode cL_law 638 = .ok (.i2l, 1) := dc_133 (dc_bv 133 (by decide) ((lg_9 62).trans rfl))
theorem dL_law_639 : decode cL_law 639 = .ok (.lcmp, 1) := dc_148 (dc_bv 148 (by decide) ((lg_9 63).trans rfl))
theorem dL_law_640 : decode cL_law 640 = .ok (.ifCond .eq 5, 3) := dc_153 (dc_bv 153 (by decide) ((lg_10 0).trans rfl)) (dc_bv 0 (by decide) ((lg_10 1).trans rfl)) (dc_bv 5 (by decide) ((lg_10 2).trans rfl))
theorem dL_law_643 : decode cL_law 643 = .ok (.iconst 0, 1) := dc_3 (dc_bv 3 (by decide) ((lg_10 3).trans rfl))
theorem dL_law_644 : decode cL_law 644 = .ok (.ireturn, 1) := dc_172 (dc_bv 172 (by decide) ((lg_10 4).trans rfl))
theorem dL_law_645 : decode cL_law 645 = .ok (.goto 1991, 3) := dc_167 (dc_bv 167 (by decide) ((lg_10 5).trans rfl)) (dc_bv 7 (by decide) ((lg_10 6).trans rfl)) (dc_bv 199 (by decide) ((lg_10 7).trans rfl))
theorem dL_law_648 : decode cL_law 648 = .ok (.aload_n 1, 1) := dc_43 (dc_bv 43 (by decide) ((lg_10 8).trans rfl))
theorem dL_law_649 : decode cL_law 649 = .ok (.aload_n 0, 1) := dc_42 (dc_bv 42 (by decide) ((lg_10 9).trans rfl))
theorem dL_law_650 : decode cL_law 650 = .ok (.iload 4, 2) := dc_21 (dc_bv 21 (by decide) ((lg_10 10).trans rfl)) (dc_bv 4 (by decide) ((lg_10 11).trans rfl))
theorem dL_law_652 : decode cL_law 652 = .ok (.iconst 1, 1) := dc_4 (dc_bv 4 (by decide) ((lg_10 12).trans rfl))
theorem dL_law_653 : decode cL_law 653 = .ok (.iadd, 1) := dc_96 (dc_bv 96 (by decide) ((lg_10 13).trans rfl))
theorem dL_law_654 : decode cL_law 654 = .ok (.iaload, 1) := dc_46 (dc_bv 46 (by decide) ((lg_10 14).trans rfl))
theorem dL_law_655 : decode cL_law 655 = .ok (.aload_n 3, 1) := dc_45 (dc_bv 45 (by decide) ((lg_10 15).trans rfl))
theorem dL_law_656 : decode cL_law 656 = .ok (.invokestatic 170, 3) := dc_184 (dc_bv 184 (by decide) ((lg_10 16).trans rfl)) (dc_bv 0 (by decide) ((lg_10 17).trans rfl)) (dc_bv 170 (by decide) ((lg_10 18).trans rfl))
theorem dL_law_659 : decode cL_law 659 = .ok (.istore 5, 2) := dc_54 (dc_bv 54 (by decide) ((lg_10 19).trans rfl)) (dc_bv 5 (by decide) ((lg_10 20).trans rfl))
theorem dL_law_661 : decode cL_law 661 = .ok (.aload_n 2, 1) := dc_44 (dc_bv 44 (by decide) ((lg_10 21).trans rfl))
theorem dL_law_662 : decode cL_law 662 = .ok (.aload_n 0, 1) := dc_42 (dc_bv 42 (by decide) ((lg_10 22).trans rfl))
theorem dL_law_663 : decode cL_law 663 = .ok (.iload 4, 2) := dc_21 (dc_bv 21 (by decide) ((lg_10 23).trans rfl)) (dc_bv 4 (by decide) ((lg_10 24).trans rfl))
theorem dL_law_665 : decode cL_law 665 = .ok (.iconst 1, 1) := dc_4 (dc_bv 4 (by decide) ((lg_10 25).trans rfl))
theorem dL_law_666 : decode cL_law 666 = .ok (.iadd, 1) := dc_96 (dc_bv 96 (by decide) ((lg_10 26).trans rfl))
theorem dL_law_667 : decode cL_law 667 = .ok (.iaload, 1) := dc_46 (dc_bv 46 (by decide) ((lg_10 27).trans rfl))
theorem dL_law_668 : decode cL_law 668 = .ok (.invokevirtual 172, 3) := dc_182 (dc_bv 182 (by decide) ((lg_10 28).trans rfl)) (dc_bv 0 (by decide) ((lg_10 29).trans rfl)) (dc_bv 172 (by decide) ((lg_10 30).trans rfl))
theorem dL_law_671 : decode cL_law 671 = .ok (.istore 6, 2) := dc_54 (dc_bv 54 (by decide) ((lg_10 31).trans rfl)) (dc_bv 6 (by decide) ((lg_10 32).trans rfl))
theorem dL_law_673 : decode cL_law 673 = .ok (.aload_n 2, 1) := dc_44 (dc_bv 44 (by decide) ((lg_10 33).trans rfl))
theorem dL_law_674 : decode cL_law 674 = .ok (.invokevirtual 138, 3) := dc_182 (dc_bv 182 (by decide) ((lg_10 34).trans rfl)) (dc_bv 0 (by decide) ((lg_10 35).trans rfl)) (dc_bv 138 (by decide) ((lg_10 36).trans rfl))
theorem dL_law_677 : decode cL_law 677 = .ok (.iload 5, 2) := dc_21 (dc_bv 21 (by decide) ((lg_10 37).trans rfl)) (dc_bv 5 (by decide) ((lg_10 38).trans rfl))
theorem dL_law_679 : decode cL_law 679 = .ok (.if_icmp .eq 5, 3) := dc_159 (dc_bv 159 (by decide) ((lg_10 39).trans rfl)) (dc_bv 0 (by decide) ((lg_10 40).trans rfl)) (dc_bv 5 (by decide) ((lg_10 41).trans rfl))
theorem dL_law_682 : decode cL_law 682 = .ok (.iconst 0, 1) := dc_3 (dc_bv 3 (by decide) ((lg_10 42).trans rfl))
theorem dL_law_683 : decode cL_law 683 = .ok (.ireturn, 1) := dc_172 (dc_bv 172 (by decide) ((lg_10 43).trans rfl))
theorem dL_law_684 : decode cL_law 684 = .ok (.iload 5, 2) := dc_21 (dc_bv 21 (by decide) ((lg_10 44).trans rfl)) (dc_bv 5 (by decide) ((lg_10 45).trans rfl))
theorem dL_law_686 : decode cL_law 686 = .ok (.ifCond .ne 15, 3) := dc_154 (dc_bv 154 (by decide) ((lg_10 46).trans rfl)) (dc_bv 0 (by decide) ((lg_10 47).trans rfl)) (dc_bv 15 (by decide) ((lg_10 48).trans rfl))
theorem dL_law_689 : decode cL_law 689 = .ok (.aload_n 3, 1) := dc_45 (dc_bv 45 (by decide) ((lg_10 49).trans rfl))
theorem dL_law_690 : decode cL_law 690 = .ok (.iconst 0, 1) := dc_3 (dc_bv 3 (by decide) ((lg_10 50).trans rfl))
theorem dL_law_691 : decode cL_law 691 = .ok (.laload, 1) := dc_47 (dc_bv 47 (by decide) ((lg_10 51).trans rfl))
theorem dL_law_692 : decode cL_law 692 = .ok (.iload 6, 2) := dc_21 (dc_bv 21 (by decide) ((lg_10 52).trans rfl)) (dc_bv 6 (by decide) ((lg_10 53).trans rfl))
theorem dL_law_694 : decode cL_law 694 = .ok (.i2l, 1) := dc_133 (dc_bv 133 (by decide) ((lg_10 54).trans rfl))
theorem dL_law_695 : decode cL_law 695 = .ok (.lcmp, 1) := dc_148 (dc_bv 148 (by decide) ((lg_10 55).trans rfl))
theorem dL_law_696 : decode cL_law 696 = .ok (.ifCond .eq 5, 3) := dc_153 (dc_bv 153 (by decide) ((lg_10 56).trans rfl)) (dc_bv 0 (by decide) ((lg_10 57).trans rfl)) (dc_bv 5 (by decide) ((lg_10 58).trans rfl))
theorem dL_law_699 : decode cL_law 699 = .ok (.iconst 0, 1) := dc_3 (dc_bv 3 (by decide) ((lg_10 59).trans rfl))
theorem dL_law_700 : decode cL_law 700 = .ok (.ireturn, 1) := dc_172 (dc_bv 172 (by decide) ((lg_10 60).trans rfl))
theorem dL_law_701 : decode cL_law 701 = .ok (.goto 1935, 3) := dc_167 (dc_bv 167 (by decide) ((lg_10 61).trans rfl)) (dc_bv 7 (by decide) ((lg_10 62).trans rfl)) (dc_bv 143 (by decide) ((lg_10 63).trans rfl))
theorem dL_law_704 : decode cL_law 704 = .ok (.aload_n 1, 1) := dc_43 (dc_bv 43 (by decide) ((lg_11 0).trans rfl))
theorem dL_law_705 : decode cL_law 705 = .ok (.invokevirtual 173, 3) := dc_182 (dc_bv 182 (by decide) ((lg_11 1).trans rfl)) (dc_bv 0 (by decide) ((lg_11 2).trans rfl)) (dc_bv 173 (by decide) ((lg_11 3).trans rfl))
theorem dL_law_708 : decode cL_law 708 = .ok (.aload_n 2, 1) := dc_44 (dc_bv 44 (by decide) ((lg_11 4).trans rfl))
theorem dL_law_709 : decode cL_law 709 = .ok (.invokevirtual 176, 3) := dc_182 (dc_bv 182 (by decide) ((lg_11 5).trans rfl)) (dc_bv 0 (by decide) ((lg_11 6).trans rfl)) (dc_bv 176 (by decide) ((lg_11 7).trans rfl))
theorem dL_law_712 : decode cL_law 712 = .ok (.if_icmp .eq 1924, 3) := dc_159 (dc_bv 159 (by decide) ((lg_11 8).trans rfl)) (dc_bv 7 (by decide) ((lg_11 9).trans rfl)) (dc_bv 132 (by decide) ((lg_11 10).trans rfl))
theorem dL_law_715 : decode cL_law 715 = .ok (.iconst 0, 1) := dc_3 (dc_bv 3 (by decide) ((lg_11 11).trans rfl))
theorem dL_law_716 : decode cL_law 716 = .ok (.ireturn, 1) := dc_172 (dc_bv 172 (by decide) ((lg_11 12).trans rfl))
theorem dL_law_717 : decode cL_law 717 = .ok (.aload_n 1, 1) := dc_43 (dc_bv 43 (by decide) ((lg_11 13).trans rfl))
theorem dL_law_718 : decode cL_law 718 = .ok (.aload_n 0, 1) := dc_42 (dc_bv 42 (by decide) ((lg_11 14).trans rfl))
theorem dL_law_719 : decode cL_law 719 = .ok (.iload 4, 2) := dc_21 (dc_bv 21 (by decide) ((lg_11 15).trans rfl)) (dc_bv 4 (by decide) ((lg_11 16).trans rfl))
theorem dL_law_721 : decode cL_law 721 = .ok (.iconst 1, 1) := dc_4 (dc_bv 4 (by decide) ((lg_11 17).trans rfl))
theorem dL_law_722 : decode cL_law 722 = .ok (.iadd, 1) := dc_96 (dc_bv 96 (by decide) ((lg_11 18).trans rfl))
theorem dL_law_723 : decode cL_law 723 = .ok (.iaload, 1) := dc_46 (dc_bv 46 (by decide) ((lg_11 19).trans rfl))
theorem dL_law_724 : decode cL_law 724 = .ok (.aload_n 3, 1) := dc_45 (dc_bv 45 (by decide) ((lg_11 20).trans rfl))
theorem dL_law_725 : decode cL_law 725 = .ok (.invokestatic 177, 3) := dc_184 (dc_bv 184 (by decide) ((lg_11 21).trans rfl)) (dc_bv 0 (by decide) ((lg_11 22).trans rfl)) (dc_bv 177 (by decide) ((lg_11 23).trans rfl))
theorem dL_law_728 : decode cL_law 728 = .ok (.istore 5, 2) := dc_54 (dc_bv 54 (by decide) ((lg_11 24).trans rfl)) (dc_bv 5 (by decide) ((lg_11 25).trans rfl))
theorem dL_law_730 : decode cL_law 730 = .ok (.aload_n 2, 1) := dc_44 (dc_bv 44 (by decide) ((lg_11 26).trans rfl))
theorem dL_law_731 : decode cL_law 731 = .ok (.aload_n 0, 1) := dc_42 (dc_bv 42 (by decide) ((lg_11 27).trans rfl))
theorem dL_law_732 : decode cL_law 732 = .ok (.iload 4, 2) := dc_21 (dc_bv 21 (by decide) ((lg_11 28).trans rfl)) (dc_bv 4 (by decide) ((lg_11 29).trans rfl))
theorem dL_law_734 : decode cL_law 734 = .ok (.iconst 1, 1) := dc_4 (dc_bv 4 (by decide) ((lg_11 30).trans rfl))
theorem dL_law_735 : decode cL_law 735 = .ok (.iadd, 1) := dc_96 (dc_bv 96 (by decide) ((lg_11 31).trans rfl))
theorem dL_law_736 : decode cL_law 736 = .ok (.iaload, 1) := dc_46 (dc_bv 46 (by decide) ((lg_11 32).trans rfl))
theorem dL_law_737 : decode cL_law 737 = .ok (.invokevirtual 179, 3) := dc_182 (dc_bv 182 (by decide) ((lg_11 33).trans rfl)) (dc_bv 0 (by decide) ((lg_11 34).trans rfl)) (dc_bv 179 (by decide) ((lg_11 35).trans rfl))
theorem dL_law_740 : decode cL_law 740 = .ok (.istore 6, 2) := dc_54 (dc_bv 54 (by decide) ((lg_11 36).trans rfl)) (dc_bv 6 (by decide) ((lg_11 37).trans rfl))
theorem dL_law_742 : decode cL_law 742 = .ok (.aload_n 2, 1) := dc_44 (dc_bv 44 (by decide) ((lg_11 38).trans rfl))
theorem dL_law_743 : decode cL_law 743 = .ok (.invokevirtual 138, 3) := dc_182 (dc_bv 182 (by decide) ((lg_11 39).trans rfl)) (dc_bv 0 (by decide) ((lg_11 40).trans rfl)) (dc_bv 138 (by decide) ((lg_11 41).trans rfl))
theorem dL_law_746 : decode cL_law 746 = .ok (.iload 5, 2) := dc_21 (dc_bv 21 (by decide) ((lg_11 42).trans rfl)) (dc_bv 5 (by decide) ((lg_11 43).trans rfl))
theorem dL_law_748 : decode cL_law 748 = .ok (.if_icmp .eq 5, 3) := dc_159 (dc_bv 159 (by decide) ((lg_11 44).trans rfl)) (dc_bv 0 (by decide) ((lg_11 45).trans rfl)) (dc_bv 5 (by decide) ((lg_11 46).trans rfl))
theorem dL_law_751 : decode cL_law 751 = .ok (.iconst 0, 1) := dc_3 (dc_bv 3 (by decide) ((lg_11 47).trans rfl))
theorem dL_law_752 : decode cL_law 752 = .ok (.ireturn, 1) := dc_172 (dc_bv 172 (by decide) ((lg_11 48).trans rfl))
theorem dL_law_753 : decode cL_law 753 = .ok (.iload 5, 2) := dc_21 (dc_bv 21 (by decide) ((lg_11 49).trans rfl)) (dc_bv 5 (by decide) ((lg_11 50).trans rfl))
theorem dL_law_755 : decode cL_law 755 = .ok (.ifCond .ne 15, 3) := dc_154 (dc_bv 154 (by decide) ((lg_11 51).trans rfl)) (dc_bv 0 (by decide) ((lg_11 52).trans rfl)) (dc_bv 15 (by decide) ((lg_11 53).trans rfl))
theorem dL_law_758 : decode cL_law 758 = .ok (.aload_n 3, 1) := dc_45 (dc_bv 45 (by decide) ((lg_11 54).trans rfl))
theorem dL_law_759 : decode cL_law 759 = .ok (.iconst 0, 1) := dc_3 (dc_bv 3 (by decide) ((lg_11 55).trans rfl))
theorem dL_law_760 : decode cL_law 760 = .ok (.laload, 1) := dc_47 (dc_bv 47 (by decide) ((lg_11 56).trans rfl))
theorem dL_law_761 : decode cL_law 761 = .ok (.iload 6, 2) := dc_21 (dc_bv 21 (by decide) ((lg_11 57).trans rfl)) (dc_bv 6 (by decide) ((lg_11 58).trans rfl))
theorem dL_law_763 : decode cL_law 763 = .ok (.i2l, 1) := dc_133 (dc_bv 133 (by decide) ((lg_11 59).trans rfl))
theorem dL_law_764 : decode cL_law 764 = .ok (.lcmp, 1) := dc_148 (dc_bv 148 (by decide) ((lg_11 60).trans rfl))
theorem dL_law_765 : decode cL_law 765 = .ok (.ifCond .eq 5, 3) := dc_153 (dc_bv 153 (by decide) ((lg_11 61).trans rfl)) (dc_bv 0 (by decide) ((lg_11 62).trans rfl)) (dc_bv 5 (by decide) ((lg_11 63).trans rfl))
theorem dL_law_768 : decode cL_law 768 = .ok (.iconst 0, 1) := dc_3 (dc_bv 3 (by decide) ((lg_12 0).trans rfl))
theorem dL_law_769 : decode cL_law 769 = .ok (.ireturn, 1) := dc_172 (dc_bv 172 (by decide) ((lg_12 1).trans rfl))
theorem dL_law_770 : decode cL_law 770 = .ok (.goto 1866, 3) := dc_167 (dc_bv 167 (by decide) ((lg_12 2).trans rfl)) (dc_bv 7 (by decide) ((lg_12 3).trans rfl)) (dc_bv 74 (by decide) ((lg_12 4).trans rfl))
theorem dL_law_773 : decode cL_law 773 = .ok (.aload_n 1, 1) := dc_43 (dc_bv 43 (by decide) ((lg_12 5).trans rfl))
theorem dL_law_774 : decode cL_law 774 = .ok (.aload_n 0, 1) := dc_42 (dc_bv 42 (by decide) ((lg_12 6).trans rfl))
theorem dL_law_775 : decode cL_law 775 = .ok (.iload 4, 2) := dc_21 (dc_bv 21 (by decide) ((lg_12 7).trans rfl)) (dc_bv 4 (by decide) ((lg_12 8).trans rfl))
theorem dL_law_777 : decode cL_law 777 = .ok (.iconst 1, 1) := dc_4 (dc_bv 4 (by decide) ((lg_12 9).trans rfl))
theorem dL_law_778 : decode cL_law 778 = .ok (.iadd, 1) := dc_96 (dc_bv 96 (by decide) ((lg_12 10).trans rfl))
theorem dL_law_779 : decode cL_law 779 = .ok (.iaload, 1) := dc_46 (dc_bv 46 (by decide) ((lg_12 11).trans rfl))
theorem dL_law_780 : decode cL_law 780 = .ok (.aload_n 0, 1) := dc_42 (dc_bv 42 (by decide) ((lg_12 12).trans rfl))
theorem dL_law_781 : decode cL_law 781 = .ok (.iload 4, 2) := dc_21 (dc_bv 21 (by decide) ((lg_12 13).trans rfl)) (dc_bv 4 (by decide) ((lg_12 14).trans rfl))
theorem dL_law_783 : decode cL_law 783 = .ok (.iconst 2, 1) := dc_5 (dc_bv 5 (by decide) ((lg_12 15).trans rfl))
theorem dL_law_784 : decode cL_law 784 = .ok (.iadd, 1) := dc_96 (dc_bv 96 (by decide) ((lg_12 16).trans rfl))
theorem dL_law_785 : decode cL_law 785 = .ok (.iaload, 1) := dc_46 (dc_bv 46 (by decide) ((lg_12 17).trans rfl))
theorem dL_law_786 : decode cL_law 786 = .ok (.aload_n 3, 1) := dc_45 (dc_bv 45 (by decide) ((lg_12 18).trans rfl))
theorem dL_law_787 : decode cL_law 787 = .ok (.invokestatic 180, 3) := dc_184 (dc_bv 184 (by decide) ((lg_12 19).trans rfl)) (dc_bv 0 (by decide) ((lg_12 20).trans rfl)) (dc_bv 180 (by decide) ((lg_12 21).trans rfl))
theorem dL_law_790 : decode cL_law 790 = .ok (.istore 5, 2) := dc_54 (dc_bv 54 (by decide) ((lg_12 22).trans rfl)) (dc_bv 5 (by decide) ((lg_12 23).trans rfl))
theorem dL_law_792 : decode cL_law 792 = .ok (.aload_n 2, 1) := dc_44 (dc_bv 44 (by decide) ((lg_12 24).trans rfl))
theorem dL_law_793 : decode cL_law 793 = .ok (.aload_n 0, 1) := dc_42 (dc_bv 42 (by decide) ((lg_12 25).trans rfl))
theorem dL_law_794 : decode cL_law 794 = .ok (.iload 4, 2) := dc_21 (dc_bv 21 (by decide) ((lg_12 26).trans rfl)) (dc_bv 4 (by decide) ((lg_12 27).trans rfl))
theorem dL_law_796 : decode cL_law 796 = .ok (.iconst 1, 1) := dc_4 (dc_bv 4 (by decide) ((lg_12 28).trans rfl))
theorem dL_law_797 : decode cL_law 797 = .ok (.iadd, 1) := dc_96 (dc_bv 96 (by decide) ((lg_12 29).trans rfl))
theorem dL_law_798 : decode cL_law 798 = .ok (.iaload, 1) := dc_46 (dc_bv 46 (by decide) ((lg_12 30).trans rfl))
theorem dL_law_799 : decode cL_law 799 = .ok (.aload_n 0, 1) := dc_42 (dc_bv 42 (by decide) ((lg_12 31).trans rfl))
theorem dL_law_800 : decode cL_law 800 = .ok (.iload 4, 2) := dc_21 (dc_bv 21 (by decide) ((lg_12 32).trans rfl)) (dc_bv 4 (by decide) ((lg_12 33).trans rfl))
theorem dL_law_802 : decode cL_law 802 = .ok (.iconst 2, 1) := dc_5 (dc_bv 5 (by decide) ((lg_12 34).trans rfl))
theorem dL_law_803 : decode cL_law 803 = .ok (.iadd, 1) := dc_96 (dc_bv 96 (by decide) ((lg_12 35).trans rfl))
theorem dL_law_804 : decode cL_law 804 = .ok (.iaload, 1) := dc_46 (dc_bv 46 (by decide) ((lg_12 36).trans rfl))
theorem dL_law_805 : decode cL_law 805 = .ok (.invokevirtual 183, 3) := dc_182 (dc_bv 182 (by decide) ((lg_12 37).trans rfl)) (dc_bv 0 (by decide) ((lg_12 38).trans rfl)) (dc_bv 183 (by decide) ((lg_12 39).trans rfl))
theorem dL_law_808 : decode cL_law 808 = .ok (.istore 6, 2) := dc_54 (dc_bv 54 (by decide) ((lg_12 40).trans rfl)) (dc_bv 6 (by decide) ((lg_12 41).trans rfl))
theorem dL_law_810 : decode cL_law 810 = .ok (.aload_n 2, 1) := dc_44 (dc_bv 44 (by decide) ((lg_12 42).trans rfl))
theorem dL_law_811 : decode cL_law 811 = .ok (.invokevirtual 138, 3) := dc_182 (dc_bv 182 (by decide) ((lg_12 43).trans rfl)) (dc_bv 0 (by decide) ((lg_12 44).trans rfl)) (dc_bv 138 (by decide) ((lg_12 45).trans rfl))
theorem dL_law_814 : decode cL_law 814 = .ok (.iload 5, 2) := dc_21 (dc_bv 21 (by decide) ((lg_12 46).trans rfl)) (dc_bv 5 (by decide) ((lg_12 47).trans rfl))
theorem dL_law_816 : decode cL_law 816 = .ok (.if_icmp .eq 5, 3) := dc_159 (dc_bv 159 (by decide) ((lg_12 48).trans rfl)) (dc_bv 0 (by decide) ((lg_12 49).trans rfl)) (dc_bv 5 (by decide) ((lg_12 50).trans rfl))
theorem dL_law_819 : decode cL_law 819 = .ok (.iconst 0, 1) := dc_3 (dc_bv 3 (by decide) ((lg_12 51).trans rfl))
theorem dL_law_820 : decode cL_law 820 = .ok (.ireturn, 1) := dc_172 (dc_bv 172 (by decide) ((lg_12 52).trans rfl))
theorem dL_law_821 : decode cL_law 821 = .ok (.iload 5, 2) := dc_21 (dc_bv 21 (by decide) ((lg_12 53).trans rfl)) (dc_bv 5 (by decide) ((lg_12 54).trans rfl))
theorem dL_law_823 : decode cL_law 823 = .ok (.ifCond .ne 15, 3) := dc_154 (dc_bv 154 (by decide) ((lg_12 55).trans rfl)) (dc_bv 0 (by decide) ((lg_12 56).trans rfl)) (dc_bv 15 (by decide) ((lg_12 57).trans rfl))
theorem dL_law_826 : decode cL_law 826 = .ok (.aload_n 3, 1) := dc_45 (dc_bv 45 (by decide) ((lg_12 58).trans rfl))
theorem dL_law_827 : decode cL_law 827 = .ok (.iconst 0, 1) := dc_3 (dc_bv 3 (by decide) ((lg_12 59).trans rfl))
theorem dL_law_828 : decode cL_law 828 = .ok (.laload, 1) := dc_47 (dc_bv 47 (by decide) ((lg_12 60).trans rfl))
theorem dL_law_829 : decode cL_law 829 = .ok (.iload 6, 2) := dc_21 (dc_bv 21 (by decide) ((lg_12 61).trans rfl)) (dc_bv 6 (by decide) ((lg_12 62).trans rfl))
theorem dL_law_831 : decode cL_law 831 = .ok (.i2l, 1) := dc_133 (dc_bv 133 (by decide) ((lg_12 63).trans rfl))
theorem dL_law_832 : decode cL_law 832 = .ok (.lcmp, 1) := dc_148 (dc_bv 148 (by decide) ((lg_13 0).trans rfl))
theorem dL_law_833 : decode cL_law 833 = .ok (.ifCond .eq 5, 3) := dc_153 (dc_bv 153 (by decide) ((lg_13 1).trans rfl)) (dc_bv 0 (by decide) ((lg_13 2).trans rfl)) (dc_bv 5 (by decide) ((lg_13 3).trans rfl))
theorem dL_law_836 : decode cL_law 836 = .ok (.iconst 0, 1) := dc_3 (dc_bv 3 (by decide) ((lg_13 4).trans rfl))
theorem dL_law_837 : decode cL_law 837 = .ok (.ireturn, 1) := dc_172 (dc_bv 172 (by decide) ((lg_13 5).trans rfl))
theorem dL_law_838 : decode cL_law 838 = .ok (.goto 1798, 3) := dc_167 (dc_bv 167 (by decide) ((lg_13 6).trans rfl)) (dc_bv 7 (by decide) ((lg_13 7).trans rfl)) (dc_bv 6 (by decide) ((lg_13 8).trans rfl))
theorem dL_law_841 : decode cL_law 841 = .ok (.aload_n 1, 1) := dc_43 (dc_bv 43 (by decide) ((lg_13 9).trans rfl))
theorem dL_law_842 : decode cL_law 842 = .ok (.aload_n 0, 1) := dc_42 (dc_bv 42 (by decide) ((lg_13 10).trans rfl))
theorem dL_law_843 : decode cL_law 843 = .ok (.iload 4, 2) := dc_21 (dc_bv 21 (by decide) ((lg_13 11).trans rfl)) (dc_bv 4 (by decide) ((lg_13 12).trans rfl))
theorem dL_law_845 : decode cL_law 845 = .ok (.iconst 1, 1) := dc_4 (dc_bv 4 (by decide) ((lg_13 13).trans rfl))
theorem dL_law_846 : decode cL_law 846 = .ok (.iadd, 1) := dc_96 (dc_bv 96 (by decide) ((lg_13 14).trans rfl))
theorem dL_law_847 : decode cL_law 847 = .ok (.iaload, 1) := dc_46 (dc_bv 46 (by decide) ((lg_13 15).trans rfl))
theorem dL_law_848 : decode cL_law 848 = .ok (.aload_n 3, 1) := dc_45 (dc_bv 45 (by decide) ((lg_13 16).trans rfl))
theorem dL_law_849 : decode cL_law 849 = .ok (.invokestatic 184, 3) := dc_184 (dc_bv 184 (by decide) ((lg_13 17).trans rfl)) (dc_bv 0 (by decide) ((lg_13 18).trans rfl)) (dc_bv 184 (by decide) ((lg_13 19).trans rfl))
theorem dL_law_852 : decode cL_law 852 = .ok (.istore 5, 2) := dc_54 (dc_bv 54 (by decide) ((lg_13 20).trans rfl)) (dc_bv 5 (by decide) ((lg_13 21).trans rfl))
theorem dL_law_854 : decode cL_law 854 = .ok (.aload_n 2, 1) := dc_44 (dc_bv 44 (by decide) ((lg_13 22).trans rfl))
theorem dL_law_855 : decode cL_law 855 = .ok (.aload_n 0, 1) := dc_42 (dc_bv 42 (by decide) ((lg_13 23).trans rfl))
theorem dL_law_856 : decode cL_law 856 = .ok (.iload 4, 2) := dc_21 (dc_bv 21 (by decide) ((lg_13 24).trans rfl)) (dc_bv 4 (by decide) ((lg_13 25).trans rfl))
theorem dL_law_858 : decode cL_law 858 = .ok (.iconst 1, 1) := dc_4 (dc_bv 4 (by decide) ((lg_13 26).trans rfl))
theorem dL_law_859 : decode cL_law 859 = .ok (.iadd, 1) := dc_96 (dc_bv 96 (by decide) ((lg_13 27).trans rfl))
theorem dL_law_860 : decode cL_law 860 = .ok (.iaload, 1) := dc_46 (dc_bv 46 (by decide) ((lg_13 28).trans rfl))
theorem dL_law_861 : decode cL_law 861 = .ok (.invokevirtual 186, 3) := dc_182 (dc_bv 182 (by decide) ((lg_13 29).trans rfl)) (dc_bv 0 (by decide) ((lg_13 30).trans rfl)) (dc_bv 186 (by decide) ((lg_13 31).trans rfl))
theorem dL_law_864 : decode cL_law 864 = .ok (.istore 6, 2) := dc_54 (dc_bv 54 (by decide) ((lg_13 32).trans rfl)) (dc_bv 6 (by decide) ((lg_13 33).trans rfl))
theorem dL_law_866 : decode cL_law 866 = .ok (.aload_n 2, 1) := dc_44 (dc_bv 44 (by decide) ((lg_13 34).trans rfl))
theorem dL_law_867 : decode cL_law 867 = .ok (.invokevirtual 138, 3) := dc_182 (dc_bv 182 (by decide) ((lg_13 35).trans rfl)) (dc_bv 0 (by decide) ((lg_13 36).trans rfl)) (dc_bv 138 (by decide) ((lg_13 37).trans rfl))
theorem dL_law_870 : decode cL_law 870 = .ok (.iload 5, 2) := dc_21 (dc_bv 21 (by decide) ((lg_13 38).trans rfl)) (dc_bv 5 (by decide) ((lg_13 39).trans rfl))
theorem dL_law_872 : decode cL_law 872 = .ok (.if_icmp .eq 5, 3) := dc_159 (dc_bv 159 (by decide) ((lg_13 40).trans rfl)) (dc_bv 0 (by decide) ((lg_13 41).trans rfl)) (dc_bv 5 (by decide) ((lg_13 42).trans rfl))
theorem dL_law_875 : decode cL_law 875 = .ok (.iconst 0, 1) := dc_3 (dc_bv 3 (by decide) ((lg_13 43).trans rfl))
theorem dL_law_876 : decode cL_law 876 = .ok (.ireturn, 1) := dc_172 (dc_bv 172 (by decide) ((lg_13 44).trans rfl))
theorem dL_law_877 : decode cL_law 877 = .ok (.iload 5, 2) := dc_21 (dc_bv 21 (by decide) ((lg_13 45).trans rfl)) (dc_bv 5 (by decide) ((lg_13 46).trans rfl))
theorem dL_law_879 : decode cL_law 879 = .ok (.ifCond .ne 15, 3) := dc_154 (dc_bv 154 (by decide) ((lg_13 47).trans rfl)) (dc_bv 0 (by decide) ((lg_13 48).trans rfl)) (dc_bv 15 (by decide) ((lg_13 49).trans rfl))
theorem dL_law_882 : decode cL_law 882 = .ok (.aload_n 3, 1) := dc_45 (dc_bv 45 (by decide) ((lg_13 50).trans rfl))
theorem dL_law_883 : decode cL_law 883 = .ok (.iconst 0, 1) := dc_3 (dc_bv 3 (by decide) ((lg_13 51).trans rfl))
theorem dL_law_884 : decode cL_law 884 = .ok (.laload, 1) := dc_47 (dc_bv 47 (by decide) ((lg_13 52).trans rfl))
theorem dL_law_885 : decode cL_law 885 = .ok (.iload 6, 2) := dc_21 (dc_bv 21 (by decide) ((lg_13 53).trans rfl)) (dc_bv 6 (by decide) ((lg_13 54).trans rfl))
theorem dL_law_887 : decode cL_law 887 = .ok (.i2l, 1) := dc_133 (dc_bv 133 (by decide) ((lg_13 55).trans rfl))
theorem dL_law_888 : decode cL_law 888 = .ok (.lcmp, 1) := dc_148 (dc_bv 148 (by decide) ((lg_13 56).trans rfl))
theorem dL_law_889 : decode cL_law 889 = .ok (.ifCond .eq 5, 3) := dc_153 (dc_bv 153 (by decide) ((lg_13 57).trans rfl)) (dc_bv 0 (by decide) ((lg_13 58).trans rfl)) (dc_bv 5 (by decide) ((lg_13 59).trans rfl))
theorem dL_law_892 : decode cL_law 892 = .ok (.iconst 0, 1) := dc_3 (dc_bv 3 (by decide) ((lg_13 60).trans rfl))
theorem dL_law_893 : decode cL_law 893 = .ok (.ireturn, 1) := dc_172 (dc_bv 172 (by decide) ((lg_13 61).trans rfl))
theorem dL_law_894 : decode cL_law 894 = .ok (.goto 1742, 3) := dc_167 (dc_bv 167 (by decide) ((lg_13 62).trans rfl)) (dc_bv 6 (by decide) ((lg_13 63).trans rfl)) (dc_bv 206 (by decide) ((lg_14 0).trans rfl))
theorem dL_law_897 : decode cL_law 897 = .ok (.aload_n 1, 1) := dc_43 (dc_bv 43 (by decide) ((lg_14 1).trans rfl))
theorem dL_law_898 : decode cL_law 898 = .ok (.aload_n 0, 1) := dc_42 (dc_bv 42 (by decide) ((lg_14 2).trans rfl))
theorem dL_law_899 : decode cL_law 899 = .ok (.iload 4, 2) := dc_21 (dc_bv 21 (by decide) ((lg_14 3).trans rfl)) (dc_bv 4 (by decide) ((lg_14 4).trans rfl))
theorem dL_law_901 : decode cL_law 901 = .ok (.iconst 1, 1) := dc_4 (dc_bv 4 (by decide) ((lg_14 5).trans rfl))
theorem dL_law_902 : decode cL_law 902 = .ok (.iadd, 1) := dc_96 (dc_bv 96 (by decide) ((lg_14 6).trans rfl))
theorem dL_law_903 : decode cL_law 903 = .ok (.iaload, 1) := dc_46 (dc_bv 46 (by decide) ((lg_14 7).trans rfl))
theorem dL_law_904 : decode cL_law 904 = .ok (.aload_n 3, 1) := dc_45 (dc_bv 45 (by decide) ((lg_14 8).trans rfl))
theorem dL_law_905 : decode cL_law 905 = .ok (.invokestatic 187, 3) := dc_184 (dc_bv 184 (by decide) ((lg_14 9).trans rfl)) (dc_bv 0 (by decide) ((lg_14 10).trans rfl)) (dc_bv 187 (by decide) ((lg_14 11).trans rfl))
theorem dL_law_908 : decode cL_law 908 = .ok (.istore 5, 2) := dc_54 (dc_bv 54 (by decide) ((lg_14 12).trans rfl)) (dc_bv 5 (by decide) ((lg_14 13).trans rfl))
theorem dL_law_910 : decode cL_law 910 = .ok (.aload_n 2, 1) := dc_44 (dc_bv 44 (by decide) ((lg_14 14).trans rfl))
theorem dL_law_911 : decode cL_law 911 = .ok (.aload_n 0, 1) := dc_42 (dc_bv 42 (by decide) ((lg_14 15).trans rfl))
theorem dL_law_912 : decode cL_law 912 = .ok (.iload 4, 2) := dc_21 (dc_bv 21 (by decide) ((lg_14 16).trans rfl)) (dc_bv 4 (by decide) ((lg_14 17).trans rfl))
theorem dL_law_914 : decode cL_law 914 = .ok (.iconst 1, 1) := dc_4 (dc_bv 4 (by decide) ((lg_14 18).trans rfl))
theorem dL_law_915 : decode cL_law 915 = .ok (.iadd, 1) := dc_96 (dc_bv 96 (by decide) ((lg_14 19).trans rfl))
theorem dL_law_916 : decode cL_law 916 = .ok (.iaload, 1) := dc_46 (dc_bv 46 (by decide) ((lg_14 20).trans rfl))
theorem dL_law_917 : decode cL_law 917 = .ok (.invokevirtual 189, 3) := dc_182 (dc_bv 182 (by decide) ((lg_14 21).trans rfl)) (dc_bv 0 (by decide) ((lg_14 22).trans rfl)) (dc_bv 189 (by decide) ((lg_14 23).trans rfl))
theorem dL_law_920 : decode cL_law 920 = .ok (.istore 6, 2) := dc_54 (dc_bv 54 (by decide) ((lg_14 24).trans rfl)) (dc_bv 6 (by decide) ((lg_14 25).trans rfl))
theorem dL_law_922 : decode cL_law 922 = .ok (.aload_n 2, 1) := dc_44 (dc_bv 44 (by decide) ((lg_14 26).trans rfl))
theorem dL_law_923 : decode cL_law 923 = .ok (.invokevirtual 138, 3) := dc_182 (dc_bv 182 (by decide) ((lg_14 27).trans rfl)) (dc_bv 0 (by decide) ((lg_14 28).trans rfl)) (dc_bv 138 (by decide) ((lg_14 29).trans rfl))
theorem dL_law_926 : decode cL_law 926 = .ok (.iload 5, 2) := dc_21 (dc_bv 21 (by decide) ((lg_14 30).trans rfl)) (dc_bv 5 (by decide) ((lg_14 31).trans rfl))
theorem dL_law_928 : decode cL_law 928 = .ok (.if_icmp .eq 5, 3) := dc_159 (dc_bv 159 (by decide) ((lg_14 32).trans rfl)) (dc_bv 0 (by decide) ((lg_14 33).trans rfl)) (dc_bv 5 (by decide) ((lg_14 34).trans rfl))
theorem dL_law_931 : decode cL_law 931 = .ok (.iconst 0, 1) := dc_3 (dc_bv 3 (by decide) ((lg_14 35).trans rfl))
theorem dL_law_932 : decode cL_law 932 = .ok (.ireturn, 1) := dc_172 (dc_bv 172 (by decide) ((lg_14 36).trans rfl))
theorem dL_law_933 : decode cL_law 933 = .ok (.iload 5, 2) := dc_21 (dc_bv 21 (by decide) ((lg_14 37).trans rfl)) (dc_bv 5 (by decide) ((lg_14 38).trans rfl))
theorem dL_law_935 : decode cL_law 935 = .ok (.ifCond .ne 15, 3) := dc_154 (dc_bv 154 (by decide) ((lg_14 39).trans rfl)) (dc_bv 0 (by decide) ((lg_14 40).trans rfl)) (dc_bv 15 (by decide) ((lg_14 41).trans rfl))
theorem dL_law_938 : decode cL_law 938 = .ok (.aload_n 3, 1) := dc_45 (dc_bv 45 (by decide) ((lg_14 42).trans rfl))
theorem dL_law_939 : decode cL_law 939 = .ok (.iconst 0, 1) := dc_3 (dc_bv 3 (by decide) ((lg_14 43).trans rfl))
theorem dL_law_940 : decode cL_law 940 = .ok (.laload, 1) := dc_47 (dc_bv 47 (by decide) ((lg_14 44).trans rfl))
theorem dL_law_941 : decode cL_law 941 = .ok (.iload 6, 2) := dc_21 (dc_bv 21 (by decide) ((lg_14 45).trans rfl)) (dc_bv 6 (by decide) ((lg_14 46).trans rfl))
theorem dL_law_943 : decode cL_law 943 = .ok (.i2l, 1) := dc_133 (dc_bv 133 (by decide) ((lg_14 47).trans rfl))
theorem dL_law_944 : decode cL_law 944 = .ok (.lcmp, 1) := dc_148 (dc_bv 148 (by decide) ((lg_14 48).trans rfl))
theorem dL_law_945 : decode cL_law 945 = .ok (.ifCond .eq 5, 3) := dc_153 (dc_bv 153 (by decide) ((lg_14 49).trans rfl)) (dc_bv 0 (by decide) ((lg_14 50).trans rfl)) (dc_bv 5 (by decide) ((lg_14 51).trans rfl))
theorem dL_law_948 : decode cL_law 948 = .ok (.iconst 0, 1) := dc_3 (dc_bv 3 (by decide) ((lg_14 52).trans rfl))
theorem dL_law_949 : decode cL_law 949 = .ok (.ireturn, 1) := dc_172 (dc_bv 172 (by decide) ((lg_14 53).trans rfl))
theorem dL_law_950 : decode cL_law 950 = .ok (.goto 1686, 3) := dc_167 (dc_bv 167 (by decide) ((lg_14 54).trans rfl)) (dc_bv 6 (by decide) ((lg_14 55).trans rfl)) (dc_bv 150 (by decide) ((lg_14 56).trans rfl))
theorem dL_law_953 : decode cL_law 953 = .ok (.aload_n 1, 1) := dc_43 (dc_bv 43 (by decide) ((lg_14 57).trans rfl))
theorem dL_law_954 : decode cL_law 954 = .ok (.aload_n 0, 1) := dc_42 (dc_bv 42 (by decide) ((lg_14 58).trans rfl))
theorem dL_law_955 : decode cL_law 955 = .ok (.iload 4, 2) := dc_21 (dc_bv 21 (by decide) ((lg_14 59).trans rfl)) (dc_bv 4 (by decide) ((lg_14 60).trans rfl))
theorem dL_law_957 : decode cL_law 957 = .ok (.iconst 1, 1) := dc_4 (dc_bv 4 (by decide) ((lg_14 61).trans rfl))
theorem dL_law_958 : decode cL_law 958 = .ok (.iadd, 1) := dc_96 (dc_bv 96 (by decide) ((lg_14 62).trans rfl))
theorem dL_law_959 : decode cL_law 959 = .ok (.iaload, 1) := dc_46 (dc_bv 46 (by decide) ((lg_14 63).trans rfl))
theorem dL_law_960 : decode cL_law 960 = .ok (.aload_n 3, 1) := dc_45 (dc_bv 45 (by decide) ((lg_15 0).trans rfl))
theorem dL_law_961 : decode cL_law 961 = .ok (.invokestatic 190, 3) := dc_184 (dc_bv 184 (by decide) ((lg_15 1).trans rfl)) (dc_bv 0 (by decide) ((lg_15 2).trans rfl)) (dc_bv 190 (by decide) ((lg_15 3).trans rfl))
theorem dL_law_964 : decode cL_law 964 = .ok (.istore 5, 2) := dc_54 (dc_bv 54 (by decide) ((lg_15 4).trans rfl)) (dc_bv 5 (by decide) ((lg_15 5).trans rfl))
theorem dL_law_966 : decode cL_law 966 = .ok (.aload_n 2, 1) := dc_44 (dc_bv 44 (by decide) ((lg_15 6).trans rfl))
theorem dL_law_967 : decode cL_law 967 = .ok (.aload_n 0, 1) := dc_42 (dc_bv 42 (by decide) ((lg_15 7).trans rfl))
theorem dL_law_968 : decode cL_law 968 = .ok (.iload 4, 2) := dc_21 (dc_bv 21 (by decide) ((lg_15 8).trans rfl)) (dc_bv 4 (by decide) ((lg_15 9).trans rfl))
theorem dL_law_970 : decode cL_law 970 = .ok (.iconst 1, 1) := dc_4 (dc_bv 4 (by decide) ((lg_15 10).trans rfl))
theorem dL_law_971 : decode cL_law 971 = .ok (.iadd, 1) := dc_96 (dc_bv 96 (by decide) ((lg_15 11).trans rfl))
theorem dL_law_972 : decode cL_law 972 = .ok (.iaload, 1) := dc_46 (dc_bv 46 (by decide) ((lg_15 12).trans rfl))
theorem dL_law_973 : decode cL_law 973 = .ok (.invokevirtual 192, 3) := dc_182 (dc_bv 182 (by decide) ((lg_15 13).trans rfl)) (dc_bv 0 (by decide) ((lg_15 14).trans rfl)) (dc_bv 192 (by decide) ((lg_15 15).trans rfl))
theorem dL_law_976 : decode cL_law 976 = .ok (.istore 6, 2) := dc_54 (dc_bv 54 (by decide) ((lg_15 16).trans rfl)) (dc_bv 6 (by decide) ((lg_15 17).trans rfl))
theorem dL_law_978 : decode cL_law 978 = .ok (.aload_n 2, 1) := dc_44 (dc_bv 44 (by decide) ((lg_15 18).trans rfl))
theorem dL_law_979 : decode cL_law 979 = .ok (.invokevirtual 138, 3) := dc_182 (dc_bv 182 (by decide) ((lg_15 19).trans rfl)) (dc_bv 0 (by decide) ((lg_15 20).trans rfl)) (dc_bv 138 (by decide) ((lg_15 21).trans rfl))
theorem dL_law_982 : decode cL_law 982 = .ok (.iload 5, 2) := dc_21 (dc_bv 21 (by decide) ((lg_15 22).trans rfl)) (dc_bv 5 (by decide) ((lg_15 23).trans rfl))
theorem dL_law_984 : decode cL_law 984 = .ok (.if_icmp .eq 5, 3) := dc_159 (dc_bv 159 (by decide) ((lg_15 24).trans rfl)) (dc_bv 0 (by decide) ((lg_15 25).trans rfl)) (dc_bv 5 (by decide) ((lg_15 26).trans rfl))
theorem dL_law_987 : decode cL_law 987 = .ok (.iconst 0, 1) := dc_3 (dc_bv 3 (by decide) ((lg_15 27).trans rfl))
theorem dL_law_988 : decode cL_law 988 = .ok (.ireturn, 1) := dc_172 (dc_bv 172 (by decide) ((lg_15 28).trans rfl))
theorem dL_law_989 : decode cL_law 989 = .ok (.iload 5, 2) := dc_21 (dc_bv 21 (by decide) ((lg_15 29).trans rfl)) (dc_bv 5 (by decide) ((lg_15 30).trans rfl))
theorem dL_law_991 : decode cL_law 991 = .ok (.ifCond .ne 15, 3) := dc_154 (dc_bv 154 (by decide) ((lg_15 31).trans rfl)) (dc_bv 0 (by decide) ((lg_15 32).trans rfl)) (dc_bv 15 (by decide) ((lg_15 33).trans rfl))
theorem dL_law_994 : decode cL_law 994 = .ok (.aload_n 3, 1) := dc_45 (dc_bv 45 (by decide) ((lg_15 34).trans rfl))
theorem dL_law_995 : decode cL_law 995 = .ok (.iconst 0, 1) := dc_3 (dc_bv 3 (by decide) ((lg_15 35).trans rfl))
theorem dL_law_996 : decode cL_law 996 = .ok (.laload, 1) := dc_47 (dc_bv 47 (by decide) ((lg_15 36).trans rfl))
theorem dL_law_997 : decode cL_law 997 = .ok (.iload 6, 2) := dc_21 (dc_bv 21 (by decide) ((lg_15 37).trans rfl)) (dc_bv 6 (by decide) ((lg_15 38).trans rfl))
theorem dL_law_999 : decode cL_law 999 = .ok (.i2l, 1) := dc_133 (dc_bv 133 (by decide) ((lg_15 39).trans rfl))
theorem dL_law_1000 : decode cL_law 1000 = .ok (.lcmp, 1) := dc_148 (dc_bv 148 (by decide) ((lg_15 40).trans rfl))
theorem dL_law_1001 : decode cL_law 1001 = .ok (.ifCond .eq 5, 3) := dc_153 (dc_bv 153 (by decide) ((lg_15 41).trans rfl)) (dc_bv 0 (by decide) ((lg_15 42).trans rfl)) (dc_bv 5 (by decide) ((lg_15 43).trans rfl))
theorem dL_law_1004 : decode cL_law 1004 = .ok (.iconst 0, 1) := dc_3 (dc_bv 3 (by decide) ((lg_15 44).trans rfl))
theorem dL_law_1005 : decode cL_law 1005 = .ok (.ireturn, 1) := dc_172 (dc_bv 172 (by decide) ((lg_15 45).trans rfl))
theorem dL_law_1006 : decode cL_law 1006 = .ok (.goto 1630, 3) := dc_167 (dc_bv 167 (by decide) ((lg_15 46).trans rfl)) (dc_bv 6 (by decide) ((lg_15 47).trans rfl)) (dc_bv 94 (by decide) ((lg_15 48).trans rfl))
theorem dL_law_1009 : decode cL_law 1009 = .ok (.aload_n 1, 1) := dc_43 (dc_bv 43 (by decide) ((lg_15 49).trans rfl))
theorem dL_law_1010 : decode cL_law 1010 = .ok (.aload_n 0, 1) := dc_42 (dc_bv 42 (by decide) ((lg_15 50).trans rfl))
theorem dL_law_1011 : decode cL_law 1011 = .ok (.iload 4, 2) := dc_21 (dc_bv 21 (by decide) ((lg_15 51).trans rfl)) (dc_bv 4 (by decide) ((lg_15 52).trans rfl))
theorem dL_law_1013 : decode cL_law 1013 = .ok (.iconst 1, 1) := dc_4 (dc_bv 4 (by decide) ((lg_15 53).trans rfl))
theorem dL_law_1014 : decode cL_law 1014 = .ok (.iadd, 1) := dc_96 (dc_bv 96 (by decide) ((lg_15 54).trans rfl))
theorem dL_law_1015 : decode cL_law 1015 = .ok (.iaload, 1) := dc_46 (dc_bv 46 (by decide) ((lg_15 55).trans rfl))
theorem dL_law_1016 : decode cL_law 1016 = .ok (.aload_n 3, 1) := dc_45 (dc_bv 45 (by decide) ((lg_15 56).trans rfl))
theorem dL_law_1017 : decode cL_law 1017 = .ok (.invokestatic 193, 3) := dc_184 (dc_bv 184 (by decide) ((lg_15 57).trans rfl)) (dc_bv 0 (by decide) ((lg_15 58).trans rfl)) (dc_bv 193 (by decide) ((lg_15 59).trans rfl))
theorem dL_law_1020 : decode cL_law 1020 = .ok (.istore 5, 2) := dc_54 (dc_bv 54 (by decide) ((lg_15 60).trans rfl)) (dc_bv 5 (by decide) ((lg_15 61).trans rfl))
theorem dL_law_1022 : decode cL_law 1022 = .ok (.aload_n 2, 1) := dc_44 (dc_bv 44 (by decide) ((lg_15 62).trans rfl))
theorem dL_law_1023 : decode cL_law 1023 = .ok (.aload_n 0, 1) := dc_42 (dc_bv 42 (by decide) ((lg_15 63).trans rfl))
theorem dL_law_1024 : decode cL_law 1024 = .ok (.iload 4, 2) := dc_21 (dc_bv 21 (by decide) ((lg_16 0).trans rfl)) (dc_bv 4 (by decide) ((lg_16 1).trans rfl))
theorem dL_law_1026 : decode cL_law 1026 = .ok (.iconst 1, 1) := dc_4 (dc_bv 4 (by decide) ((lg_16 2).trans rfl))
theorem dL_law_1027 : decode cL_law 1027 = .ok (.iadd, 1) := dc_96 (dc_bv 96 (by decide) ((lg_16 3).trans rfl))
theorem dL_law_1028 : decode cL_law 1028 = .ok (.iaload, 1) := dc_46 (dc_bv 46 (by decide) ((lg_16 4).trans rfl))
theorem dL_law_1029 : decode cL_law 1029 = .ok (.invokevirtual 195, 3) := dc_182 (dc_bv 182 (by decide) ((lg_16 5).trans rfl)) (dc_bv 0 (by decide) ((lg_16 6).trans rfl)) (dc_bv 195 (by decide) ((lg_16 7).trans rfl))
theorem dL_law_1032 : decode cL_law 1032 = .ok (.istore 6, 2) := dc_54 (dc_bv 54 (by decide) ((lg_16 8).trans rfl)) (dc_bv 6 (by decide) ((lg_16 9).trans rfl))
theorem dL_law_1034 : decode cL_law 1034 = .ok (.aload_n 2, 1) := dc_44 (dc_bv 44 (by decide) ((lg_16 10).trans rfl))
theorem dL_law_1035 : decode cL_law 1035 = .ok (.invokevirtual 138, 3) := dc_182 (dc_bv 182 (by decide) ((lg_16 11).trans rfl)) (dc_bv 0 (by decide) ((lg_16 12).trans rfl)) (dc_bv 138 (by decide) ((lg_16 13).trans rfl))
theorem dL_law_1038 : decode cL_law 1038 = .ok (.iload 5, 2) := dc_21 (dc_bv 21 (by decide) ((lg_16 14).trans rfl)) (dc_bv 5 (by decide) ((lg_16 15).trans rfl))
theorem dL_law_1040 : decode cL_law 1040 = .ok (.if_icmp .eq 5, 3) := dc_159 (dc_bv 159 (by decide) ((lg_16 16).trans rfl)) (dc_bv 0 (by decide) ((lg_16 17).trans rfl)) (dc_bv 5 (by decide) ((lg_16 18).trans rfl))
theorem dL_law_1043 : decode cL_law 1043 = .ok (.iconst 0, 1) := dc_3 (dc_bv 3 (by decide) ((lg_16 19).trans rfl))
theorem dL_law_1044 : decode cL_law 1044 = .ok (.ireturn, 1) := dc_172 (dc_bv 172 (by decide) ((lg_16 20).trans rfl))
theorem dL_law_1045 : decode cL_law 1045 = .ok (.iload 5, 2) := dc_21 (dc_bv 21 (by decide) ((lg_16 21).trans rfl)) (dc_bv 5 (by decide) ((lg_16 22).trans rfl))
theorem dL_law_1047 : decode cL_law 1047 = .ok (.ifCond .ne 15, 3) := dc_154 (dc_bv 154 (by decide) ((lg_16 23).trans rfl)) (dc_bv 0 (by decide) ((lg_16 24).trans rfl)) (dc_bv 15 (by decide) ((lg_16 25).trans rfl))
theorem dL_law_1050 : decode cL_law 1050 = .ok (.aload_n 3, 1) := dc_45 (dc_bv 45 (by decide) ((lg_16 26).trans rfl))
theorem dL_law_1051 : decode cL_law 1051 = .ok (.iconst 0, 1) := dc_3 (dc_bv 3 (by decide) ((lg_16 27).trans rfl))
theorem dL_law_1052 : decode cL_law 1052 = .ok (.laload, 1) := dc_47 (dc_bv 47 (by decide) ((lg_16 28).trans rfl))
theorem dL_law_1053 : decode cL_law 1053 = .ok (.iload 6, 2) := dc_21 (dc_bv 21 (by decide) ((lg_16 29).trans rfl)) (dc_bv 6 (by decide) ((lg_16 30).trans rfl))
theorem dL_law_1055 : decode cL_law 1055 = .ok (.i2l, 1) := dc_133 (dc_bv 133 (by decide) ((lg_16 31).trans rfl))
theorem dL_law_1056 : decode cL_law 1056 = .ok (.lcmp, 1) := dc_148 (dc_bv 148 (by decide) ((lg_16 32).trans rfl))
theorem dL_law_1057 : decode cL_law 1057 = .ok (.ifCond .eq 5, 3) := dc_153 (dc_bv 153 (by decide) ((lg_16 33).trans rfl)) (dc_bv 0 (by decide) ((lg_16 34).trans rfl)) (dc_bv 5 (by decide) ((lg_16 35).trans rfl))
theorem dL_law_1060 : decode cL_law 1060 = .ok (.iconst 0, 1) := dc_3 (dc_bv 3 (by decide) ((lg_16 36).trans rfl))
theorem dL_law_1061 : decode cL_law 1061 = .ok (.ireturn, 1) := dc_172 (dc_bv 172 (by decide) ((lg_16 37).trans rfl))
theorem dL_law_1062 : decode cL_law 1062 = .ok (.goto 1574, 3) := dc_167 (dc_bv 167 (by decide) ((lg_16 38).trans rfl)) (dc_bv 6 (by decide) ((lg_16 39).trans rfl)) (dc_bv 38 (by decide) ((lg_16 40).trans rfl))
theorem dL_law_1065 : decode cL_law 1065 = .ok (.aload_n 1, 1) := dc_43 (dc_bv 43 (by decide) ((lg_16 41).trans rfl))
theorem dL_law_1066 : decode cL_law 1066 = .ok (.aload_n 0, 1) := dc_42 (dc_bv 42 (by decide) ((lg_16 42).trans rfl))
theorem dL_law_1067 : decode cL_law 1067 = .ok (.iload 4, 2) := dc_21 (dc_bv 21 (by decide) ((lg_16 43).trans rfl)) (dc_bv 4 (by decide) ((lg_16 44).trans rfl))
theorem dL_law_1069 : decode cL_law 1069 = .ok (.iconst 1, 1) := dc_4 (dc_bv 4 (by decide) ((lg_16 45).trans rfl))
theorem dL_law_1070 : decode cL_law 1070 = .ok (.iadd, 1) := dc_96 (dc_bv 96 (by decide) ((lg_16 46).trans rfl))
theorem dL_law_1071 : decode cL_law 1071 = .ok (.iaload, 1) := dc_46 (dc_bv 46 (by decide) ((lg_16 47).trans rfl))
theorem dL_law_1072 : decode cL_law 1072 = .ok (.aload_n 3, 1) := dc_45 (dc_bv 45 (by decide) ((lg_16 48).trans rfl))
theorem dL_law_1073 : decode cL_law 1073 = .ok (.invokestatic 196, 3) := dc_184 (dc_bv 184 (by decide) ((lg_16 49).trans rfl)) (dc_bv 0 (by decide) ((lg_16 50).trans rfl)) (dc_bv 196 (by decide) ((lg_16 51).trans rfl))
theorem dL_law_1076 : decode cL_law 1076 = .ok (.istore 5, 2) := dc_54 (dc_bv 54 (by decide) ((lg_16 52).trans rfl)) (dc_bv 5 (by decide) ((lg_16 53).trans rfl))
theorem dL_law_1078 : decode cL_law 1078 = .ok (.aload_n 2, 1) := dc_44 (dc_bv 44 (by decide) ((lg_16 54).trans rfl))
theorem dL_law_1079 : decode cL_law 1079 = .ok (.aload_n 0, 1) := dc_42 (dc_bv 42 (by decide) ((lg_16 55).trans rfl))
theorem dL_law_1080 : decode cL_law 1080 = .ok (.iload 4, 2) := dc_21 (dc_bv 21 (by decide) ((lg_16 56).trans rfl)) (dc_bv 4 (by decide) ((lg_16 57).trans rfl))
theorem dL_law_1082 : decode cL_law 1082 = .ok (.iconst 1, 1) := dc_4 (dc_bv 4 (by decide) ((lg_16 58).trans rfl))
theorem dL_law_1083 : decode cL_law 1083 = .ok (.iadd, 1) := dc_96 (dc_bv 96 (by decide) ((lg_16 59).trans rfl))
theorem dL_law_1084 : decode cL_law 1084 = .ok (.iaload, 1) := dc_46 (dc_bv 46 (by decide) ((lg_16 60).trans rfl))
theorem dL_law_1085 : decode cL_law 1085 = .ok (.invokevirtual 198, 3) := dc_182 (dc_bv 182 (by decide) ((lg_16 61).trans rfl)) (dc_bv 0 (by decide) ((lg_16 62).trans rfl)) (dc_bv 198 (by decide) ((lg_16 63).trans rfl))
theorem dL_law_1088 : decode cL_law 1088 = .ok (.istore 6, 2) := dc_54 (dc_bv 54 (by decide) ((lg_17 0).trans rfl)) (dc_bv 6 (by decide) ((lg_17 1).trans rfl))
theorem dL_law_1090 : decode cL_law 1090 = .ok (.aload_n 2, 1) := dc_44 (dc_bv 44 (by decide) ((lg_17 2).trans rfl))
theorem dL_law_1091 : decode cL_law 1091 = .ok (.invokevirtual 138, 3) := dc_182 (dc_bv 182 (by decide) ((lg_17 3).trans rfl)) (dc_bv 0 (by decide) ((lg_17 4).trans rfl)) (dc_bv 138 (by decide) ((lg_17 5).trans rfl))
theorem dL_law_1094 : decode cL_law 1094 = .ok (.iload 5, 2) := dc_21 (dc_bv 21 (by decide) ((lg_17 6).trans rfl)) (dc_bv 5 (by decide) ((lg_17 7).trans rfl))
theorem dL_law_1096 : decode cL_law 1096 = .ok (.if_icmp .eq 5, 3) := dc_159 (dc_bv 159 (by decide) ((lg_17 8).trans rfl)) (dc_bv 0 (by decide) ((lg_17 9).trans rfl)) (dc_bv 5 (by decide) ((lg_17 10).trans rfl))
theorem dL_law_1099 : decode cL_law 1099 = .ok (.iconst 0, 1) := dc_3 (dc_bv 3 (by decide) ((lg_17 11).trans rfl))
theorem dL_law_1100 : decode cL_law 1100 = .ok (.ireturn, 1) := dc_172 (dc_bv 172 (by decide) ((lg_17 12).trans rfl))
theorem dL_law_1101 : decode cL_law 1101 = .ok (.iload 5, 2) := dc_21 (dc_bv 21 (by decide) ((lg_17 13).trans rfl)) (dc_bv 5 (by decide) ((lg_17 14).trans rfl))
theorem dL_law_1103 : decode cL_law 1103 = .ok (.ifCond .ne 22, 3) := dc_154 (dc_bv 154 (by decide) ((lg_17 15).trans rfl)) (dc_bv 0 (by decide) ((lg_17 16).trans rfl)) (dc_bv 22 (by decide) ((lg_17 17).trans rfl))
theorem dL_law_1106 : decode cL_law 1106 = .ok (.aload_n 3, 1) := dc_45 (dc_bv 45 (by decide) ((lg_17 18).trans rfl))
theorem dL_law_1107 : decode cL_law 1107 = .ok (.iconst 0, 1) := dc_3 (dc_bv 3 (by decide) ((lg_17 19).trans rfl))
theorem dL_law_1108 : decode cL_law 1108 = .ok (.laload, 1) := dc_47 (dc_bv 47 (by decide) ((lg_17 20).trans rfl))
theorem dL_law_1109 : decode cL_law 1109 = .ok (.iload 6, 2) := dc_21 (dc_bv 21 (by decide) ((lg_17 21).trans rfl)) (dc_bv 6 (by decide) ((lg_17 22).trans rfl))
theorem dL_law_1111 : decode cL_law 1111 = .ok (.ifCond .eq 7, 3) := dc_153 (dc_bv 153 (by decide) ((lg_17 23).trans rfl)) (dc_bv 0 (by decide) ((lg_17 24).trans rfl)) (dc_bv 7 (by decide) ((lg_17 25).trans rfl))
theorem dL_law_1114 : decode cL_law 1114 = .ok (.lconst 1, 1) := dc_10 (dc_bv 10 (by decide) ((lg_17 26).trans rfl))
theorem dL_law_1115 : decode cL_law 1115 = .ok (.goto 4, 3) := dc_167 (dc_bv 167 (by decide) ((lg_17 27).trans rfl)) (dc_bv 0 (by decide) ((lg_17 28).trans rfl)) (dc_bv 4 (by decide) ((lg_17 29).trans rfl))
theorem dL_law_1118 : decode cL_law 1118 = .ok (.lconst 0, 1) := dc_9 (dc_bv 9 (by decide) ((lg_17 30).trans rfl))
theorem dL_law_1119 : decode cL_law 1119 = .ok (.lcmp, 1) := dc_148 (dc_bv 148 (by decide) ((lg_17 31).trans rfl))
theorem dL_law_1120 : decode cL_law 1120 = .ok (.ifCond .eq 5, 3) := dc_153 (dc_bv 153 (by decide) ((lg_17 32).trans rfl)) (dc_bv 0 (by decide) ((lg_17 33).trans rfl)) (dc_bv 5 (by decide) ((lg_17 34).trans rfl))
theorem dL_law_1123 : decode cL_law 1123 = .ok (.iconst 0, 1) := dc_3 (dc_bv 3 (by decide) ((lg_17 35).trans rfl))
theorem dL_law_1124 : decode cL_law 1124 = .ok (.ireturn, 1) := dc_172 (dc_bv 172 (by decide) ((lg_17 36).trans rfl))
theorem dL_law_1125 : decode cL_law 1125 = .ok (.goto 1511, 3) := dc_167 (dc_bv 167 (by decide) ((lg_17 37).trans rfl)) (dc_bv 5 (by decide) ((lg_17 38).trans rfl)) (dc_bv 231 (by decide) ((lg_17 39).trans rfl))
theorem dL_law_1128 : decode cL_law 1128 = .ok (.aload_n 1, 1) := dc_43 (dc_bv 43 (by decide) ((lg_17 40).trans rfl))
theorem dL_law_1129 : decode cL_law 1129 = .ok (.aload_n 0, 1) := dc_42 (dc_bv 42 (by decide) ((lg_17 41).trans rfl))
theorem dL_law_1130 : decode cL_law 1130 = .ok (.iload 4, 2) := dc_21 (dc_bv 21 (by decide) ((lg_17 42).trans rfl)) (dc_bv 4 (by decide) ((lg_17 43).trans rfl))
theorem dL_law_1132 : decode cL_law 1132 = .ok (.iconst 1, 1) := dc_4 (dc_bv 4 (by decide) ((lg_17 44).trans rfl))
theorem dL_law_1133 : decode cL_law 1133 = .ok (.iadd, 1) := dc_96 (dc_bv 96 (by decide) ((lg_17 45).trans rfl))
theorem dL_law_1134 : decode cL_law 1134 = .ok (.iaload, 1) := dc_46 (dc_bv 46 (by decide) ((lg_17 46).trans rfl))
theorem dL_law_1135 : decode cL_law 1135 = .ok (.aload_n 0, 1) := dc_42 (dc_bv 42 (by decide) ((lg_17 47).trans rfl))
theorem dL_law_1136 : decode cL_law 1136 = .ok (.iload 4, 2) := dc_21 (dc_bv 21 (by decide) ((lg_17 48).trans rfl)) (dc_bv 4 (by decide) ((lg_17 49).trans rfl))
theorem dL_law_1138 : decode cL_law 1138 = .ok (.iconst 2, 1) := dc_5 (dc_bv 5 (by decide) ((lg_17 50).trans rfl))
theorem dL_law_1139 : decode cL_law 1139 = .ok (.iadd, 1) := dc_96 (dc_bv 96 (by decide) ((lg_17 51).trans rfl))
theorem dL_law_1140 : decode cL_law 1140 = .ok (.iaload, 1) := dc_46 (dc_bv 46 (by decide) ((lg_17 52).trans rfl))
theorem dL_law_1141 : decode cL_law 1141 = .ok (.ifCond .eq 7, 3) := dc_153 (dc_bv 153 (by decide) ((lg_17 53).trans rfl)) (dc_bv 0 (by decide) ((lg_17 54).trans rfl)) (dc_bv 7 (by decide) ((lg_17 55).trans rfl))
theorem dL_law_1144 : decode cL_law 1144 = .ok (.iconst 1, 1) := dc_4 (dc_bv 4 (by decide) ((lg_17 56).trans rfl))
theorem dL_law_1145 : decode cL_law 1145 = .ok (.goto 4, 3) := dc_167 (dc_bv 167 (by decide) ((lg_17 57).trans rfl)) (dc_bv 0 (by decide) ((lg_17 58).trans rfl)) (dc_bv 4 (by decide) ((lg_17 59).trans rfl))
theorem dL_law_1148 : decode cL_law 1148 = .ok (.iconst 0, 1) := dc_3 (dc_bv 3 (by decide) ((lg_17 60).trans rfl))
theorem dL_law_1149 : decode cL_law 1149 = .ok (.aload_n 3, 1) := dc_45 (dc_bv 45 (by decide) ((lg_17 61).trans rfl))
theorem dL_law_1150 : decode cL_law 1150 = .ok (.invokestatic 199, 3) := dc_184 (dc_bv 184 (by decide) ((lg_17 62).trans rfl)) (dc_bv 0 (by decide) ((lg_17 63).trans rfl)) (dc_bv 199 (by decide) ((lg_18 0).trans rfl))
theorem dL_law_1153 : decode cL_law 1153 = .ok (.istore 5, 2) := dc_54 (dc_bv 54 (by decide) ((lg_18 1).trans rfl)) (dc_bv 5 (by decide) ((lg_18 2).trans rfl))
theorem dL_law_1155 : decode cL_law 1155 = .ok (.aload_n 2, 1) := dc_44 (dc_bv 44 (by decide) ((lg_18 3).trans rfl))
theorem dL_law_1156 : decode cL_law 1156 = .ok (.aload_n 0, 1) := dc_42 (dc_bv 42 (by decide) ((lg_18 4).trans rfl))
theorem dL_law_1157 : decode cL_law 1157 = .ok (.iload 4, 2) := dc_21 (dc_bv 21 (by decide) ((lg_18 5).trans rfl)) (dc_bv 4 (by decide) ((lg_18 6).trans rfl))
theorem dL_law_1159 : decode cL_law 1159 = .ok (.iconst 1, 1) := dc_4 (dc_bv 4 (by decide) ((lg_18 7).trans rfl))
theorem dL_law_1160 : decode cL_law 1160 = .ok (.iadd, 1) := dc_96 (dc_bv 96 (by decide) ((lg_18 8).trans rfl))
theorem dL_law_1161 : decode cL_law 1161 = .ok (.iaload, 1) := dc_46 (dc_bv 46 (by decide) ((lg_18 9).trans rfl))
theorem dL_law_1162 : decode cL_law 1162 = .ok (.aload_n 0, 1) := dc_42 (dc_bv 42 (by decide) ((lg_18 10).trans rfl))
theorem dL_law_1163 : decode cL_law 1163 = .ok (.iload 4, 2) := dc_21 (dc_bv 21 (by decide) ((lg_18 11).trans rfl)) (dc_bv 4 (by decide) ((lg_18 12).trans rfl))
theorem dL_law_1165 : decode cL_law 1165 = .ok (.iconst 2, 1) := dc_5 (dc_bv 5 (by decide) ((lg_18 13).trans rfl))
theorem dL_law_1166 : decode cL_law 1166 = .ok (.iadd, 1) := dc_96 (dc_bv 96 (by decide) ((lg_18 14).trans rfl))
theorem dL_law_1167 : decode cL_law 1167 = .ok (.iaload, 1) := dc_46 (dc_bv 46 (by decide) ((lg_18 15).trans rfl))
theorem dL_law_1168 : decode cL_law 1168 = .ok (.ifCond .eq 7, 3) := dc_153 (dc_bv 153 (by decide) ((lg_18 16).trans rfl)) (dc_bv 0 (by decide) ((lg_18 17).trans rfl)) (dc_bv 7 (by decide) ((lg_18 18).trans rfl))
theorem dL_law_1171 : decode cL_law 1171 = .ok (.iconst 1, 1) := dc_4 (dc_bv 4 (by decide) ((lg_18 19).trans rfl))
theorem dL_law_1172 : decode cL_law 1172 = .ok (.goto 4, 3) := dc_167 (dc_bv 167 (by decide) ((lg_18 20).trans rfl)) (dc_bv 0 (by decide) ((lg_18 21).trans rfl)) (dc_bv 4 (by decide) ((lg_18 22).trans rfl))
theorem dL_law_1175 : decode cL_law 1175 = .ok (.iconst 0, 1) := dc_3 (dc_bv 3 (by decide) ((lg_18 23).trans rfl))
theorem dL_law_1176 : decode cL_law 1176 = .ok (.invokevirtual 202, 3) := dc_182 (dc_bv 182 (by decide) ((lg_18 24).trans rfl)) (dc_bv 0 (by decide) ((lg_18 25).trans rfl)) (dc_bv 202 (by decide) ((lg_18 26).trans rfl))
theorem dL_law_1179 : decode cL_law 1179 = .ok (.istore 6, 2) := dc_54 (dc_bv 54 (by decide) ((lg_18 27).trans rfl)) (dc_bv 6 (by decide) ((lg_18 28).trans rfl))
theorem dL_law_1181 : decode cL_law 1181 = .ok (.aload_n 2, 1) := dc_44 (dc_bv 44 (by decide) ((lg_18 29).trans rfl))
theorem dL_law_1182 : decode cL_law 1182 = .ok (.invokevirtual 138, 3) := dc_182 (dc_bv 182 (by decide) ((lg_18 30).trans rfl)) (dc_bv 0 (by decide) ((lg_18 31).trans rfl)) (dc_bv 138 (by decide) ((lg_18 32).trans rfl))
theorem dL_law_1185 : decode cL_law 1185 = .ok (.iload 5, 2) := dc_21 (dc_bv 21 (by decide) ((lg_18 33).trans rfl)) (dc_bv 5 (by decide) ((lg_18 34).trans rfl))
theorem dL_law_1187 : decode cL_law 1187 = .ok (.if_icmp .eq 5, 3) := dc_159 (dc_bv 159 (by decide) ((lg_18 35).trans rfl)) (dc_bv 0 (by decide) ((lg_18 36).trans rfl)) (dc_bv 5 (by decide) ((lg_18 37).trans rfl))
theorem dL_law_1190 : decode cL_law 1190 = .ok (.iconst 0, 1) := dc_3 (dc_bv 3 (by decide) ((lg_18 38).trans rfl))
theorem dL_law_1191 : decode cL_law 1191 = .ok (.ireturn, 1) := dc_172 (dc_bv 172 (by decide) ((lg_18 39).trans rfl))
theorem dL_law_1192 : decode cL_law 1192 = .ok (.iload 5, 2) := dc_21 (dc_bv 21 (by decide) ((lg_18 40).trans rfl)) (dc_bv 5 (by decide) ((lg_18 41).trans rfl))
theorem dL_law_1194 : decode cL_law 1194 = .ok (.ifCond .ne 15, 3) := dc_154 (dc_bv 154 (by decide) ((lg_18 42).trans rfl)) (dc_bv 0 (by decide) ((lg_18 43).trans rfl)) (dc_bv 15 (by decide) ((lg_18 44).trans rfl))
theorem dL_law_1197 : decode cL_law 1197 = .ok (.aload_n 3, 1) := dc_45 (dc_bv 45 (by decide) ((lg_18 45).trans rfl))
theorem dL_law_1198 : decode cL_law 1198 = .ok (.iconst 0, 1) := dc_3 (dc_bv 3 (by decide) ((lg_18 46).trans rfl))
theorem dL_law_1199 : decode cL_law 1199 = .ok (.laload, 1) := dc_47 (dc_bv 47 (by decide) ((lg_18 47).trans rfl))
theorem dL_law_1200 : decode cL_law 1200 = .ok (.iload 6, 2) := dc_21 (dc_bv 21 (by decide) ((lg_18 48).trans rfl)) (dc_bv 6 (by decide) ((lg_18 49).trans rfl))
theorem dL_law_1202 : decode cL_law 1202 = .ok (.i2l, 1) := dc_133 (dc_bv 133 (by decide) ((lg_18 50).trans rfl))
theorem dL_law_1203 : decode cL_law 1203 = .ok (.lcmp, 1) := dc_148 (dc_bv 148 (by decide) ((lg_18 51).trans rfl))
theorem dL_law_1204 : decode cL_law 1204 = .ok (.ifCond .eq 5, 3) := dc_153 (dc_bv 153 (by decide) ((lg_18 52).trans rfl)) (dc_bv 0 (by decide) ((lg_18 53).trans rfl)) (dc_bv 5 (by decide) ((lg_18 54).trans rfl))
theorem dL_law_1207 : decode cL_law 1207 = .ok (.iconst 0, 1) := dc_3 (dc_bv 3 (by decide) ((lg_18 55).trans rfl))
theorem dL_law_1208 : decode cL_law 1208 = .ok (.ireturn, 1) := dc_172 (dc_bv 172 (by decide) ((lg_18 56).trans rfl))
theorem dL_law_1209 : decode cL_law 1209 = .ok (.goto 1427, 3) := dc_167 (dc_bv 167 (by decide) ((lg_18 57).trans rfl)) (dc_bv 5 (by decide) ((lg_18 58).trans rfl)) (dc_bv 147 (by decide) ((lg_18 59).trans rfl))
theorem dL_law_1212 : decode cL_law 1212 = .ok (.aload_n 1, 1) := dc_43 (dc_bv 43 (by decide) ((lg_18 60).trans rfl))
theorem dL_law_1213 : decode cL_law 1213 = .ok (.aload_n 0, 1) := dc_42 (dc_bv 42 (by decide) ((lg_18 61).trans rfl))
theorem dL_law_1214 : decode cL_law 1214 = .ok (.iload 4, 2) := dc_21 (dc_bv 21 (by decide) ((lg_18 62).trans rfl)) (dc_bv 4 (by decide) ((lg_18 63).trans rfl))
theorem dL_law_1216 : decode cL_law 1216 = .ok (.iconst 1, 1) := dc_4 (dc_bv 4 (by decide) ((lg_19 0).trans rfl))
theorem dL_law_1217 : decode cL_law 1217 = .ok (.iadd, 1) := dc_96 (dc_bv 96 (by decide) ((lg_19 1).trans rfl))
theorem dL_law_1218 : decode cL_law 1218 = .ok (.iaload, 1) := dc_46 (dc_bv 46 (by decide) ((lg_19 2).trans rfl))
theorem dL_law_1219 : decode cL_law 1219 = .ok (.aload_n 0, 1) := dc_42 (dc_bv 42 (by decide) ((lg_19 3).trans rfl))
theorem dL_law_1220 : decode cL_law 1220 = .ok (.iload 4, 2) := dc_21 (dc_bv 21 (by decide) ((lg_19 4).trans rfl)) (dc_bv 4 (by decide) ((lg_19 5).trans rfl))
theorem dL_law_1222 : decode cL_law 1222 = .ok (.iconst 2, 1) := dc_5 (dc_bv 5 (by decide) ((lg_19 6).trans rfl))
theorem dL_law_1223 : decode cL_law 1223 = .ok (.iadd, 1) := dc_96 (dc_bv 96 (by decide) ((lg_19 7).trans rfl))
theorem dL_law_1224 : decode cL_law 1224 = .ok (.iaload, 1) := dc_46 (dc_bv 46 (by decide) ((lg_19 8).trans rfl))
theorem dL_law_1225 : decode cL_law 1225 = .ok (.ifCond .eq 7, 3) := dc_153 (dc_bv 153 (by decide) ((lg_19 9).trans rfl)) (dc_bv 0 (by decide) ((lg_19 10).trans rfl)) (dc_bv 7 (by decide) ((lg_19 11).trans rfl))
theorem dL_law_1228 : decode cL_law 1228 = .ok (.iconst 1, 1) := dc_4 (dc_bv 4 (by decide) ((lg_19 12).trans rfl))
theorem dL_law_1229 : decode cL_law 1229 = .ok (.goto 4, 3) := dc_167 (dc_bv 167 (by decide) ((lg_19 13).trans rfl)) (dc_bv 0 (by decide) ((lg_19 14).trans rfl)) (dc_bv 4 (by decide) ((lg_19 15).trans rfl))
theorem dL_law_1232 : decode cL_law 1232 = .ok (.iconst 0, 1) := dc_3 (dc_bv 3 (by decide) ((lg_19 16).trans rfl))
theorem dL_law_1233 : decode cL_law 1233 = .ok (.aload_n 0, 1) := dc_42 (dc_bv 42 (by decide) ((lg_19 17).trans rfl))
theorem dL_law_1234 : decode cL_law 1234 = .ok (.iload 4, 2) := dc_21 (dc_bv 21 (by decide) ((lg_19 18).trans rfl)) (dc_bv 4 (by decide) ((lg_19 19).trans rfl))
theorem dL_law_1236 : decode cL_law 1236 = .ok (.iconst 3, 1) := dc_6 (dc_bv 6 (by decide) ((lg_19 20).trans rfl))
theorem dL_law_1237 : decode cL_law 1237 = .ok (.iadd, 1) := dc_96 (dc_bv 96 (by decide) ((lg_19 21).trans rfl))
theorem dL_law_1238 : decode cL_law 1238 = .ok (.iaload, 1) := dc_46 (dc_bv 46 (by decide) ((lg_19 22).trans rfl))
theorem dL_law_1239 : decode cL_law 1239 = .ok (.aload_n 3, 1) := dc_45 (dc_bv 45 (by decide) ((lg_19 23).trans rfl))
theorem dL_law_1240 : decode cL_law 1240 = .ok (.invokestatic 203, 3) := dc_184 (dc_bv 184 (by decide) ((lg_19 24).trans rfl)) (dc_bv 0 (by decide) ((lg_19 25).trans rfl)) (dc_bv 203 (by decide) ((lg_19 26).trans rfl))
theorem dL_law_1243 : decode cL_law 1243 = .ok (.istore 5, 2) := dc_54 (dc_bv 54 (by decide) ((lg_19 27).trans rfl)) (dc_bv 5 (by decide) ((lg_19 28).trans rfl))
theorem dL_law_1245 : decode cL_law 1245 = .ok (.aload_n 2, 1) := dc_44 (dc_bv 44 (by decide) ((lg_19 29).trans rfl))
theorem dL_law_1246 : decode cL_law 1246 = .ok (.aload_n 0, 1) := dc_42 (dc_bv 42 (by decide) ((lg_19 30).trans rfl))
theorem dL_law_1247 : decode cL_law 1247 = .ok (.iload 4, 2) := dc_21 (dc_bv 21 (by decide) ((lg_19 31).trans rfl)) (dc_bv 4 (by decide) ((lg_19 32).trans rfl))
theorem dL_law_1249 : decode cL_law 1249 = .ok (.iconst 1, 1) := dc_4 (dc_bv 4 (by decide) ((lg_19 33).trans rfl))
theorem dL_law_1250 : decode cL_law 1250 = .ok (.iadd, 1) := dc_96 (dc_bv 96 (by decide) ((lg_19 34).trans rfl))
theorem dL_law_1251 : decode cL_law 1251 = .ok (.iaload, 1) := dc_46 (dc_bv 46 (by decide) ((lg_19 35).trans rfl))
theorem dL_law_1252 : decode cL_law 1252 = .ok (.aload_n 0, 1) := dc_42 (dc_bv 42 (by decide) ((lg_19 36).trans rfl))
theorem dL_law_1253 : decode cL_law 1253 = .ok (.iload 4, 2) := dc_21 (dc_bv 21 (by decide) ((lg_19 37).trans rfl)) (dc_bv 4 (by decide) ((lg_19 38).trans rfl))
theorem dL_law_1255 : decode cL_law 1255 = .ok (.iconst 2, 1) := dc_5 (dc_bv 5 (by decide) ((lg_19 39).trans rfl))
theorem dL_law_1256 : decode cL_law 1256 = .ok (.iadd, 1) := dc_96 (dc_bv 96 (by decide) ((lg_19 40).trans rfl))
theorem dL_law_1257 : decode cL_law 1257 = .ok (.iaload, 1) := dc_46 (dc_bv 46 (by decide) ((lg_19 41).trans rfl))
theorem dL_law_1258 : decode cL_law 1258 = .ok (.ifCond .eq 7, 3) := dc_153 (dc_bv 153 (by decide) ((lg_19 42).trans rfl)) (dc_bv 0 (by decide) ((lg_19 43).trans rfl)) (dc_bv 7 (by decide) ((lg_19 44).trans rfl))
theorem dL_law_1261 : decode cL_law 1261 = .ok (.iconst 1, 1) := dc_4 (dc_bv 4 (by decide) ((lg_19 45).trans rfl))
theorem dL_law_1262 : decode cL_law 1262 = .ok (.goto 4, 3) := dc_167 (dc_bv 167 (by decide) ((lg_19 46).trans rfl)) (dc_bv 0 (by decide) ((lg_19 47).trans rfl)) (dc_bv 4 (by decide) ((lg_19 48).trans rfl))
theorem dL_law_1265 : decode cL_law 1265 = .ok (.iconst 0, 1) := dc_3 (dc_bv 3 (by decide) ((lg_19 49).trans rfl))
theorem dL_law_1266 : decode cL_law 1266 = .ok (.aload_n 0, 1) := dc_42 (dc_bv 42 (by decide) ((lg_19 50).trans rfl))
theorem dL_law_1267 : decode cL_law 1267 = .ok (.iload 4, 2) := dc_21 (dc_bv 21 (by decide) ((lg_19 51).trans rfl)) (dc_bv 4 (by decide) ((lg_19 52).trans rfl))
theorem dL_law_1269 : decode cL_law 1269 = .ok (.iconst 3, 1) := dc_6 (dc_bv 6 (by decide) ((lg_19 53).trans rfl))
theorem dL_law_1270 : decode cL_law 1270 = .ok (.iadd, 1) := dc_96 (dc_bv 96 (by decide) ((lg_19 54).trans rfl))
theorem dL_law_1271 : decode cL_law 1271 = .ok (.iaload, 1) := dc_46 (dc_bv 46 (by decide) ((lg_19 55).trans rfl))
theorem dL_law_1272 : decode cL_law 1272 = .ok (.invokevirtual 206, 3) := dc_182 (dc_bv 182 (by decide) ((lg_19 56).trans rfl)) (dc_bv 0 (by decide) ((lg_19 57).trans rfl)) (dc_bv 206 (by decide) ((lg_19 58).trans rfl))
theorem dL_law_1275 : decode cL_law 1275 = .ok (.lstore 6, 2) := dc_55 (dc_bv 55 (by decide) ((lg_19 59).trans rfl)) (dc_bv 6 (by decide) ((lg_19 60).trans rfl))
theorem dL_law_1277 : decode cL_law 1277 = .ok (.aload_n 2, 1) := dc_44 (dc_bv 44 (by decide) ((lg_19 61).trans rfl))
theorem dL_law_1278 : decode cL_law 1278 = .ok (.invokevirtual 138, 3) := dc_182 (dc_bv 182 (by decide) ((lg_19 62).trans rfl)) (dc_bv 0 (by decide) ((lg_19 63).trans rfl)) (dc_bv 138 (by decide) ((lg_20 0).trans rfl))
theorem dL_law_1281 : decode cL_law 1281 = .ok (.iload 5, 2) := dc_21 (dc_bv 21 (by decide) ((lg_20 1).trans rfl)) (dc_bv 5 (by decide) ((lg_20 2).trans rfl))
theorem dL_law_1283 : decode cL_law 1283 = .ok (.if_icmp .eq 5, 3) := dc_159 (dc_bv 159 (by decide) ((lg_20 3).trans rfl)) (dc_bv 0 (by decide) ((lg_20 4).trans rfl)) (dc_bv 5 (by decide) ((lg_20 5).trans rfl))
theorem dL_law_1286 : decode cL_law 1286 = .ok (.iconst 0, 1) := dc_3 (dc_bv 3 (by decide) ((lg_20 6).trans rfl))
theorem dL_law_1287 : decode cL_law 1287 = .ok (.ireturn, 1) := dc_172 (dc_bv 172 (by decide) ((lg_20 7).trans rfl))
theorem dL_law_1288 : decode cL_law 1288 = .ok (.iload 5, 2) := dc_21 (dc_bv 21 (by decide) ((lg_20 8).trans rfl)) (dc_bv 5 (by decide) ((lg_20 9).trans rfl))
theorem dL_law_1290 : decode cL_law 1290 = .ok (.ifCond .ne 14, 3) := dc_154 (dc_bv 154 (by decide) ((lg_20 10).trans rfl)) (dc_bv 0 (by decide) ((lg_20 11).trans rfl)) (dc_bv 14 (by decide) ((lg_20 12).trans rfl))
theorem dL_law_1293 : decode cL_law 1293 = .ok (.aload_n 3, 1) := dc_45 (dc_bv 45 (by decide) ((lg_20 13).trans rfl))
theorem dL_law_1294 : decode cL_law 1294 = .ok (.iconst 0, 1) := dc_3 (dc_bv 3 (by decide) ((lg_20 14).trans rfl))
theorem dL_law_1295 : decode cL_law 1295 = .ok (.laload, 1) := dc_47 (dc_bv 47 (by decide) ((lg_20 15).trans rfl))
theorem dL_law_1296 : decode cL_law 1296 = .ok (.lload 6, 2) := dc_22 (dc_bv 22 (by decide) ((lg_20 16).trans rfl)) (dc_bv 6 (by decide) ((lg_20 17).trans rfl))
theorem dL_law_1298 : decode cL_law 1298 = .ok (.lcmp, 1) := dc_148 (dc_bv 148 (by decide) ((lg_20 18).trans rfl))
theorem dL_law_1299 : decode cL_law 1299 = .ok (.ifCond .eq 5, 3) := dc_153 (dc_bv 153 (by decide) ((lg_20 19).trans rfl)) (dc_bv 0 (by decide) ((lg_20 20).trans rfl)) (dc_bv 5 (by decide) ((lg_20 21).trans rfl))
theorem dL_law_1302 : decode cL_law 1302 = .ok (.iconst 0, 1) := dc_3 (dc_bv 3 (by decide) ((lg_20 22).trans rfl))
theorem dL_law_1303 : decode cL_law 1303 = .ok (.ireturn, 1) := dc_172 (dc_bv 172 (by decide) ((lg_20 23).trans rfl))
theorem dL_law_1304 : decode cL_law 1304 = .ok (.goto 1332, 3) := dc_167 (dc_bv 167 (by decide) ((lg_20 24).trans rfl)) (dc_bv 5 (by decide) ((lg_20 25).trans rfl)) (dc_bv 52 (by decide) ((lg_20 26).trans rfl))
theorem dL_law_1307 : decode cL_law 1307 = .ok (.aload_n 1, 1) := dc_43 (dc_bv 43 (by decide) ((lg_20 27).trans rfl))
theorem dL_law_1308 : decode cL_law 1308 = .ok (.aload_n 0, 1) := dc_42 (dc_bv 42 (by decide) ((lg_20 28).trans rfl))
theorem dL_law_1309 : decode cL_law 1309 = .ok (.iload 4, 2) := dc_21 (dc_bv 21 (by decide) ((lg_20 29).trans rfl)) (dc_bv 4 (by decide) ((lg_20 30).trans rfl))
theorem dL_law_1311 : decode cL_law 1311 = .ok (.iconst 1, 1) := dc_4 (dc_bv 4 (by decide) ((lg_20 31).trans rfl))
theorem dL_law_1312 : decode cL_law 1312 = .ok (.iadd, 1) := dc_96 (dc_bv 96 (by decide) ((lg_20 32).trans rfl))
theorem dL_law_1313 : decode cL_law 1313 = .ok (.iaload, 1) := dc_46 (dc_bv 46 (by decide) ((lg_20 33).trans rfl))
theorem dL_law_1314 : decode cL_law 1314 = .ok (.aload_n 0, 1) := dc_42 (dc_bv 42 (by decide) ((lg_20 34).trans rfl))
theorem dL_law_1315 : decode cL_law 1315 = .ok (.iload 4, 2) := dc_21 (dc_bv 21 (by decide) ((lg_20 35).trans rfl)) (dc_bv 4 (by decide) ((lg_20 36).trans rfl))
theorem dL_law_1317 : decode cL_law 1317 = .ok (.iconst 2, 1) := dc_5 (dc_bv 5 (by decide) ((lg_20 37).trans rfl))
theorem dL_law_1318 : decode cL_law 1318 = .ok (.iadd, 1) := dc_96 (dc_bv 96 (by decide) ((lg_20 38).trans rfl))
theorem dL_law_1319 : decode cL_law 1319 = .ok (.iaload, 1) := dc_46 (dc_bv 46 (by decide) ((lg_20 39).trans rfl))
theorem dL_law_1320 : decode cL_law 1320 = .ok (.aload_n 3, 1) := dc_45 (dc_bv 45 (by decide) ((lg_20 40).trans rfl))
theorem dL_law_1321 : decode cL_law 1321 = .ok (.invokestatic 207, 3) := dc_184 (dc_bv 184 (by decide) ((lg_20 41).trans rfl)) (dc_bv 0 (by decide) ((lg_20 42).trans rfl)) (dc_bv 207 (by decide) ((lg_20 43).trans rfl))
theorem dL_law_1324 : decode cL_law 1324 = .ok (.istore 5, 2) := dc_54 (dc_bv 54 (by decide) ((lg_20 44).trans rfl)) (dc_bv 5 (by decide) ((lg_20 45).trans rfl))
theorem dL_law_1326 : decode cL_law 1326 = .ok (.aload_n 2, 1) := dc_44 (dc_bv 44 (by decide) ((lg_20 46).trans rfl))
theorem dL_law_1327 : decode cL_law 1327 = .ok (.aload_n 0, 1) := dc_42 (dc_bv 42 (by decide) ((lg_20 47).trans rfl))
theorem dL_law_1328 : decode cL_law 1328 = .ok (.iload 4, 2) := dc_21 (dc_bv 21 (by decide) ((lg_20 48).trans rfl)) (dc_bv 4 (by decide) ((lg_20 49).trans rfl))
theorem dL_law_1330 : decode cL_law 1330 = .ok (.iconst 1, 1) := dc_4 (dc_bv 4 (by decide) ((lg_20 50).trans rfl))
theorem dL_law_1331 : decode cL_law 1331 = .ok (.iadd, 1) := dc_96 (dc_bv 96 (by decide) ((lg_20 51).trans rfl))
theorem dL_law_1332 : decode cL_law 1332 = .ok (.iaload, 1) := dc_46 (dc_bv 46 (by decide) ((lg_20 52).trans rfl))
theorem dL_law_1333 : decode cL_law 1333 = .ok (.aload_n 0, 1) := dc_42 (dc_bv 42 (by decide) ((lg_20 53).trans rfl))
theorem dL_law_1334 : decode cL_law 1334 = .ok (.iload 4, 2) := dc_21 (dc_bv 21 (by decide) ((lg_20 54).trans rfl)) (dc_bv 4 (by decide) ((lg_20 55).trans rfl))
theorem dL_law_1336 : decode cL_law 1336 = .ok (.iconst 2, 1) := dc_5 (dc_bv 5 (by decide) ((lg_20 56).trans rfl))
theorem dL_law_1337 : decode cL_law 1337 = .ok (.iadd, 1) := dc_96 (dc_bv 96 (by decide) ((lg_20 57).trans rfl))
theorem dL_law_1338 : decode cL_law 1338 = .ok (.iaload, 1) := dc_46 (dc_bv 46 (by decide) ((lg_20 58).trans rfl))
theorem dL_law_1339 : decode cL_law 1339 = .ok (.invokevirtual 209, 3) := dc_182 (dc_bv 182 (by decide) ((lg_20 59).trans rfl)) (dc_bv 0 (by decide) ((lg_20 60).trans rfl)) (dc_bv 209 (by decide) ((lg_20 61).trans rfl))
theorem dL_law_1342 : decode cL_law 1342 = .ok (.istore 6, 2) := dc_54 (dc_bv 54 (by decide) ((lg_20 62).trans rfl)) (dc_bv 6 (by decide) ((lg_20 63).trans rfl))
theorem dL_law_1344 : decode cL_law 1344 = .ok (.aload_n 2, 1) := dc_44 (dc_bv 44 (by decide) ((lg_21 0).trans rfl))
theorem dL_law_1345 : decode cL_law 1345 = .ok (.invokevirtual 138, 3) := dc_182 (dc_bv 182 (by decide) ((lg_21 1).trans rfl)) (dc_bv 0 (by decide) ((lg_21 2).trans rfl)) (dc_bv 138 (by decide) ((lg_21 3).trans rfl))
theorem dL_law_1348 : decode cL_law 1348 = .ok (.iload 5, 2) := dc_21 (dc_bv 21 (by decide) ((lg_21 4).trans rfl)) (dc_bv 5 (by decide) ((lg_21 5).trans rfl))
theorem dL_law_1350 : decode cL_law 1350 = .ok (.if_icmp .eq 5, 3) := dc_159 (dc_bv 159 (by decide) ((lg_21 6).trans rfl)) (dc_bv 0 (by decide) ((lg_21 7).trans rfl)) (dc_bv 5 (by decide) ((lg_21 8).trans rfl))
theorem dL_law_1353 : decode cL_law 1353 = .ok (.iconst 0, 1) := dc_3 (dc_bv 3 (by decide) ((lg_21 9).trans rfl))
theorem dL_law_1354 : decode cL_law 1354 = .ok (.ireturn, 1) := dc_172 (dc_bv 172 (by decide) ((lg_21 10).trans rfl))
theorem dL_law_1355 : decode cL_law 1355 = .ok (.iload 5, 2) := dc_21 (dc_bv 21 (by decide) ((lg_21 11).trans rfl)) (dc_bv 5 (by decide) ((lg_21 12).trans rfl))
theorem dL_law_1357 : decode cL_law 1357 = .ok (.ifCond .ne 15, 3) := dc_154 (dc_bv 154 (by decide) ((lg_21 13).trans rfl)) (dc_bv 0 (by decide) ((lg_21 14).trans rfl)) (dc_bv 15 (by decide) ((lg_21 15).trans rfl))
theorem dL_law_1360 : decode cL_law 1360 = .ok (.aload_n 3, 1) := dc_45 (dc_bv 45 (by decide) ((lg_21 16).trans rfl))
theorem dL_law_1361 : decode cL_law 1361 = .ok (.iconst 0, 1) := dc_3 (dc_bv 3 (by decide) ((lg_21 17).trans rfl))
theorem dL_law_1362 : decode cL_law 1362 = .ok (.laload, 1) := dc_47 (dc_bv 47 (by decide) ((lg_21 18).trans rfl))
theorem dL_law_1363 : decode cL_law 1363 = .ok (.iload 6, 2) := dc_21 (dc_bv 21 (by decide) ((lg_21 19).trans rfl)) (dc_bv 6 (by decide) ((lg_21 20).trans rfl))
theorem dL_law_1365 : decode cL_law 1365 = .ok (.i2l, 1) := dc_133 (dc_bv 133 (by decide) ((lg_21 21).trans rfl))
theorem dL_law_1366 : decode cL_law 1366 = .ok (.lcmp, 1) := dc_148 (dc_bv 148 (by decide) ((lg_21 22).trans rfl))
theorem dL_law_1367 : decode cL_law 1367 = .ok (.ifCond .eq 5, 3) := dc_153 (dc_bv 153 (by decide) ((lg_21 23).trans rfl)) (dc_bv 0 (by decide) ((lg_21 24).trans rfl)) (dc_bv 5 (by decide) ((lg_21 25).trans rfl))
theorem dL_law_1370 : decode cL_law 1370 = .ok (.iconst 0, 1) := dc_3 (dc_bv 3 (by decide) ((lg_21 26).trans rfl))
theorem dL_law_1371 : decode cL_law 1371 = .ok (.ireturn, 1) := dc_172 (dc_bv 172 (by decide) ((lg_21 27).trans rfl))
theorem dL_law_1372 : decode cL_law 1372 = .ok (.goto 1264, 3) := dc_167 (dc_bv 167 (by decide) ((lg_21 28).trans rfl)) (dc_bv 4 (by decide) ((lg_21 29).trans rfl)) (dc_bv 240 (by decide) ((lg_21 30).trans rfl))
theorem dL_law_1375 : decode cL_law 1375 = .ok (.aload_n 1, 1) := dc_43 (dc_bv 43 (by decide) ((lg_21 31).trans rfl))
theorem dL_law_1376 : decode cL_law 1376 = .ok (.aload_n 0, 1) := dc_42 (dc_bv 42 (by decide) ((lg_21 32).trans rfl))
theorem dL_law_1377 : decode cL_law 1377 = .ok (.iload 4, 2) := dc_21 (dc_bv 21 (by decide) ((lg_21 33).trans rfl)) (dc_bv 4 (by decide) ((lg_21 34).trans rfl))
theorem dL_law_1379 : decode cL_law 1379 = .ok (.iconst 1, 1) := dc_4 (dc_bv 4 (by decide) ((lg_21 35).trans rfl))
theorem dL_law_1380 : decode cL_law 1380 = .ok (.iadd, 1) := dc_96 (dc_bv 96 (by decide) ((lg_21 36).trans rfl))
theorem dL_law_1381 : decode cL_law 1381 = .ok (.iaload, 1) := dc_46 (dc_bv 46 (by decide) ((lg_21 37).trans rfl))
theorem dL_law_1382 : decode cL_law 1382 = .ok (.aload_n 0, 1) := dc_42 (dc_bv 42 (by decide) ((lg_21 38).trans rfl))
theorem dL_law_1383 : decode cL_law 1383 = .ok (.iload 4, 2) := dc_21 (dc_bv 21 (by decide) ((lg_21 39).trans rfl)) (dc_bv 4 (by decide) ((lg_21 40).trans rfl))
theorem dL_law_1385 : decode cL_law 1385 = .ok (.iconst 2, 1) := dc_5 (dc_bv 5 (by decide) ((lg_21 41).trans rfl))
theorem dL_law_1386 : decode cL_law 1386 = .ok (.iadd, 1) := dc_96 (dc_bv 96 (by decide) ((lg_21 42).trans rfl))
theorem dL_law_1387 : decode cL_law 1387 = .ok (.iaload, 1) := dc_46 (dc_bv 46 (by decide) ((lg_21 43).trans rfl))
theorem dL_law_1388 : decode cL_law 1388 = .ok (.aload_n 3, 1) := dc_45 (dc_bv 45 (by decide) ((lg_21 44).trans rfl))
theorem dL_law_1389 : decode cL_law 1389 = .ok (.invokestatic 210, 3) := dc_184 (dc_bv 184 (by decide) ((lg_21 45).trans rfl)) (dc_bv 0 (by decide) ((lg_21 46).trans rfl)) (dc_bv 210 (by decide) ((lg_21 47).trans rfl))
theorem dL_law_1392 : decode cL_law 1392 = .ok (.istore 5, 2) := dc_54 (dc_bv 54 (by decide) ((lg_21 48).trans rfl)) (dc_bv 5 (by decide) ((lg_21 49).trans rfl))
theorem dL_law_1394 : decode cL_law 1394 = .ok (.aload_n 2, 1) := dc_44 (dc_bv 44 (by decide) ((lg_21 50).trans rfl))
theorem dL_law_1395 : decode cL_law 1395 = .ok (.aload_n 0, 1) := dc_42 (dc_bv 42 (by decide) ((lg_21 51).trans rfl))
theorem dL_law_1396 : decode cL_law 1396 = .ok (.iload 4, 2) := dc_21 (dc_bv 21 (by decide) ((lg_21 52).trans rfl)) (dc_bv 4 (by decide) ((lg_21 53).trans rfl))
theorem dL_law_1398 : decode cL_law 1398 = .ok (.iconst 1, 1) := dc_4 (dc_bv 4 (by decide) ((lg_21 54).trans rfl))
theorem dL_law_1399 : decode cL_law 1399 = .ok (.iadd, 1) := dc_96 (dc_bv 96 (by decide) ((lg_21 55).trans rfl))
theorem dL_law_1400 : decode cL_law 1400 = .ok (.iaload, 1) := dc_46 (dc_bv 46 (by decide) ((lg_21 56).trans rfl))
theorem dL_law_1401 : decode cL_law 1401 = .ok (.aload_n 0, 1) := dc_42 (dc_bv 42 (by decide) ((lg_21 57).trans rfl))
theorem dL_law_1402 : decode cL_law 1402 = .ok (.iload 4, 2) := dc_21 (dc_bv 21 (by decide) ((lg_21 58).trans rfl)) (dc_bv 4 (by decide) ((lg_21 59).trans rfl))
theorem dL_law_1404 : decode cL_law 1404 = .ok (.iconst 2, 1) := dc_5 (dc_bv 5 (by decide) ((lg_21 60).trans rfl))
theorem dL_law_1405 : decode cL_law 1405 = .ok (.iadd, 1) := dc_96 (dc_bv 96 (by decide) ((lg_21 61).trans rfl))
theorem dL_law_1406 : decode cL_law 1406 = .ok (.iaload, 1) := dc_46 (dc_bv 46 (by decide) ((lg_21 62).trans rfl))
theorem dL_law_1407 : decode cL_law 1407 = .ok (.invokevirtual 212, 3) := dc_182 (dc_bv 182 (by decide) ((lg_21 63).trans rfl)) (dc_bv 0 (by decide) ((lg_22 0).trans rfl)) (dc_bv 212 (by decide) ((lg_22 1).trans rfl))
theorem dL_law_1410 : decode cL_law 1410 = .ok (.istore 6, 2) := dc_54 (dc_bv 54 (by decide) ((lg_22 2).trans rfl)) (dc_bv 6 (by decide) ((lg_22 3).trans rfl))
theorem dL_law_1412 : decode cL_law 1412 = .ok (.aload_n 2, 1) := dc_44 (dc_bv 44 (by decide) ((lg_22 4).trans rfl))
theorem dL_law_1413 : decode cL_law 1413 = .ok (.invokevirtual 138, 3) := dc_182 (dc_bv 182 (by decide) ((lg_22 5).trans rfl)) (dc_bv 0 (by decide) ((lg_22 6).trans rfl)) (dc_bv 138 (by decide) ((lg_22 7).trans rfl))
theorem dL_law_1416 : decode cL_law 1416 = .ok (.iload 5, 2) := dc_21 (dc_bv 21 (by decide) ((lg_22 8).trans rfl)) (dc_bv 5 (by decide) ((lg_22 9).trans rfl))
theorem dL_law_1418 : decode cL_law 1418 = .ok (.if_icmp .eq 5, 3) := dc_159 (dc_bv 159 (by decide) ((lg_22 10).trans rfl)) (dc_bv 0 (by decide) ((lg_22 11).trans rfl)) (dc_bv 5 (by decide) ((lg_22 12).trans rfl))
theorem dL_law_1421 : decode cL_law 1421 = .ok (.iconst 0, 1) := dc_3 (dc_bv 3 (by decide) ((lg_22 13).trans rfl))
theorem dL_law_1422 : decode cL_law 1422 = .ok (.ireturn, 1) := dc_172 (dc_bv 172 (by decide) ((lg_22 14).trans rfl))
theorem dL_law_1423 : decode cL_law 1423 = .ok (.iload 5, 2) := dc_21 (dc_bv 21 (by decide) ((lg_22 15).trans rfl)) (dc_bv 5 (by decide) ((lg_22 16).trans rfl))
theorem dL_law_1425 : decode cL_law 1425 = .ok (.ifCond .ne 15, 3) := dc_154 (dc_bv 154 (by decide) ((lg_22 17).trans rfl)) (dc_bv 0 (by decide) ((lg_22 18).trans rfl)) (dc_bv 15 (by decide) ((lg_22 19).trans rfl))
theorem dL_law_1428 : decode cL_law 1428 = .ok (.aload_n 3, 1) := dc_45 (dc_bv 45 (by decide) ((lg_22 20).trans rfl))
theorem dL_law_1429 : decode cL_law 1429 = .ok (.iconst 0, 1) := dc_3 (dc_bv 3 (by decide) ((lg_22 21).trans rfl))
theorem dL_law_1430 : decode cL_law 1430 = .ok (.laload, 1) := dc_47 (dc_bv 47 (by decide) ((lg_22 22).trans rfl))
theorem dL_law_1431 : decode cL_law 1431 = .ok (.iload 6, 2) := dc_21 (dc_bv 21 (by decide) ((lg_22 23).trans rfl)) (dc_bv 6 (by decide) ((lg_22 24).trans rfl))
theorem dL_law_1433 : decode cL_law 1433 = .ok (.i2l, 1) := dc_133 (dc_bv 133 (by decide) ((lg_22 25).trans rfl))
theorem dL_law_1434 : decode cL_law 1434 = .ok (.lcmp, 1) := dc_148 (dc_bv 148 (by decide) ((lg_22 26).trans rfl))
theorem dL_law_1435 : decode cL_law 1435 = .ok (.ifCond .eq 5, 3) := dc_153 (dc_bv 153 (by decide) ((lg_22 27).trans rfl)) (dc_bv 0 (by decide) ((lg_22 28).trans rfl)) (dc_bv 5 (by decide) ((lg_22 29).trans rfl))
theorem dL_law_1438 : decode cL_law 1438 = .ok (.iconst 0, 1) := dc_3 (dc_bv 3 (by decide) ((lg_22 30).trans rfl))
theorem dL_law_1439 : decode cL_law 1439 = .ok (.ireturn, 1) := dc_172 (dc_bv 172 (by decide) ((lg_22 31).trans rfl))
theorem dL_law_1440 : decode cL_law 1440 = .ok (.goto 1196, 3) := dc_167 (dc_bv 167 (by decide) ((lg_22 32).trans rfl)) (dc_bv 4 (by decide) ((lg_22 33).trans rfl)) (dc_bv 172 (by decide) ((lg_22 34).trans rfl))
theorem dL_law_1443 : decode cL_law 1443 = .ok (.aload_n 1, 1) := dc_43 (dc_bv 43 (by decide) ((lg_22 35).trans rfl))
theorem dL_law_1444 : decode cL_law 1444 = .ok (.aload_n 0, 1) := dc_42 (dc_bv 42 (by decide) ((lg_22 36).trans rfl))
theorem dL_law_1445 : decode cL_law 1445 = .ok (.iload 4, 2) := dc_21 (dc_bv 21 (by decide) ((lg_22 37).trans rfl)) (dc_bv 4 (by decide) ((lg_22 38).trans rfl))
theorem dL_law_1447 : decode cL_law 1447 = .ok (.iconst 1, 1) := dc_4 (dc_bv 4 (by decide) ((lg_22 39).trans rfl))
theorem dL_law_1448 : decode cL_law 1448 = .ok (.iadd, 1) := dc_96 (dc_bv 96 (by decide) ((lg_22 40).trans rfl))
theorem dL_law_1449 : decode cL_law 1449 = .ok (.iaload, 1) := dc_46 (dc_bv 46 (by decide) ((lg_22 41).trans rfl))
theorem dL_law_1450 : decode cL_law 1450 = .ok (.aload_n 3, 1) := dc_45 (dc_bv 45 (by decide) ((lg_22 42).trans rfl))
theorem dL_law_1451 : decode cL_law 1451 = .ok (.invokestatic 213, 3) := dc_184 (dc_bv 184 (by decide) ((lg_22 43).trans rfl)) (dc_bv 0 (by decide) ((lg_22 44).trans rfl)) (dc_bv 213 (by decide) ((lg_22 45).trans rfl))
theorem dL_law_1454 : decode cL_law 1454 = .ok (.istore 5, 2) := dc_54 (dc_bv 54 (by decide) ((lg_22 46).trans rfl)) (dc_bv 5 (by decide) ((lg_22 47).trans rfl))
theorem dL_law_1456 : decode cL_law 1456 = .ok (.aload_n 2, 1) := dc_44 (dc_bv 44 (by decide) ((lg_22 48).trans rfl))
theorem dL_law_1457 : decode cL_law 1457 = .ok (.aload_n 0, 1) := dc_42 (dc_bv 42 (by decide) ((lg_22 49).trans rfl))
theorem dL_law_1458 : decode cL_law 1458 = .ok (.iload 4, 2) := dc_21 (dc_bv 21 (by decide) ((lg_22 50).trans rfl)) (dc_bv 4 (by decide) ((lg_22 51).trans rfl))
theorem dL_law_1460 : decode cL_law 1460 = .ok (.iconst 1, 1) := dc_4 (dc_bv 4 (by decide) ((lg_22 52).trans rfl))
theorem dL_law_1461 : decode cL_law 1461 = .ok (.iadd, 1) := dc_96 (dc_bv 96 (by decide) ((lg_22 53).trans rfl))
theorem dL_law_1462 : decode cL_law 1462 = .ok (.iaload, 1) := dc_46 (dc_bv 46 (by decide) ((lg_22 54).trans rfl))
theorem dL_law_1463 : decode cL_law 1463 = .ok (.invokevirtual 215, 3) := dc_182 (dc_bv 182 (by decide) ((lg_22 55).trans rfl)) (dc_bv 0 (by decide) ((lg_22 56).trans rfl)) (dc_bv 215 (by decide) ((lg_22 57).trans rfl))
theorem dL_law_1466 : decode cL_law 1466 = .ok (.istore 6, 2) := dc_54 (dc_bv 54 (by decide) ((lg_22 58).trans rfl)) (dc_bv 6 (by decide) ((lg_22 59).trans rfl))
theorem dL_law_1468 : decode cL_law 1468 = .ok (.aload_n 2, 1) := dc_44 (dc_bv 44 (by decide) ((lg_22 60).trans rfl))
theorem dL_law_1469 : decode cL_law 1469 = .ok (.invokevirtual 138, 3) := dc_182 (dc_bv 182 (by decide) ((lg_22 61).trans rfl)) (dc_bv 0 (by decide) ((lg_22 62).trans rfl)) (dc_bv 138 (by decide) ((lg_22 63).trans rfl))
theorem dL_law_1472 : decode cL_law 1472 = .ok (.iload 5, 2) := dc_21 (dc_bv 21 (by decide) ((lg_23 0).trans rfl)) (dc_bv 5 (by decide) ((lg_23 1).trans rfl))
theorem dL_law_1474 : decode cL_law 1474 = .ok (.if_icmp .eq 5, 3) := dc_159 (dc_bv 159 (by decide) ((lg_23 2).trans rfl)) (dc_bv 0 (by decide) ((lg_23 3).trans rfl)) (dc_bv 5 (by decide) ((lg_23 4).trans rfl))
theorem dL_law_1477 : decode cL_law 1477 = .ok (.iconst 0, 1) := dc_3 (dc_bv 3 (by decide) ((lg_23 5).trans rfl))
theorem dL_law_1478 : decode cL_law 1478 = .ok (.ireturn, 1) := dc_172 (dc_bv 172 (by decide) ((lg_23 6).trans rfl))
theorem dL_law_1479 : decode cL_law 1479 = .ok (.iload 5, 2) := dc_21 (dc_bv 21 (by decide) ((lg_23 7).trans rfl)) (dc_bv 5 (by decide) ((lg_23 8).trans rfl))
theorem dL_law_1481 : decode cL_law 1481 = .ok (.ifCond .ne 15, 3) := dc_154 (dc_bv 154 (by decide) ((lg_23 9).trans rfl)) (dc_bv 0 (by decide) ((lg_23 10).trans rfl)) (dc_bv 15 (by decide) ((lg_23 11).trans rfl))
theorem dL_law_1484 : decode cL_law 1484 = .ok (.aload_n 3, 1) := dc_45 (dc_bv 45 (by decide) ((lg_23 12).trans rfl))
theorem dL_law_1485 : decode cL_law 1485 = .ok (.iconst 0, 1) := dc_3 (dc_bv 3 (by decide) ((lg_23 13).trans rfl))
theorem dL_law_1486 : decode cL_law 1486 = .ok (.laload, 1) := dc_47 (dc_bv 47 (by decide) ((lg_23 14).trans rfl))
theorem dL_law_1487 : decode cL_law 1487 = .ok (.iload 6, 2) := dc_21 (dc_bv 21 (by decide) ((lg_23 15).trans rfl)) (dc_bv 6 (by decide) ((lg_23 16).trans rfl))
theorem dL_law_1489 : decode cL_law 1489 = .ok (.i2l, 1) := dc_133 (dc_bv 133 (by decide) ((lg_23 17).trans rfl))
theorem dL_law_1490 : decode cL_law 1490 = .ok (.lcmp, 1) := dc_148 (dc_bv 148 (by decide) ((lg_23 18).trans rfl))
theorem dL_law_1491 : decode cL_law 1491 = .ok (.ifCond .eq 5, 3) := dc_153 (dc_bv 153 (by decide) ((lg_23 19).trans rfl)) (dc_bv 0 (by decide) ((lg_23 20).trans rfl)) (dc_bv 5 (by decide) ((lg_23 21).trans rfl))
theorem dL_law_1494 : decode cL_law 1494 = .ok (.iconst 0, 1) := dc_3 (dc_bv 3 (by decide) ((lg_23 22).trans rfl))
theorem dL_law_1495 : decode cL_law 1495 = .ok (.ireturn, 1) := dc_172 (dc_bv 172 (by decide) ((lg_23 23).trans rfl))
theorem dL_law_1496 : decode cL_law 1496 = .ok (.goto 1140, 3) := dc_167 (dc_bv 167 (by decide) ((lg_23 24).trans rfl)) (dc_bv 4 (by decide) ((lg_23 25).trans rfl)) (dc_bv 116 (by decide) ((lg_23 26).trans rfl))
theorem dL_law_1499 : decode cL_law 1499 = .ok (.aload_n 1, 1) := dc_43 (dc_bv 43 (by decide) ((lg_23 27).trans rfl))
theorem dL_law_1500 : decode cL_law 1500 = .ok (.aload_n 0, 1) := dc_42 (dc_bv 42 (by decide) ((lg_23 28).trans rfl))
theorem dL_law_1501 : decode cL_law 1501 = .ok (.iload 4, 2) := dc_21 (dc_bv 21 (by decide) ((lg_23 29).trans rfl)) (dc_bv 4 (by decide) ((lg_23 30).trans rfl))
theorem dL_law_1503 : decode cL_law 1503 = .ok (.iconst 1, 1) := dc_4 (dc_bv 4 (by decide) ((lg_23 31).trans rfl))
theorem dL_law_1504 : decode cL_law 1504 = .ok (.iadd, 1) := dc_96 (dc_bv 96 (by decide) ((lg_23 32).trans rfl))
theorem dL_law_1505 : decode cL_law 1505 = .ok (.iaload, 1) := dc_46 (dc_bv 46 (by decide) ((lg_23 33).trans rfl))
theorem dL_law_1506 : decode cL_law 1506 = .ok (.aload_n 3, 1) := dc_45 (dc_bv 45 (by decide) ((lg_23 34).trans rfl))
theorem dL_law_1507 : decode cL_law 1507 = .ok (.invokestatic 216, 3) := dc_184 (dc_bv 184 (by decide) ((lg_23 35).trans rfl)) (dc_bv 0 (by decide) ((lg_23 36).trans rfl)) (dc_bv 216 (by decide) ((lg_23 37).trans rfl))
theorem dL_law_1510 : decode cL_law 1510 = .ok (.istore 5, 2) := dc_54 (dc_bv 54 (by decide) ((lg_23 38).trans rfl)) (dc_bv 5 (by decide) ((lg_23 39).trans rfl))
theorem dL_law_1512 : decode cL_law 1512 = .ok (.aload_n 2, 1) := dc_44 (dc_bv 44 (by decide) ((lg_23 40).trans rfl))
theorem dL_law_1513 : decode cL_law 1513 = .ok (.aload_n 0, 1) := dc_42 (dc_bv 42 (by decide) ((lg_23 41).trans rfl))
theorem dL_law_1514 : decode cL_law 1514 = .ok (.iload 4, 2) := dc_21 (dc_bv 21 (by decide) ((lg_23 42).trans rfl)) (dc_bv 4 (by decide) ((lg_23 43).trans rfl))
theorem dL_law_1516 : decode cL_law 1516 = .ok (.iconst 1, 1) := dc_4 (dc_bv 4 (by decide) ((lg_23 44).trans rfl))
theorem dL_law_1517 : decode cL_law 1517 = .ok (.iadd, 1) := dc_96 (dc_bv 96 (by decide) ((lg_23 45).trans rfl))
theorem dL_law_1518 : decode cL_law 1518 = .ok (.iaload, 1) := dc_46 (dc_bv 46 (by decide) ((lg_23 46).trans rfl))
theorem dL_law_1519 : decode cL_law 1519 = .ok (.invokevirtual 218, 3) := dc_182 (dc_bv 182 (by decide) ((lg_23 47).trans rfl)) (dc_bv 0 (by decide) ((lg_23 48).trans rfl)) (dc_bv 218 (by decide) ((lg_23 49).trans rfl))
theorem dL_law_1522 : decode cL_law 1522 = .ok (.istore 6, 2) := dc_54 (dc_bv 54 (by decide) ((lg_23 50).trans rfl)) (dc_bv 6 (by decide) ((lg_23 51).trans rfl))
theorem dL_law_1524 : decode cL_law 1524 = .ok (.aload_n 2, 1) := dc_44 (dc_bv 44 (by decide) ((lg_23 52).trans rfl))
theorem dL_law_1525 : decode cL_law 1525 = .ok (.invokevirtual 138, 3) := dc_182 (dc_bv 182 (by decide) ((lg_23 53).trans rfl)) (dc_bv 0 (by decide) ((lg_23 54).trans rfl)) (dc_bv 138 (by decide) ((lg_23 55).trans rfl))
theorem dL_law_1528 : decode cL_law 1528 = .ok (.iload 5, 2) := dc_21 (dc_bv 21 (by decide) ((lg_23 56).trans rfl)) (dc_bv 5 (by decide) ((lg_23 57).trans rfl))
theorem dL_law_1530 : decode cL_law 1530 = .ok (.if_icmp .eq 5, 3) := dc_159 (dc_bv 159 (by decide) ((lg_23 58).trans rfl)) (dc_bv 0 (by decide) ((lg_23 59).trans rfl)) (dc_bv 5 (by decide) ((lg_23 60).trans rfl))
theorem dL_law_1533 : decode cL_law 1533 = .ok (.iconst 0, 1) := dc_3 (dc_bv 3 (by decide) ((lg_23 61).trans rfl))
theorem dL_law_1534 : decode cL_law 1534 = .ok (.ireturn, 1) := dc_172 (dc_bv 172 (by decide) ((lg_23 62).trans rfl))
theorem dL_law_1535 : decode cL_law 1535 = .ok (.iload 5, 2) := dc_21 (dc_bv 21 (by decide) ((lg_23 63).trans rfl)) (dc_bv 5 (by decide) ((lg_24 0).trans rfl))
theorem dL_law_1537 : decode cL_law 1537 = .ok (.ifCond .ne 15, 3) := dc_154 (dc_bv 154 (by decide) ((lg_24 1).trans rfl)) (dc_bv 0 (by decide) ((lg_24 2).trans rfl)) (dc_bv 15 (by decide) ((lg_24 3).trans rfl))
theorem dL_law_1540 : decode cL_law 1540 = .ok (.aload_n 3, 1) := dc_45 (dc_bv 45 (by decide) ((lg_24 4).trans rfl))
theorem dL_law_1541 : decode cL_law 1541 = .ok (.iconst 0, 1) := dc_3 (dc_bv 3 (by decide) ((lg_24 5).trans rfl))
theorem dL_law_1542 : decode cL_law 1542 = .ok (.laload, 1) := dc_47 (dc_bv 47 (by decide) ((lg_24 6).trans rfl))
theorem dL_law_1543 : decode cL_law 1543 = .ok (.iload 6, 2) := dc_21 (dc_bv 21 (by decide) ((lg_24 7).trans rfl)) (dc_bv 6 (by decide) ((lg_24 8).trans rfl))
theorem dL_law_1545 : decode cL_law 1545 = .ok (.i2l, 1) := dc_133 (dc_bv 133 (by decide) ((lg_24 9).trans rfl))
theorem dL_law_1546 : decode cL_law 1546 = .ok (.lcmp, 1) := dc_148 (dc_bv 148 (by decide) ((lg_24 10).trans rfl))
theorem dL_law_1547 : decode cL_law 1547 = .ok (.ifCond .eq 5, 3) := dc_153 (dc_bv 153 (by decide) ((lg_24 11).trans rfl)) (dc_bv 0 (by decide) ((lg_24 12).trans rfl)) (dc_bv 5 (by decide) ((lg_24 13).trans rfl))
theorem dL_law_1550 : decode cL_law 1550 = .ok (.iconst 0, 1) := dc_3 (dc_bv 3 (by decide) ((lg_24 14).trans rfl))
theorem dL_law_1551 : decode cL_law 1551 = .ok (.ireturn, 1) := dc_172 (dc_bv 172 (by decide) ((lg_24 15).trans rfl))
theorem dL_law_1552 : decode cL_law 1552 = .ok (.goto 1084, 3) := dc_167 (dc_bv 167 (by decide) ((lg_24 16).trans rfl)) (dc_bv 4 (by decide) ((lg_24 17).trans rfl)) (dc_bv 60 (by decide) ((lg_24 18).trans rfl))
theorem dL_law_1555 : decode cL_law 1555 = .ok (.aload_n 1, 1) := dc_43 (dc_bv 43 (by decide) ((lg_24 19).trans rfl))
theorem dL_law_1556 : decode cL_law 1556 = .ok (.aload_n 0, 1) := dc_42 (dc_bv 42 (by decide) ((lg_24 20).trans rfl))
theorem dL_law_1557 : decode cL_law 1557 = .ok (.iload 4, 2) := dc_21 (dc_bv 21 (by decide) ((lg_24 21).trans rfl)) (dc_bv 4 (by decide) ((lg_24 22).trans rfl))
theorem dL_law_1559 : decode cL_law 1559 = .ok (.iconst 1, 1) := dc_4 (dc_bv 4 (by decide) ((lg_24 23).trans rfl))
theorem dL_law_1560 : decode cL_law 1560 = .ok (.iadd, 1) := dc_96 (dc_bv 96 (by decide) ((lg_24 24).trans rfl))
theorem dL_law_1561 : decode cL_law 1561 = .ok (.iaload, 1) := dc_46 (dc_bv 46 (by decide) ((lg_24 25).trans rfl))
theorem dL_law_1562 : decode cL_law 1562 = .ok (.aload_n 0, 1) := dc_42 (dc_bv 42 (by decide) ((lg_24 26).trans rfl))
theorem dL_law_1563 : decode cL_law 1563 = .ok (.iload 4, 2) := dc_21 (dc_bv 21 (by decide) ((lg_24 27).trans rfl)) (dc_bv 4 (by decide) ((lg_24 28).trans rfl))
theorem dL_law_1565 : decode cL_law 1565 = .ok (.iconst 2, 1) := dc_5 (dc_bv 5 (by decide) ((lg_24 29).trans rfl))
theorem dL_law_1566 : decode cL_law 1566 = .ok (.iadd, 1) := dc_96 (dc_bv 96 (by decide) ((lg_24 30).trans rfl))
theorem dL_law_1567 : decode cL_law 1567 = .ok (.iaload, 1) := dc_46 (dc_bv 46 (by decide) ((lg_24 31).trans rfl))
theorem dL_law_1568 : decode cL_law 1568 = .ok (.aload_n 3, 1) := dc_45 (dc_bv 45 (by decide) ((lg_24 32).trans rfl))
theorem dL_law_1569 : decode cL_law 1569 = .ok (.invokestatic 219, 3) := dc_184 (dc_bv 184 (by decide) ((lg_24 33).trans rfl)) (dc_bv 0 (by decide) ((lg_24 34).trans rfl)) (dc_bv 219 (by decide) ((lg_24 35).trans rfl))
theorem dL_law_1572 : decode cL_law 1572 = .ok (.istore 5, 2) := dc_54 (dc_bv 54 (by decide) ((lg_24 36).trans rfl)) (dc_bv 5 (by decide) ((lg_24 37).trans rfl))
theorem dL_law_1574 : decode cL_law 1574 = .ok (.aload_n 2, 1) := dc_44 (dc_bv 44 (by decide) ((lg_24 38).trans rfl))
theorem dL_law_1575 : decode cL_law 1575 = .ok (.aload_n 0, 1) := dc_42 (dc_bv 42 (by decide) ((lg_24 39).trans rfl))
theorem dL_law_1576 : decode cL_law 1576 = .ok (.iload 4, 2) := dc_21 (dc_bv 21 (by decide) ((lg_24 40).trans rfl)) (dc_bv 4 (by decide) ((lg_24 41).trans rfl))
theorem dL_law_1578 : decode cL_law 1578 = .ok (.iconst 1, 1) := dc_4 (dc_bv 4 (by decide) ((lg_24 42).trans rfl))
theorem dL_law_1579 : decode cL_law 1579 = .ok (.iadd, 1) := dc_96 (dc_bv 96 (by decide) ((lg_24 43).trans rfl))
theorem dL_law_1580 : decode cL_law 1580 = .ok (.iaload, 1) := dc_46 (dc_bv 46 (by decide) ((lg_24 44).trans rfl))
theorem dL_law_1581 : decode cL_law 1581 = .ok (.aload_n 0, 1) := dc_42 (dc_bv 42 (by decide) ((lg_24 45).trans rfl))
theorem dL_law_1582 : decode cL_law 1582 = .ok (.iload 4, 2) := dc_21 (dc_bv 21 (by decide) ((lg_24 46).trans rfl)) (dc_bv 4 (by decide) ((lg_24 47).trans rfl))
theorem dL_law_1584 : decode cL_law 1584 = .ok (.iconst 2, 1) := dc_5 (dc_bv 5 (by decide) ((lg_24 48).trans rfl))
theorem dL_law_1585 : decode cL_law 1585 = .ok (.iadd, 1) := dc_96 (dc_bv 96 (by decide) ((lg_24 49).trans rfl))
theorem dL_law_1586 : decode cL_law 1586 = .ok (.iaload, 1) := dc_46 (dc_bv 46 (by decide) ((lg_24 50).trans rfl))
theorem dL_law_1587 : decode cL_law 1587 = .ok (.invokevirtual 221, 3) := dc_182 (dc_bv 182 (by decide) ((lg_24 51).trans rfl)) (dc_bv 0 (by decide) ((lg_24 52).trans rfl)) (dc_bv 221 (by decide) ((lg_24 53).trans rfl))
theorem dL_law_1590 : decode cL_law 1590 = .ok (.istore 6, 2) := dc_54 (dc_bv 54 (by decide) ((lg_24 54).trans rfl)) (dc_bv 6 (by decide) ((lg_24 55).trans rfl))
theorem dL_law_1592 : decode cL_law 1592 = .ok (.aload_n 2, 1) := dc_44 (dc_bv 44 (by decide) ((lg_24 56).trans rfl))
theorem dL_law_1593 : decode cL_law 1593 = .ok (.invokevirtual 138, 3) := dc_182 (dc_bv 182 (by decide) ((lg_24 57).trans rfl)) (dc_bv 0 (by decide) ((lg_24 58).trans rfl)) (dc_bv 138 (by decide) ((lg_24 59).trans rfl))
theorem dL_law_1596 : decode cL_law 1596 = .ok (.iload 5, 2) := dc_21 (dc_bv 21 (by decide) ((lg_24 60).trans rfl)) (dc_bv 5 (by decide) ((lg_24 61).trans rfl))
theorem dL_law_1598 : decode cL_law 1598 = .ok (.if_icmp .eq 5, 3) := dc_159 (dc_bv 159 (by decide) ((lg_24 62).trans rfl)) (dc_bv 0 (by decide) ((lg_24 63).trans rfl)) (dc_bv 5 (by decide) ((lg_25 0).trans rfl))
theorem dL_law_1601 : decode cL_law 1601 = .ok (.iconst 0, 1) := dc_3 (dc_bv 3 (by decide) ((lg_25 1).trans rfl))
theorem dL_law_1602 : decode cL_law 1602 = .ok (.ireturn, 1) := dc_172 (dc_bv 172 (by decide) ((lg_25 2).trans rfl))
theorem dL_law_1603 : decode cL_law 1603 = .ok (.iload 5, 2) := dc_21 (dc_bv 21 (by decide) ((lg_25 3).trans rfl)) (dc_bv 5 (by decide) ((lg_25 4).trans rfl))
theorem dL_law_1605 : decode cL_law 1605 = .ok (.ifCond .ne 15, 3) := dc_154 (dc_bv 154 (by decide) ((lg_25 5).trans rfl)) (dc_bv 0 (by decide) ((lg_25 6).trans rfl)) (dc_bv 15 (by decide) ((lg_25 7).trans rfl))
theorem dL_law_1608 : decode cL_law 1608 = .ok (.aload_n 3, 1) := dc_45 (dc_bv 45 (by decide) ((lg_25 8).trans rfl))
theorem dL_law_1609 : decode cL_law 1609 = .ok (.iconst 0, 1) := dc_3 (dc_bv 3 (by decide) ((lg_25 9).trans rfl))
theorem dL_law_1610 : decode cL_law 1610 = .ok (.laload, 1) := dc_47 (dc_bv 47 (by decide) ((lg_25 10).trans rfl))
theorem dL_law_1611 : decode cL_law 1611 = .ok (.iload 6, 2) := dc_21 (dc_bv 21 (by decide) ((lg_25 11).trans rfl)) (dc_bv 6 (by decide) ((lg_25 12).trans rfl))
theorem dL_law_1613 : decode cL_law 1613 = .ok (.i2l, 1) := dc_133 (dc_bv 133 (by decide) ((lg_25 13).trans rfl))
theorem dL_law_1614 : decode cL_law 1614 = .ok (.lcmp, 1) := dc_148 (dc_bv 148 (by decide) ((lg_25 14).trans rfl))
theorem dL_law_1615 : decode cL_law 1615 = .ok (.ifCond .eq 5, 3) := dc_153 (dc_bv 153 (by decide) ((lg_25 15).trans rfl)) (dc_bv 0 (by decide) ((lg_25 16).trans rfl)) (dc_bv 5 (by decide) ((lg_25 17).trans rfl))
theorem dL_law_1618 : decode cL_law 1618 = .ok (.iconst 0, 1) := dc_3 (dc_bv 3 (by decide) ((lg_25 18).trans rfl))
theorem dL_law_1619 : decode cL_law 1619 = .ok (.ireturn, 1) := dc_172 (dc_bv 172 (by decide) ((lg_25 19).trans rfl))
theorem dL_law_1620 : decode cL_law 1620 = .ok (.goto 1016, 3) := dc_167 (dc_bv 167 (by decide) ((lg_25 20).trans rfl)) (dc_bv 3 (by decide) ((lg_25 21).trans rfl)) (dc_bv 248 (by decide) ((lg_25 22).trans rfl))
theorem dL_law_1623 : decode cL_law 1623 = .ok (.aload_n 1, 1) := dc_43 (dc_bv 43 (by decide) ((lg_25 23).trans rfl))
theorem dL_law_1624 : decode cL_law 1624 = .ok (.aload_n 0, 1) := dc_42 (dc_bv 42 (by decide) ((lg_25 24).trans rfl))
theorem dL_law_1625 : decode cL_law 1625 = .ok (.iload 4, 2) := dc_21 (dc_bv 21 (by decide) ((lg_25 25).trans rfl)) (dc_bv 4 (by decide) ((lg_25 26).trans rfl))
theorem dL_law_1627 : decode cL_law 1627 = .ok (.iconst 1, 1) := dc_4 (dc_bv 4 (by decide) ((lg_25 27).trans rfl))
theorem dL_law_1628 : decode cL_law 1628 = .ok (.iadd, 1) := dc_96 (dc_bv 96 (by decide) ((lg_25 28).trans rfl))
theorem dL_law_1629 : decode cL_law 1629 = .ok (.iaload, 1) := dc_46 (dc_bv 46 (by decide) ((lg_25 29).trans rfl))
theorem dL_law_1630 : decode cL_law 1630 = .ok (.aload_n 3, 1) := dc_45 (dc_bv 45 (by decide) ((lg_25 30).trans rfl))
theorem dL_law_1631 : decode cL_law 1631 = .ok (.invokestatic 222, 3) := dc_184 (dc_bv 184 (by decide) ((lg_25 31).trans rfl)) (dc_bv 0 (by decide) ((lg_25 32).trans rfl)) (dc_bv 222 (by decide) ((lg_25 33).trans rfl))
theorem dL_law_1634 : decode cL_law 1634 = .ok (.istore 5, 2) := dc_54 (dc_bv 54 (by decide) ((lg_25 34).trans rfl)) (dc_bv 5 (by decide) ((lg_25 35).trans rfl))
theorem dL_law_1636 : decode cL_law 1636 = .ok (.aload_n 2, 1) := dc_44 (dc_bv 44 (by decide) ((lg_25 36).trans rfl))
theorem dL_law_1637 : decode cL_law 1637 = .ok (.aload_n 0, 1) := dc_42 (dc_bv 42 (by decide) ((lg_25 37).trans rfl))
theorem dL_law_1638 : decode cL_law 1638 = .ok (.iload 4, 2) := dc_21 (dc_bv 21 (by decide) ((lg_25 38).trans rfl)) (dc_bv 4 (by decide) ((lg_25 39).trans rfl))
theorem dL_law_1640 : decode cL_law 1640 = .ok (.iconst 1, 1) := dc_4 (dc_bv 4 (by decide) ((lg_25 40).trans rfl))
theorem dL_law_1641 : decode cL_law 1641 = .ok (.iadd, 1) := dc_96 (dc_bv 96 (by decide) ((lg_25 41).trans rfl))
theorem dL_law_1642 : decode cL_law 1642 = .ok (.iaload, 1) := dc_46 (dc_bv 46 (by decide) ((lg_25 42).trans rfl))
theorem dL_law_1643 : decode cL_law 1643 = .ok (.invokevirtual 224, 3) := dc_182 (dc_bv 182 (by decide) ((lg_25 43).trans rfl)) (dc_bv 0 (by decide) ((lg_25 44).trans rfl)) (dc_bv 224 (by decide) ((lg_25 45).trans rfl))
theorem dL_law_1646 : decode cL_law 1646 = .ok (.lstore 6, 2) := dc_55 (dc_bv 55 (by decide) ((lg_25 46).trans rfl)) (dc_bv 6 (by decide) ((lg_25 47).trans rfl))
theorem dL_law_1648 : decode cL_law 1648 = .ok (.aload_n 2, 1) := dc_44 (dc_bv 44 (by decide) ((lg_25 48).trans rfl))
theorem dL_law_1649 : decode cL_law 1649 = .ok (.invokevirtual 138, 3) := dc_182 (dc_bv 182 (by decide) ((lg_25 49).trans rfl)) (dc_bv 0 (by decide) ((lg_25 50).trans rfl)) (dc_bv 138 (by decide) ((lg_25 51).trans rfl))
theorem dL_law_1652 : decode cL_law 1652 = .ok (.iload 5, 2) := dc_21 (dc_bv 21 (by decide) ((lg_25 52).trans rfl)) (dc_bv 5 (by decide) ((lg_25 53).trans rfl))
theorem dL_law_1654 : decode cL_law 1654 = .ok (.if_icmp .eq 5, 3) := dc_159 (dc_bv 159 (by decide) ((lg_25 54).trans rfl)) (dc_bv 0 (by decide) ((lg_25 55).trans rfl)) (dc_bv 5 (by decide) ((lg_25 56).trans rfl))
theorem dL_law_1657 : decode cL_law 1657 = .ok (.iconst 0, 1) := dc_3 (dc_bv 3 (by decide) ((lg_25 57).trans rfl))
theorem dL_law_1658 : decode cL_law 1658 = .ok (.ireturn, 1) := dc_172 (dc_bv 172 (by decide) ((lg_25 58).trans rfl))
theorem dL_law_1659 : decode cL_law 1659 = .ok (.iload 5, 2) := dc_21 (dc_bv 21 (by decide) ((lg_25 59).trans rfl)) (dc_bv 5 (by decide) ((lg_25 60).trans rfl))
theorem dL_law_1661 : decode cL_law 1661 = .ok (.ifCond .ne 14, 3) := dc_154 (dc_bv 154 (by decide) ((lg_25 61).trans rfl)) (dc_bv 0 (by decide) ((lg_25 62).trans rfl)) (dc_bv 14 (by decide) ((lg_25 63).trans rfl))
theorem dL_law_1664 : decode cL_law 1664 = .ok (.aload_n 3, 1) := dc_45 (dc_bv 45 (by decide) ((lg_26 0).trans rfl))
theorem dL_law_1665 : decode cL_law 1665 = .ok (.iconst 0, 1) := dc_3 (dc_bv 3 (by decide) ((lg_26 1).trans rfl))
theorem dL_law_1666 : decode cL_law 1666 = .ok (.laload, 1) := dc_47 (dc_bv 47 (by decide) ((lg_26 2).trans rfl))
theorem dL_law_1667 : decode cL_law 1667 = .ok (.lload 6, 2) := dc_22 (dc_bv 22 (by decide) ((lg_26 3).trans rfl)) (dc_bv 6 (by decide) ((lg_26 4).trans rfl))
theorem dL_law_1669 : decode cL_law 1669 = .ok (.lcmp, 1) := dc_148 (dc_bv 148 (by decide) ((lg_26 5).trans rfl))
theorem dL_law_1670 : decode cL_law 1670 = .ok (.ifCond .eq 5, 3) := dc_153 (dc_bv 153 (by decide) ((lg_26 6).trans rfl)) (dc_bv 0 (by decide) ((lg_26 7).trans rfl)) (dc_bv 5 (by decide) ((lg_26 8).trans rfl))
theorem dL_law_1673 : decode cL_law 1673 = .ok (.iconst 0, 1) := dc_3 (dc_bv 3 (by decide) ((lg_26 9).trans rfl))
theorem dL_law_1674 : decode cL_law 1674 = .ok (.ireturn, 1) := dc_172 (dc_bv 172 (by decide) ((lg_26 10).trans rfl))
theorem dL_law_1675 : decode cL_law 1675 = .ok (.goto 961, 3) := dc_167 (dc_bv 167 (by decide) ((lg_26 11).trans rfl)) (dc_bv 3 (by decide) ((lg_26 12).trans rfl)) (dc_bv 193 (by decide) ((lg_26 13).trans rfl))
theorem dL_law_1678 : decode cL_law 1678 = .ok (.aload_n 1, 1) := dc_43 (dc_bv 43 (by decide) ((lg_26 14).trans rfl))
theorem dL_law_1679 : decode cL_law 1679 = .ok (.aload_n 0, 1) := dc_42 (dc_bv 42 (by decide) ((lg_26 15).trans rfl))
theorem dL_law_1680 : decode cL_law 1680 = .ok (.iload 4, 2) := dc_21 (dc_bv 21 (by decide) ((lg_26 16).trans rfl)) (dc_bv 4 (by decide) ((lg_26 17).trans rfl))
theorem dL_law_1682 : decode cL_law 1682 = .ok (.iconst 1, 1) := dc_4 (dc_bv 4 (by decide) ((lg_26 18).trans rfl))
theorem dL_law_1683 : decode cL_law 1683 = .ok (.iadd, 1) := dc_96 (dc_bv 96 (by decide) ((lg_26 19).trans rfl))
theorem dL_law_1684 : decode cL_law 1684 = .ok (.iaload, 1) := dc_46 (dc_bv 46 (by decide) ((lg_26 20).trans rfl))
theorem dL_law_1685 : decode cL_law 1685 = .ok (.aload_n 0, 1) := dc_42 (dc_bv 42 (by decide) ((lg_26 21).trans rfl))
theorem dL_law_1686 : decode cL_law 1686 = .ok (.iload 4, 2) := dc_21 (dc_bv 21 (by decide) ((lg_26 22).trans rfl)) (dc_bv 4 (by decide) ((lg_26 23).trans rfl))
theorem dL_law_1688 : decode cL_law 1688 = .ok (.iconst 2, 1) := dc_5 (dc_bv 5 (by decide) ((lg_26 24).trans rfl))
theorem dL_law_1689 : decode cL_law 1689 = .ok (.iadd, 1) := dc_96 (dc_bv 96 (by decide) ((lg_26 25).trans rfl))
theorem dL_law_1690 : decode cL_law 1690 = .ok (.iaload, 1) := dc_46 (dc_bv 46 (by decide) ((lg_26 26).trans rfl))
theorem dL_law_1691 : decode cL_law 1691 = .ok (.ifCond .eq 7, 3) := dc_153 (dc_bv 153 (by decide) ((lg_26 27).trans rfl)) (dc_bv 0 (by decide) ((lg_26 28).trans rfl)) (dc_bv 7 (by decide) ((lg_26 29).trans rfl))
theorem dL_law_1694 : decode cL_law 1694 = .ok (.iconst 1, 1) := dc_4 (dc_bv 4 (by decide) ((lg_26 30).trans rfl))
theorem dL_law_1695 : decode cL_law 1695 = .ok (.goto 4, 3) := dc_167 (dc_bv 167 (by decide) ((lg_26 31).trans rfl)) (dc_bv 0 (by decide) ((lg_26 32).trans rfl)) (dc_bv 4 (by decide) ((lg_26 33).trans rfl))
theorem dL_law_1698 : decode cL_law 1698 = .ok (.iconst 0, 1) := dc_3 (dc_bv 3 (by decide) ((lg_26 34).trans rfl))
theorem dL_law_1699 : decode cL_law 1699 = .ok (.aload_n 3, 1) := dc_45 (dc_bv 45 (by decide) ((lg_26 35).trans rfl))
theorem dL_law_1700 : decode cL_law 1700 = .ok (.invokestatic 225, 3) := dc_184 (dc_bv 184 (by decide) ((lg_26 36).trans rfl)) (dc_bv 0 (by decide) ((lg_26 37).trans rfl)) (dc_bv 225 (by decide) ((lg_26 38).trans rfl))
theorem dL_law_1703 : decode cL_law 1703 = .ok (.istore 5, 2) := dc_54 (dc_bv 54 (by decide) ((lg_26 39).trans rfl)) (dc_bv 5 (by decide) ((lg_26 40).trans rfl))
theorem dL_law_1705 : decode cL_law 1705 = .ok (.aload_n 2, 1) := dc_44 (dc_bv 44 (by decide) ((lg_26 41).trans rfl))
theorem dL_law_1706 : decode cL_law 1706 = .ok (.aload_n 0, 1) := dc_42 (dc_bv 42 (by decide) ((lg_26 42).trans rfl))
theorem dL_law_1707 : decode cL_law 1707 = .ok (.iload 4, 2) := dc_21 (dc_bv 21 (by decide) ((lg_26 43).trans rfl)) (dc_bv 4 (by decide) ((lg_26 44).trans rfl))
theorem dL_law_1709 : decode cL_law 1709 = .ok (.iconst 1, 1) := dc_4 (dc_bv 4 (by decide) ((lg_26 45).trans rfl))
theorem dL_law_1710 : decode cL_law 1710 = .ok (.iadd, 1) := dc_96 (dc_bv 96 (by decide) ((lg_26 46).trans rfl))
theorem dL_law_1711 : decode cL_law 1711 = .ok (.iaload, 1) := dc_46 (dc_bv 46 (by decide) ((lg_26 47).trans rfl))
theorem dL_law_1712 : decode cL_law 1712 = .ok (.aload_n 0, 1) := dc_42 (dc_bv 42 (by decide) ((lg_26 48).trans rfl))
theorem dL_law_1713 : decode cL_law 1713 = .ok (.iload 4, 2) := dc_21 (dc_bv 21 (by decide) ((lg_26 49).trans rfl)) (dc_bv 4 (by decide) ((lg_26 50).trans rfl))
theorem dL_law_1715 : decode cL_law 1715 = .ok (.iconst 2, 1) := dc_5 (dc_bv 5 (by decide) ((lg_26 51).trans rfl))
theorem dL_law_1716 : decode cL_law 1716 = .ok (.iadd, 1) := dc_96 (dc_bv 96 (by decide) ((lg_26 52).trans rfl))
theorem dL_law_1717 : decode cL_law 1717 = .ok (.iaload, 1) := dc_46 (dc_bv 46 (by decide) ((lg_26 53).trans rfl))
theorem dL_law_1718 : decode cL_law 1718 = .ok (.ifCond .eq 7, 3) := dc_153 (dc_bv 153 (by decide) ((lg_26 54).trans rfl)) (dc_bv 0 (by decide) ((lg_26 55).trans rfl)) (dc_bv 7 (by decide) ((lg_26 56).trans rfl))
theorem dL_law_1721 : decode cL_law 1721 = .ok (.iconst 1, 1) := dc_4 (dc_bv 4 (by decide) ((lg_26 57).trans rfl))
theorem dL_law_1722 : decode cL_law 1722 = .ok (.goto 4, 3) := dc_167 (dc_bv 167 (by decide) ((lg_26 58).trans rfl)) (dc_bv 0 (by decide) ((lg_26 59).trans rfl)) (dc_bv 4 (by decide) ((lg_26 60).trans rfl))
theorem dL_law_1725 : decode cL_law 1725 = .ok (.iconst 0, 1) := dc_3 (dc_bv 3 (by decide) ((lg_26 61).trans rfl))
theorem dL_law_1726 : decode cL_law 1726 = .ok (.invokevirtual 227, 3) := dc_182 (dc_bv 182 (by decide) ((lg_26 62).trans rfl)) (dc_bv 0 (by decide) ((lg_26 63).trans rfl)) (dc_bv 227 (by decide) ((lg_27 0).trans rfl))
theorem dL_law_1729 : decode cL_law 1729 = .ok (.istore 6, 2) := dc_54 (dc_bv 54 (by decide) ((lg_27 1).trans rfl)) (dc_bv 6 (by decide) ((lg_27 2).trans rfl))
theorem dL_law_1731 : decode cL_law 1731 = .ok (.aload_n 2, 1) := dc_44 (dc_bv 44 (by decide) ((lg_27 3).trans rfl))
theorem dL_law_1732 : decode cL_law 1732 = .ok (.invokevirtual 138, 3) := dc_182 (dc_bv 182 (by decide) ((lg_27 4).trans rfl)) (dc_bv 0 (by decide) ((lg_27 5).trans rfl)) (dc_bv 138 (by decide) ((lg_27 6).trans rfl))
theorem dL_law_1735 : decode cL_law 1735 = .ok (.iload 5, 2) := dc_21 (dc_bv 21 (by decide) ((lg_27 7).trans rfl)) (dc_bv 5 (by decide) ((lg_27 8).trans rfl))
theorem dL_law_1737 : decode cL_law 1737 = .ok (.if_icmp .eq 5, 3) := dc_159 (dc_bv 159 (by decide) ((lg_27 9).trans rfl)) (dc_bv 0 (by decide) ((lg_27 10).trans rfl)) (dc_bv 5 (by decide) ((lg_27 11).trans rfl))
theorem dL_law_1740 : decode cL_law 1740 = .ok (.iconst 0, 1) := dc_3 (dc_bv 3 (by decide) ((lg_27 12).trans rfl))
theorem dL_law_1741 : decode cL_law 1741 = .ok (.ireturn, 1) := dc_172 (dc_bv 172 (by decide) ((lg_27 13).trans rfl))
theorem dL_law_1742 : decode cL_law 1742 = .ok (.iload 5, 2) := dc_21 (dc_bv 21 (by decide) ((lg_27 14).trans rfl)) (dc_bv 5 (by decide) ((lg_27 15).trans rfl))
theorem dL_law_1744 : decode cL_law 1744 = .ok (.ifCond .ne 22, 3) := dc_154 (dc_bv 154 (by decide) ((lg_27 16).trans rfl)) (dc_bv 0 (by decide) ((lg_27 17).trans rfl)) (dc_bv 22 (by decide) ((lg_27 18).trans rfl))
theorem dL_law_1747 : decode cL_law 1747 = .ok (.aload_n 3, 1) := dc_45 (dc_bv 45 (by decide) ((lg_27 19).trans rfl))
theorem dL_law_1748 : decode cL_law 1748 = .ok (.iconst 0, 1) := dc_3 (dc_bv 3 (by decide) ((lg_27 20).trans rfl))
theorem dL_law_1749 : decode cL_law 1749 = .ok (.laload, 1) := dc_47 (dc_bv 47 (by decide) ((lg_27 21).trans rfl))
theorem dL_law_1750 : decode cL_law 1750 = .ok (.iload 6, 2) := dc_21 (dc_bv 21 (by decide) ((lg_27 22).trans rfl)) (dc_bv 6 (by decide) ((lg_27 23).trans rfl))
theorem dL_law_1752 : decode cL_law 1752 = .ok (.ifCond .eq 7, 3) := dc_153 (dc_bv 153 (by decide) ((lg_27 24).trans rfl)) (dc_bv 0 (by decide) ((lg_27 25).trans rfl)) (dc_bv 7 (by decide) ((lg_27 26).trans rfl))
theorem dL_law_1755 : decode cL_law 1755 = .ok (.lconst 1, 1) := dc_10 (dc_bv 10 (by decide) ((lg_27 27).trans rfl))
theorem dL_law_1756 : decode cL_law 1756 = .ok (.goto 4, 3) := dc_167 (dc_bv 167 (by decide) ((lg_27 28).trans rfl)) (dc_bv 0 (by decide) ((lg_27 29).trans rfl)) (dc_bv 4 (by decide) ((lg_27 30).trans rfl))
theorem dL_law_1759 : decode cL_law 1759 = .ok (.lconst 0, 1) := dc_9 (dc_bv 9 (by decide) ((lg_27 31).trans rfl))
theorem dL_law_1760 : decode cL_law 1760 = .ok (.lcmp, 1) := dc_148 (dc_bv 148 (by decide) ((lg_27 32).trans rfl))
theorem dL_law_1761 : decode cL_law 1761 = .ok (.ifCond .eq 5, 3) := dc_153 (dc_bv 153 (by decide) ((lg_27 33).trans rfl)) (dc_bv 0 (by decide) ((lg_27 34).trans rfl)) (dc_bv 5 (by decide) ((lg_27 35).trans rfl))
theorem dL_law_1764 : decode cL_law 1764 = .ok (.iconst 0, 1) := dc_3 (dc_bv 3 (by decide) ((lg_27 36).trans rfl))
theorem dL_law_1765 : decode cL_law 1765 = .ok (.ireturn, 1) := dc_172 (dc_bv 172 (by decide) ((lg_27 37).trans rfl))
theorem dL_law_1766 : decode cL_law 1766 = .ok (.goto 870, 3) := dc_167 (dc_bv 167 (by decide) ((lg_27 38).trans rfl)) (dc_bv 3 (by decide) ((lg_27 39).trans rfl)) (dc_bv 102 (by decide) ((lg_27 40).trans rfl))
theorem dL_law_1769 : decode cL_law 1769 = .ok (.aload_n 1, 1) := dc_43 (dc_bv 43 (by decide) ((lg_27 41).trans rfl))
theorem dL_law_1770 : decode cL_law 1770 = .ok (.aload_n 0, 1) := dc_42 (dc_bv 42 (by decide) ((lg_27 42).trans rfl))
theorem dL_law_1771 : decode cL_law 1771 = .ok (.iload 4, 2) := dc_21 (dc_bv 21 (by decide) ((lg_27 43).trans rfl)) (dc_bv 4 (by decide) ((lg_27 44).trans rfl))
theorem dL_law_1773 : decode cL_law 1773 = .ok (.iconst 1, 1) := dc_4 (dc_bv 4 (by decide) ((lg_27 45).trans rfl))
theorem dL_law_1774 : decode cL_law 1774 = .ok (.iadd, 1) := dc_96 (dc_bv 96 (by decide) ((lg_27 46).trans rfl))
theorem dL_law_1775 : decode cL_law 1775 = .ok (.iaload, 1) := dc_46 (dc_bv 46 (by decide) ((lg_27 47).trans rfl))
theorem dL_law_1776 : decode cL_law 1776 = .ok (.aload_n 3, 1) := dc_45 (dc_bv 45 (by decide) ((lg_27 48).trans rfl))
theorem dL_law_1777 : decode cL_law 1777 = .ok (.invokestatic 228, 3) := dc_184 (dc_bv 184 (by decide) ((lg_27 49).trans rfl)) (dc_bv 0 (by decide) ((lg_27 50).trans rfl)) (dc_bv 228 (by decide) ((lg_27 51).trans rfl))
theorem dL_law_1780 : decode cL_law 1780 = .ok (.istore 5, 2) := dc_54 (dc_bv 54 (by decide) ((lg_27 52).trans rfl)) (dc_bv 5 (by decide) ((lg_27 53).trans rfl))
theorem dL_law_1782 : decode cL_law 1782 = .ok (.aload_n 2, 1) := dc_44 (dc_bv 44 (by decide) ((lg_27 54).trans rfl))
theorem dL_law_1783 : decode cL_law 1783 = .ok (.aload_n 0, 1) := dc_42 (dc_bv 42 (by decide) ((lg_27 55).trans rfl))
theorem dL_law_1784 : decode cL_law 1784 = .ok (.iload 4, 2) := dc_21 (dc_bv 21 (by decide) ((lg_27 56).trans rfl)) (dc_bv 4 (by decide) ((lg_27 57).trans rfl))
theorem dL_law_1786 : decode cL_law 1786 = .ok (.iconst 1, 1) := dc_4 (dc_bv 4 (by decide) ((lg_27 58).trans rfl))
theorem dL_law_1787 : decode cL_law 1787 = .ok (.iadd, 1) := dc_96 (dc_bv 96 (by decide) ((lg_27 59).trans rfl))
theorem dL_law_1788 : decode cL_law 1788 = .ok (.iaload, 1) := dc_46 (dc_bv 46 (by decide) ((lg_27 60).trans rfl))
theorem dL_law_1789 : decode cL_law 1789 = .ok (.invokevirtual 230, 3) := dc_182 (dc_bv 182 (by decide) ((lg_27 61).trans rfl)) (dc_bv 0 (by decide) ((lg_27 62).trans rfl)) (dc_bv 230 (by decide) ((lg_27 63).trans rfl))
theorem dL_law_1792 : decode cL_law 1792 = .ok (.istore 6, 2) := dc_54 (dc_bv 54 (by decide) ((lg_28 0).trans rfl)) (dc_bv 6 (by decide) ((lg_28 1).trans rfl))
theorem dL_law_1794 : decode cL_law 1794 = .ok (.aload_n 2, 1) := dc_44 (dc_bv 44 (by decide) ((lg_28 2).trans rfl))
theorem dL_law_1795 : decode cL_law 1795 = .ok (.invokevirtual 138, 3) := dc_182 (dc_bv 182 (by decide) ((lg_28 3).trans rfl)) (dc_bv 0 (by decide) ((lg_28 4).trans rfl)) (dc_bv 138 (by decide) ((lg_28 5).trans rfl))
theorem dL_law_1798 : decode cL_law 1798 = .ok (.iload 5, 2) := dc_21 (dc_bv 21 (by decide) ((lg_28 6).trans rfl)) (dc_bv 5 (by decide) ((lg_28 7).trans rfl))
theorem dL_law_1800 : decode cL_law 1800 = .ok (.if_icmp .eq 5, 3) := dc_159 (dc_bv 159 (by decide) ((lg_28 8).trans rfl)) (dc_bv 0 (by decide) ((lg_28 9).trans rfl)) (dc_bv 5 (by decide) ((lg_28 10).trans rfl))
theorem dL_law_1803 : decode cL_law 1803 = .ok (.iconst 0, 1) := dc_3 (dc_bv 3 (by decide) ((lg_28 11).trans rfl))
theorem dL_law_1804 : decode cL_law 1804 = .ok (.ireturn, 1) := dc_172 (dc_bv 172 (by decide) ((lg_28 12).trans rfl))
theorem dL_law_1805 : decode cL_law 1805 = .ok (.iload 5, 2) := dc_21 (dc_bv 21 (by decide) ((lg_28 13).trans rfl)) (dc_bv 5 (by decide) ((lg_28 14).trans rfl))
theorem dL_law_1807 : decode cL_law 1807 = .ok (.ifCond .ne 15, 3) := dc_154 (dc_bv 154 (by decide) ((lg_28 15).trans rfl)) (dc_bv 0 (by decide) ((lg_28 16).trans rfl)) (dc_bv 15 (by decide) ((lg_28 17).trans rfl))
theorem dL_law_1810 : decode cL_law 1810 = .ok (.aload_n 3, 1) := dc_45 (dc_bv 45 (by decide) ((lg_28 18).trans rfl))
theorem dL_law_1811 : decode cL_law 1811 = .ok (.iconst 0, 1) := dc_3 (dc_bv 3 (by decide) ((lg_28 19).trans rfl))
theorem dL_law_1812 : decode cL_law 1812 = .ok (.laload, 1) := dc_47 (dc_bv 47 (by decide) ((lg_28 20).trans rfl))
theorem dL_law_1813 : decode cL_law 1813 = .ok (.iload 6, 2) := dc_21 (dc_bv 21 (by decide) ((lg_28 21).trans rfl)) (dc_bv 6 (by decide) ((lg_28 22).trans rfl))
theorem dL_law_1815 : decode cL_law 1815 = .ok (.i2l, 1) := dc_133 (dc_bv 133 (by decide) ((lg_28 23).trans rfl))
theorem dL_law_1816 : decode cL_law 1816 = .ok (.lcmp, 1) := dc_148 (dc_bv 148 (by decide) ((lg_28 24).trans rfl))
theorem dL_law_1817 : decode cL_law 1817 = .ok (.ifCond .eq 5, 3) := dc_153 (dc_bv 153 (by decide) ((lg_28 25).trans rfl)) (dc_bv 0 (by decide) ((lg_28 26).trans rfl)) (dc_bv 5 (by decide) ((lg_28 27).trans rfl))
theorem dL_law_1820 : decode cL_law 1820 = .ok (.iconst 0, 1) := dc_3 (dc_bv 3 (by decide) ((lg_28 28).trans rfl))
theorem dL_law_1821 : decode cL_law 1821 = .ok (.ireturn, 1) := dc_172 (dc_bv 172 (by decide) ((lg_28 29).trans rfl))
theorem dL_law_1822 : decode cL_law 1822 = .ok (.goto 814, 3) := dc_167 (dc_bv 167 (by decide) ((lg_28 30).trans rfl)) (dc_bv 3 (by decide) ((lg_28 31).trans rfl)) (dc_bv 46 (by decide) ((lg_28 32).trans rfl))
theorem dL_law_1825 : decode cL_law 1825 = .ok (.aload_n 1, 1) := dc_43 (dc_bv 43 (by decide) ((lg_28 33).trans rfl))
theorem dL_law_1826 : decode cL_law 1826 = .ok (.aload_n 0, 1) := dc_42 (dc_bv 42 (by decide) ((lg_28 34).trans rfl))
theorem dL_law_1827 : decode cL_law 1827 = .ok (.iload 4, 2) := dc_21 (dc_bv 21 (by decide) ((lg_28 35).trans rfl)) (dc_bv 4 (by decide) ((lg_28 36).trans rfl))
theorem dL_law_1829 : decode cL_law 1829 = .ok (.iconst 1, 1) := dc_4 (dc_bv 4 (by decide) ((lg_28 37).trans rfl))
theorem dL_law_1830 : decode cL_law 1830 = .ok (.iadd, 1) := dc_96 (dc_bv 96 (by decide) ((lg_28 38).trans rfl))
theorem dL_law_1831 : decode cL_law 1831 = .ok (.iaload, 1) := dc_46 (dc_bv 46 (by decide) ((lg_28 39).trans rfl))
theorem dL_law_1832 : decode cL_law 1832 = .ok (.aload_n 0, 1) := dc_42 (dc_bv 42 (by decide) ((lg_28 40).trans rfl))
theorem dL_law_1833 : decode cL_law 1833 = .ok (.iload 4, 2) := dc_21 (dc_bv 21 (by decide) ((lg_28 41).trans rfl)) (dc_bv 4 (by decide) ((lg_28 42).trans rfl))
theorem dL_law_1835 : decode cL_law 1835 = .ok (.iconst 2, 1) := dc_5 (dc_bv 5 (by decide) ((lg_28 43).trans rfl))
theorem dL_law_1836 : decode cL_law 1836 = .ok (.iadd, 1) := dc_96 (dc_bv 96 (by decide) ((lg_28 44).trans rfl))
theorem dL_law_1837 : decode cL_law 1837 = .ok (.iaload, 1) := dc_46 (dc_bv 46 (by decide) ((lg_28 45).trans rfl))
theorem dL_law_1838 : decode cL_law 1838 = .ok (.aload_n 3, 1) := dc_45 (dc_bv 45 (by decide) ((lg_28 46).trans rfl))
theorem dL_law_1839 : decode cL_law 1839 = .ok (.invokestatic 231, 3) := dc_184 (dc_bv 184 (by decide) ((lg_28 47).trans rfl)) (dc_bv 0 (by decide) ((lg_28 48).trans rfl)) (dc_bv 231 (by decide) ((lg_28 49).trans rfl))
theorem dL_law_1842 : decode cL_law 1842 = .ok (.istore 5, 2) := dc_54 (dc_bv 54 (by decide) ((lg_28 50).trans rfl)) (dc_bv 5 (by decide) ((lg_28 51).trans rfl))
theorem dL_law_1844 : decode cL_law 1844 = .ok (.aload_n 2, 1) := dc_44 (dc_bv 44 (by decide) ((lg_28 52).trans rfl))
theorem dL_law_1845 : decode cL_law 1845 = .ok (.aload_n 0, 1) := dc_42 (dc_bv 42 (by decide) ((lg_28 53).trans rfl))
theorem dL_law_1846 : decode cL_law 1846 = .ok (.iload 4, 2) := dc_21 (dc_bv 21 (by decide) ((lg_28 54).trans rfl)) (dc_bv 4 (by decide) ((lg_28 55).trans rfl))
theorem dL_law_1848 : decode cL_law 1848 = .ok (.iconst 1, 1) := dc_4 (dc_bv 4 (by decide) ((lg_28 56).trans rfl))
theorem dL_law_1849 : decode cL_law 1849 = .ok (.iadd, 1) := dc_96 (dc_bv 96 (by decide) ((lg_28 57).trans rfl))
theorem dL_law_1850 : decode cL_law 1850 = .ok (.iaload, 1) := dc_46 (dc_bv 46 (by decide) ((lg_28 58).trans rfl))
theorem dL_law_1851 : decode cL_law 1851 = .ok (.aload_n 0, 1) := dc_42 (dc_bv 42 (by decide) ((lg_28 59).trans rfl))
theorem dL_law_1852 : decode cL_law 1852 = .ok (.iload 4, 2) := dc_21 (dc_bv 21 (by decide) ((lg_28 60).trans rfl)) (dc_bv 4 (by decide) ((lg_28 61).trans rfl))
theorem dL_law_1854 : decode cL_law 1854 = .ok (.iconst 2, 1) := dc_5 (dc_bv 5 (by decide) ((lg_28 62).trans rfl))
theorem dL_law_1855 : decode cL_law 1855 = .ok (.iadd, 1) := dc_96 (dc_bv 96 (by decide) ((lg_28 63).trans rfl))
theorem dL_law_1856 : decode cL_law 1856 = .ok (.iaload, 1) := dc_46 (dc_bv 46 (by decide) ((lg_29 0).trans rfl))
theorem dL_law_1857 : decode cL_law 1857 = .ok (.invokevirtual 233, 3) := dc_182 (dc_bv 182 (by decide) ((lg_29 1).trans rfl)) (dc_bv 0 (by decide) ((lg_29 2).trans rfl)) (dc_bv 233 (by decide) ((lg_29 3).trans rfl))
theorem dL_law_1860 : decode cL_law 1860 = .ok (.istore 6, 2) := dc_54 (dc_bv 54 (by decide) ((lg_29 4).trans rfl)) (dc_bv 6 (by decide) ((lg_29 5).trans rfl))
theorem dL_law_1862 : decode cL_law 1862 = .ok (.aload_n 2, 1) := dc_44 (dc_bv 44 (by decide) ((lg_29 6).trans rfl))
theorem dL_law_1863 : decode cL_law 1863 = .ok (.invokevirtual 138, 3) := dc_182 (dc_bv 182 (by decide) ((lg_29 7).trans rfl)) (dc_bv 0 (by decide) ((lg_29 8).trans rfl)) (dc_bv 138 (by decide) ((lg_29 9).trans rfl))
theorem dL_law_1866 : decode cL_law 1866 = .ok (.iload 5, 2) := dc_21 (dc_bv 21 (by decide) ((lg_29 10).trans rfl)) (dc_bv 5 (by decide) ((lg_29 11).trans rfl))
theorem dL_law_1868 : decode cL_law 1868 = .ok (.if_icmp .eq 5, 3) := dc_159 (dc_bv 159 (by decide) ((lg_29 12).trans rfl)) (dc_bv 0 (by decide) ((lg_29 13).trans rfl)) (dc_bv 5 (by decide) ((lg_29 14).trans rfl))
theorem dL_law_1871 : decode cL_law 1871 = .ok (.iconst 0, 1) := dc_3 (dc_bv 3 (by decide) ((lg_29 15).trans rfl))
theorem dL_law_1872 : decode cL_law 1872 = .ok (.ireturn, 1) := dc_172 (dc_bv 172 (by decide) ((lg_29 16).trans rfl))
theorem dL_law_1873 : decode cL_law 1873 = .ok (.iload 5, 2) := dc_21 (dc_bv 21 (by decide) ((lg_29 17).trans rfl)) (dc_bv 5 (by decide) ((lg_29 18).trans rfl))
theorem dL_law_1875 : decode cL_law 1875 = .ok (.ifCond .ne 15, 3) := dc_154 (dc_bv 154 (by decide) ((lg_29 19).trans rfl)) (dc_bv 0 (by decide) ((lg_29 20).trans rfl)) (dc_bv 15 (by decide) ((lg_29 21).trans rfl))
theorem dL_law_1878 : decode cL_law 1878 = .ok (.aload_n 3, 1) := dc_45 (dc_bv 45 (by decide) ((lg_29 22).trans rfl))
theorem dL_law_1879 : decode cL_law 1879 = .ok (.iconst 0, 1) := dc_3 (dc_bv 3 (by decide) ((lg_29 23).trans rfl))
theorem dL_law_1880 : decode cL_law 1880 = .ok (.laload, 1) := dc_47 (dc_bv 47 (by decide) ((lg_29 24).trans rfl))
theorem dL_law_1881 : decode cL_law 1881 = .ok (.iload 6, 2) := dc_21 (dc_bv 21 (by decide) ((lg_29 25).trans rfl)) (dc_bv 6 (by decide) ((lg_29 26).trans rfl))
theorem dL_law_1883 : decode cL_law 1883 = .ok (.i2l, 1) := dc_133 (dc_bv 133 (by decide) ((lg_29 27).trans rfl))
theorem dL_law_1884 : decode cL_law 1884 = .ok (.lcmp, 1) := dc_148 (dc_bv 148 (by decide) ((lg_29 28).trans rfl))
theorem dL_law_1885 : decode cL_law 1885 = .ok (.ifCond .eq 5, 3) := dc_153 (dc_bv 153 (by decide) ((lg_29 29).trans rfl)) (dc_bv 0 (by decide) ((lg_29 30).trans rfl)) (dc_bv 5 (by decide) ((lg_29 31).trans rfl))
theorem dL_law_1888 : decode cL_law 1888 = .ok (.iconst 0, 1) := dc_3 (dc_bv 3 (by decide) ((lg_29 32).trans rfl))
theorem dL_law_1889 : decode cL_law 1889 = .ok (.ireturn, 1) := dc_172 (dc_bv 172 (by decide) ((lg_29 33).trans rfl))
theorem dL_law_1890 : decode cL_law 1890 = .ok (.goto 746, 3) := dc_167 (dc_bv 167 (by decide) ((lg_29 34).trans rfl)) (dc_bv 2 (by decide) ((lg_29 35).trans rfl)) (dc_bv 234 (by decide) ((lg_29 36).trans rfl))
theorem dL_law_1893 : decode cL_law 1893 = .ok (.aload_n 1, 1) := dc_43 (dc_bv 43 (by decide) ((lg_29 37).trans rfl))
theorem dL_law_1894 : decode cL_law 1894 = .ok (.aload_n 0, 1) := dc_42 (dc_bv 42 (by decide) ((lg_29 38).trans rfl))
theorem dL_law_1895 : decode cL_law 1895 = .ok (.iload 4, 2) := dc_21 (dc_bv 21 (by decide) ((lg_29 39).trans rfl)) (dc_bv 4 (by decide) ((lg_29 40).trans rfl))
theorem dL_law_1897 : decode cL_law 1897 = .ok (.iconst 1, 1) := dc_4 (dc_bv 4 (by decide) ((lg_29 41).trans rfl))
theorem dL_law_1898 : decode cL_law 1898 = .ok (.iadd, 1) := dc_96 (dc_bv 96 (by decide) ((lg_29 42).trans rfl))
theorem dL_law_1899 : decode cL_law 1899 = .ok (.iaload, 1) := dc_46 (dc_bv 46 (by decide) ((lg_29 43).trans rfl))
theorem dL_law_1900 : decode cL_law 1900 = .ok (.aload_n 0, 1) := dc_42 (dc_bv 42 (by decide) ((lg_29 44).trans rfl))
theorem dL_law_1901 : decode cL_law 1901 = .ok (.iload 4, 2) := dc_21 (dc_bv 21 (by decide) ((lg_29 45).trans rfl)) (dc_bv 4 (by decide) ((lg_29 46).trans rfl))
theorem dL_law_1903 : decode cL_law 1903 = .ok (.iconst 2, 1) := dc_5 (dc_bv 5 (by decide) ((lg_29 47).trans rfl))
theorem dL_law_1904 : decode cL_law 1904 = .ok (.iadd, 1) := dc_96 (dc_bv 96 (by decide) ((lg_29 48).trans rfl))
theorem dL_law_1905 : decode cL_law 1905 = .ok (.iaload, 1) := dc_46 (dc_bv 46 (by decide) ((lg_29 49).trans rfl))
theorem dL_law_1906 : decode cL_law 1906 = .ok (.aload_n 0, 1) := dc_42 (dc_bv 42 (by decide) ((lg_29 50).trans rfl))
theorem dL_law_1907 : decode cL_law 1907 = .ok (.iload 4, 2) := dc_21 (dc_bv 21 (by decide) ((lg_29 51).trans rfl)) (dc_bv 4 (by decide) ((lg_29 52).trans rfl))
theorem dL_law_1909 : decode cL_law 1909 = .ok (.iconst 3, 1) := dc_6 (dc_bv 6 (by decide) ((lg_29 53).trans rfl))
theorem dL_law_1910 : decode cL_law 1910 = .ok (.iadd, 1) := dc_96 (dc_bv 96 (by decide) ((lg_29 54).trans rfl))
theorem dL_law_1911 : decode cL_law 1911 = .ok (.iaload, 1) := dc_46 (dc_bv 46 (by decide) ((lg_29 55).trans rfl))
theorem dL_law_1912 : decode cL_law 1912 = .ok (.aload_n 3, 1) := dc_45 (dc_bv 45 (by decide) ((lg_29 56).trans rfl))
theorem dL_law_1913 : decode cL_law 1913 = .ok (.invokestatic 234, 3) := dc_184 (dc_bv 184 (by decide) ((lg_29 57).trans rfl)) (dc_bv 0 (by decide) ((lg_29 58).trans rfl)) (dc_bv 234 (by decide) ((lg_29 59).trans rfl))
theorem dL_law_1916 : decode cL_law 1916 = .ok (.istore 5, 2) := dc_54 (dc_bv 54 (by decide) ((lg_29 60).trans rfl)) (dc_bv 5 (by decide) ((lg_29 61).trans rfl))
theorem dL_law_1918 : decode cL_law 1918 = .ok (.aload_n 2, 1) := dc_44 (dc_bv 44 (by decide) ((lg_29 62).trans rfl))
theorem dL_law_1919 : decode cL_law 1919 = .ok (.aload_n 0, 1) := dc_42 (dc_bv 42 (by decide) ((lg_29 63).trans rfl))
theorem dL_law_1920 : decode cL_law 1920 = .ok (.iload 4, 2) := dc_21 (dc_bv 21 (by decide) ((lg_30 0).trans rfl)) (dc_bv 4 (by decide) ((lg_30 1).trans rfl))
theorem dL_law_1922 : decode cL_law 1922 = .ok (.iconst 1, 1) := dc_4 (dc_bv 4 (by decide) ((lg_30 2).trans rfl))
theorem dL_law_1923 : decode cL_law 1923 = .ok (.iadd, 1) := dc_96 (dc_bv 96 (by decide) ((lg_30 3).trans rfl))
theorem dL_law_1924 : decode cL_law 1924 = .ok (.iaload, 1) := dc_46 (dc_bv 46 (by decide) ((lg_30 4).trans rfl))
theorem dL_law_1925 : decode cL_law 1925 = .ok (.aload_n 0, 1) := dc_42 (dc_bv 42 (by decide) ((lg_30 5).trans rfl))
theorem dL_law_1926 : decode cL_law 1926 = .ok (.iload 4, 2) := dc_21 (dc_bv 21 (by decide) ((lg_30 6).trans rfl)) (dc_bv 4 (by decide) ((lg_30 7).trans rfl))
theorem dL_law_1928 : decode cL_law 1928 = .ok (.iconst 2, 1) := dc_5 (dc_bv 5 (by decide) ((lg_30 8).trans rfl))
theorem dL_law_1929 : decode cL_law 1929 = .ok (.iadd, 1) := dc_96 (dc_bv 96 (by decide) ((lg_30 9).trans rfl))
theorem dL_law_1930 : decode cL_law 1930 = .ok (.iaload, 1) := dc_46 (dc_bv 46 (by decide) ((lg_30 10).trans rfl))
theorem dL_law_1931 : decode cL_law 1931 = .ok (.aload_n 0, 1) := dc_42 (dc_bv 42 (by decide) ((lg_30 11).trans rfl))
theorem dL_law_1932 : decode cL_law 1932 = .ok (.iload 4, 2) := dc_21 (dc_bv 21 (by decide) ((lg_30 12).trans rfl)) (dc_bv 4 (by decide) ((lg_30 13).trans rfl))
theorem dL_law_1934 : decode cL_law 1934 = .ok (.iconst 3, 1) := dc_6 (dc_bv 6 (by decide) ((lg_30 14).trans rfl))
theorem dL_law_1935 : decode cL_law 1935 = .ok (.iadd, 1) := dc_96 (dc_bv 96 (by decide) ((lg_30 15).trans rfl))
theorem dL_law_1936 : decode cL_law 1936 = .ok (.iaload, 1) := dc_46 (dc_bv 46 (by decide) ((lg_30 16).trans rfl))
theorem dL_law_1937 : decode cL_law 1937 = .ok (.invokevirtual 237, 3) := dc_182 (dc_bv 182 (by decide) ((lg_30 17).trans rfl)) (dc_bv 0 (by decide) ((lg_30 18).trans rfl)) (dc_bv 237 (by decide) ((lg_30 19).trans rfl))
theorem dL_law_1940 : decode cL_law 1940 = .ok (.istore 6, 2) := dc_54 (dc_bv 54 (by decide) ((lg_30 20).trans rfl)) (dc_bv 6 (by decide) ((lg_30 21).trans rfl))
theorem dL_law_1942 : decode cL_law 1942 = .ok (.aload_n 2, 1) := dc_44 (dc_bv 44 (by decide) ((lg_30 22).trans rfl))
theorem dL_law_1943 : decode cL_law 1943 = .ok (.invokevirtual 138, 3) := dc_182 (dc_bv 182 (by decide) ((lg_30 23).trans rfl)) (dc_bv 0 (by decide) ((lg_30 24).trans rfl)) (dc_bv 138 (by decide) ((lg_30 25).trans rfl))
theorem dL_law_1946 : decode cL_law 1946 = .ok (.iload 5, 2) := dc_21 (dc_bv 21 (by decide) ((lg_30 26).trans rfl)) (dc_bv 5 (by decide) ((lg_30 27).trans rfl))
theorem dL_law_1948 : decode cL_law 1948 = .ok (.if_icmp .eq 5, 3) := dc_159 (dc_bv 159 (by decide) ((lg_30 28).trans rfl)) (dc_bv 0 (by decide) ((lg_30 29).trans rfl)) (dc_bv 5 (by decide) ((lg_30 30).trans rfl))
theorem dL_law_1951 : decode cL_law 1951 = .ok (.iconst 0, 1) := dc_3 (dc_bv 3 (by decide) ((lg_30 31).trans rfl))
theorem dL_law_1952 : decode cL_law 1952 = .ok (.ireturn, 1) := dc_172 (dc_bv 172 (by decide) ((lg_30 32).trans rfl))
theorem dL_law_1953 : decode cL_law 1953 = .ok (.iload 5, 2) := dc_21 (dc_bv 21 (by decide) ((lg_30 33).trans rfl)) (dc_bv 5 (by decide) ((lg_30 34).trans rfl))
theorem dL_law_1955 : decode cL_law 1955 = .ok (.ifCond .ne 15, 3) := dc_154 (dc_bv 154 (by decide) ((lg_30 35).trans rfl)) (dc_bv 0 (by decide) ((lg_30 36).trans rfl)) (dc_bv 15 (by decide) ((lg_30 37).trans rfl))
theorem dL_law_1958 : decode cL_law 1958 = .ok (.aload_n 3, 1) := dc_45 (dc_bv 45 (by decide) ((lg_30 38).trans rfl))
theorem dL_law_1959 : decode cL_law 1959 = .ok (.iconst 0, 1) := dc_3 (dc_bv 3 (by decide) ((lg_30 39).trans rfl))
theorem dL_law_1960 : decode cL_law 1960 = .ok (.laload, 1) := dc_47 (dc_bv 47 (by decide) ((lg_30 40).trans rfl))
theorem dL_law_1961 : decode cL_law 1961 = .ok (.iload 6, 2) := dc_21 (dc_bv 21 (by decide) ((lg_30 41).trans rfl)) (dc_bv 6 (by decide) ((lg_30 42).trans rfl))
theorem dL_law_1963 : decode cL_law 1963 = .ok (.i2l, 1) := dc_133 (dc_bv 133 (by decide) ((lg_30 43).trans rfl))
theorem dL_law_1964 : decode cL_law 1964 = .ok (.lcmp, 1) := dc_148 (dc_bv 148 (by decide) ((lg_30 44).trans rfl))
theorem dL_law_1965 : decode cL_law 1965 = .ok (.ifCond .eq 5, 3) := dc_153 (dc_bv 153 (by decide) ((lg_30 45).trans rfl)) (dc_bv 0 (by decide) ((lg_30 46).trans rfl)) (dc_bv 5 (by decide) ((lg_30 47).trans rfl))
theorem dL_law_1968 : decode cL_law 1968 = .ok (.iconst 0, 1) := dc_3 (dc_bv 3 (by decide) ((lg_30 48).trans rfl))
theorem dL_law_1969 : decode cL_law 1969 = .ok (.ireturn, 1) := dc_172 (dc_bv 172 (by decide) ((lg_30 49).trans rfl))
theorem dL_law_1970 : decode cL_law 1970 = .ok (.goto 666, 3) := dc_167 (dc_bv 167 (by decide) ((lg_30 50).trans rfl)) (dc_bv 2 (by decide) ((lg_30 51).trans rfl)) (dc_bv 154 (by decide) ((lg_30 52).trans rfl))
theorem dL_law_1973 : decode cL_law 1973 = .ok (.aload_n 1, 1) := dc_43 (dc_bv 43 (by decide) ((lg_30 53).trans rfl))
theorem dL_law_1974 : decode cL_law 1974 = .ok (.aload_n 0, 1) := dc_42 (dc_bv 42 (by decide) ((lg_30 54).trans rfl))
theorem dL_law_1975 : decode cL_law 1975 = .ok (.iload 4, 2) := dc_21 (dc_bv 21 (by decide) ((lg_30 55).trans rfl)) (dc_bv 4 (by decide) ((lg_30 56).trans rfl))
theorem dL_law_1977 : decode cL_law 1977 = .ok (.iconst 1, 1) := dc_4 (dc_bv 4 (by decide) ((lg_30 57).trans rfl))
theorem dL_law_1978 : decode cL_law 1978 = .ok (.iadd, 1) := dc_96 (dc_bv 96 (by decide) ((lg_30 58).trans rfl))
theorem dL_law_1979 : decode cL_law 1979 = .ok (.iaload, 1) := dc_46 (dc_bv 46 (by decide) ((lg_30 59).trans rfl))
theorem dL_law_1980 : decode cL_law 1980 = .ok (.aload_n 0, 1) := dc_42 (dc_bv 42 (by decide) ((lg_30 60).trans rfl))
theorem dL_law_1981 : decode cL_law 1981 = .ok (.iload 4, 2) := dc_21 (dc_bv 21 (by decide) ((lg_30 61).trans rfl)) (dc_bv 4 (by decide) ((lg_30 62).trans rfl))
theorem dL_law_1983 : decode cL_law 1983 = .ok (.iconst 2, 1) := dc_5 (dc_bv 5 (by decide) ((lg_30 63).trans rfl))
theorem dL_law_1984 : decode cL_law 1984 = .ok (.iadd, 1) := dc_96 (dc_bv 96 (by decide) ((lg_31 0).trans rfl))
theorem dL_law_1985 : decode cL_law 1985 = .ok (.iaload, 1) := dc_46 (dc_bv 46 (by decide) ((lg_31 1).trans rfl))
theorem dL_law_1986 : decode cL_law 1986 = .ok (.aload_n 3, 1) := dc_45 (dc_bv 45 (by decide) ((lg_31 2).trans rfl))
theorem dL_law_1987 : decode cL_law 1987 = .ok (.invokestatic 238, 3) := dc_184 (dc_bv 184 (by decide) ((lg_31 3).trans rfl)) (dc_bv 0 (by decide) ((lg_31 4).trans rfl)) (dc_bv 238 (by decide) ((lg_31 5).trans rfl))
theorem dL_law_1990 : decode cL_law 1990 = .ok (.istore 5, 2) := dc_54 (dc_bv 54 (by decide) ((lg_31 6).trans rfl)) (dc_bv 5 (by decide) ((lg_31 7).trans rfl))
theorem dL_law_1992 : decode cL_law 1992 = .ok (.aload_n 2, 1) := dc_44 (dc_bv 44 (by decide) ((lg_31 8).trans rfl))
theorem dL_law_1993 : decode cL_law 1993 = .ok (.aload_n 0, 1) := dc_42 (dc_bv 42 (by decide) ((lg_31 9).trans rfl))
theorem dL_law_1994 : decode cL_law 1994 = .ok (.iload 4, 2) := dc_21 (dc_bv 21 (by decide) ((lg_31 10).trans rfl)) (dc_bv 4 (by decide) ((lg_31 11).trans rfl))
theorem dL_law_1996 : decode cL_law 1996 = .ok (.iconst 1, 1) := dc_4 (dc_bv 4 (by decide) ((lg_31 12).trans rfl))
theorem dL_law_1997 : decode cL_law 1997 = .ok (.iadd, 1) := dc_96 (dc_bv 96 (by decide) ((lg_31 13).trans rfl))
theorem dL_law_1998 : decode cL_law 1998 = .ok (.iaload, 1) := dc_46 (dc_bv 46 (by decide) ((lg_31 14).trans rfl))
theorem dL_law_1999 : decode cL_law 1999 = .ok (.aload_n 0, 1) := dc_42 (dc_bv 42 (by decide) ((lg_31 15).trans rfl))
theorem dL_law_2000 : decode cL_law 2000 = .ok (.iload 4, 2) := dc_21 (dc_bv 21 (by decide) ((lg_31 16).trans rfl)) (dc_bv 4 (by decide) ((lg_31 17).trans rfl))
theorem dL_law_2002 : decode cL_law 2002 = .ok (.iconst 2, 1) := dc_5 (dc_bv 5 (by decide) ((lg_31 18).trans rfl))
theorem dL_law_2003 : decode cL_law 2003 = .ok (.iadd, 1) := dc_96 (dc_bv 96 (by decide) ((lg_31 19).trans rfl))
theorem dL_law_2004 : decode cL_law 2004 = .ok (.iaload, 1) := dc_46 (dc_bv 46 (by decide) ((lg_31 20).trans rfl))
theorem dL_law_2005 : decode cL_law 2005 = .ok (.invokevirtual 240, 3) := dc_182 (dc_bv 182 (by decide) ((lg_31 21).trans rfl)) (dc_bv 0 (by decide) ((lg_31 22).trans rfl)) (dc_bv 240 (by decide) ((lg_31 23).trans rfl))
theorem dL_law_2008 : decode cL_law 2008 = .ok (.istore 6, 2) := dc_54 (dc_bv 54 (by decide) ((lg_31 24).trans rfl)) (dc_bv 6 (by decide) ((lg_31 25).trans rfl))
theorem dL_law_2010 : decode cL_law 2010 = .ok (.aload_n 2, 1) := dc_44 (dc_bv 44 (by decide) ((lg_31 26).trans rfl))
theorem dL_law_2011 : decode cL_law 2011 = .ok (.invokevirtual 138, 3) := dc_182 (dc_bv 182 (by decide) ((lg_31 27).trans rfl)) (dc_bv 0 (by decide) ((lg_31 28).trans rfl)) (dc_bv 138 (by decide) ((lg_31 29).trans rfl))
theorem dL_law_2014 : decode cL_law 2014 = .ok (.iload 5, 2) := dc_21 (dc_bv 21 (by decide) ((lg_31 30).trans rfl)) (dc_bv 5 (by decide) ((lg_31 31).trans rfl))
theorem dL_law_2016 : decode cL_law 2016 = .ok (.if_icmp .eq 5, 3) := dc_159 (dc_bv 159 (by decide) ((lg_31 32).trans rfl)) (dc_bv 0 (by decide) ((lg_31 33).trans rfl)) (dc_bv 5 (by decide) ((lg_31 34).trans rfl))
theorem dL_law_2019 : decode cL_law 2019 = .ok (.iconst 0, 1) := dc_3 (dc_bv 3 (by decide) ((lg_31 35).trans rfl))
theorem dL_law_2020 : decode cL_law 2020 = .ok (.ireturn, 1) := dc_172 (dc_bv 172 (by decide) ((lg_31 36).trans rfl))
theorem dL_law_2021 : decode cL_law 2021 = .ok (.iload 5, 2) := dc_21 (dc_bv 21 (by decide) ((lg_31 37).trans rfl)) (dc_bv 5 (by decide) ((lg_31 38).trans rfl))
theorem dL_law_2023 : decode cL_law 2023 = .ok (.ifCond .ne 15, 3) := dc_154 (dc_bv 154 (by decide) ((lg_31 39).trans rfl)) (dc_bv 0 (by decide) ((lg_31 40).trans rfl)) (dc_bv 15 (by decide) ((lg_31 41).trans rfl))
theorem dL_law_2026 : decode cL_law 2026 = .ok (.aload_n 3, 1) := dc_45 (dc_bv 45 (by decide) ((lg_31 42).trans rfl))
theorem dL_law_2027 : decode cL_law 2027 = .ok (.iconst 0, 1) := dc_3 (dc_bv 3 (by decide) ((lg_31 43).trans rfl))
theorem dL_law_2028 : decode cL_law 2028 = .ok (.laload, 1) := dc_47 (dc_bv 47 (by decide) ((lg_31 44).trans rfl))
theorem dL_law_2029 : decode cL_law 2029 = .ok (.iload 6, 2) := dc_21 (dc_bv 21 (by decide) ((lg_31 45).trans rfl)) (dc_bv 6 (by decide) ((lg_31 46).trans rfl))
theorem dL_law_2031 : decode cL_law 2031 = .ok (.i2l, 1) := dc_133 (dc_bv 133 (by decide) ((lg_31 47).trans rfl))
theorem dL_law_2032 : decode cL_law 2032 = .ok (.lcmp, 1) := dc_148 (dc_bv 148 (by decide) ((lg_31 48).trans rfl))
theorem dL_law_2033 : decode cL_law 2033 = .ok (.ifCond .eq 5, 3) := dc_153 (dc_bv 153 (by decide) ((lg_31 49).trans rfl)) (dc_bv 0 (by decide) ((lg_31 50).trans rfl)) (dc_bv 5 (by decide) ((lg_31 51).trans rfl))
theorem dL_law_2036 : decode cL_law 2036 = .ok (.iconst 0, 1) := dc_3 (dc_bv 3 (by decide) ((lg_31 52).trans rfl))
theorem dL_law_2037 : decode cL_law 2037 = .ok (.ireturn, 1) := dc_172 (dc_bv 172 (by decide) ((lg_31 53).trans rfl))
theorem dL_law_2038 : decode cL_law 2038 = .ok (.goto 598, 3) := dc_167 (dc_bv 167 (by decide) ((lg_31 54).trans rfl)) (dc_bv 2 (by decide) ((lg_31 55).trans rfl)) (dc_bv 86 (by decide) ((lg_31 56).trans rfl))
theorem dL_law_2041 : decode cL_law 2041 = .ok (.aload_n 1, 1) := dc_43 (dc_bv 43 (by decide) ((lg_31 57).trans rfl))
theorem dL_law_2042 : decode cL_law 2042 = .ok (.aload_n 0, 1) := dc_42 (dc_bv 42 (by decide) ((lg_31 58).trans rfl))
theorem dL_law_2043 : decode cL_law 2043 = .ok (.iload 4, 2) := dc_21 (dc_bv 21 (by decide) ((lg_31 59).trans rfl)) (dc_bv 4 (by decide) ((lg_31 60).trans rfl))
theorem dL_law_2045 : decode cL_law 2045 = .ok (.iconst 1, 1) := dc_4 (dc_bv 4 (by decide) ((lg_31 61).trans rfl))
theorem dL_law_2046 : decode cL_law 2046 = .ok (.iadd, 1) := dc_96 (dc_bv 96 (by decide) ((lg_31 62).trans rfl))
theorem dL_law_2047 : decode cL_law 2047 = .ok (.iaload, 1) := dc_46 (dc_bv 46 (by decide) ((lg_31 63).trans rfl))
theorem dL_law_2048 : decode cL_law 2048 = .ok (.aload_n 3, 1) := dc_45 (dc_bv 45 (by decide) ((lg_32 0).trans rfl))
theorem dL_law_2049 : decode cL_law 2049 = .ok (.invokestatic 241, 3) := dc_184 (dc_bv 184 (by decide) ((lg_32 1).trans rfl)) (dc_bv 0 (by decide) ((lg_32 2).trans rfl)) (dc_bv 241 (by decide) ((lg_32 3).trans rfl))
theorem dL_law_2052 : decode cL_law 2052 = .ok (.istore 5, 2) := dc_54 (dc_bv 54 (by decide) ((lg_32 4).trans rfl)) (dc_bv 5 (by decide) ((lg_32 5).trans rfl))
theorem dL_law_2054 : decode cL_law 2054 = .ok (.aload_n 2, 1) := dc_44 (dc_bv 44 (by decide) ((lg_32 6).trans rfl))
theorem dL_law_2055 : decode cL_law 2055 = .ok (.aload_n 0, 1) := dc_42 (dc_bv 42 (by decide) ((lg_32 7).trans rfl))
theorem dL_law_2056 : decode cL_law 2056 = .ok (.iload 4, 2) := dc_21 (dc_bv 21 (by decide) ((lg_32 8).trans rfl)) (dc_bv 4 (by decide) ((lg_32 9).trans rfl))
theorem dL_law_2058 : decode cL_law 2058 = .ok (.iconst 1, 1) := dc_4 (dc_bv 4 (by decide) ((lg_32 10).trans rfl))
theorem dL_law_2059 : decode cL_law 2059 = .ok (.iadd, 1) := dc_96 (dc_bv 96 (by decide) ((lg_32 11).trans rfl))
theorem dL_law_2060 : decode cL_law 2060 = .ok (.iaload, 1) := dc_46 (dc_bv 46 (by decide) ((lg_32 12).trans rfl))
theorem dL_law_2061 : decode cL_law 2061 = .ok (.invokevirtual 243, 3) := dc_182 (dc_bv 182 (by decide) ((lg_32 13).trans rfl)) (dc_bv 0 (by decide) ((lg_32 14).trans rfl)) (dc_bv 243 (by decide) ((lg_32 15).trans rfl))
theorem dL_law_2064 : decode cL_law 2064 = .ok (.istore 6, 2) := dc_54 (dc_bv 54 (by decide) ((lg_32 16).trans rfl)) (dc_bv 6 (by decide) ((lg_32 17).trans rfl))
theorem dL_law_2066 : decode cL_law 2066 = .ok (.aload_n 2, 1) := dc_44 (dc_bv 44 (by decide) ((lg_32 18).trans rfl))
theorem dL_law_2067 : decode cL_law 2067 = .ok (.invokevirtual 138, 3) := dc_182 (dc_bv 182 (by decide) ((lg_32 19).trans rfl)) (dc_bv 0 (by decide) ((lg_32 20).trans rfl)) (dc_bv 138 (by decide) ((lg_32 21).trans rfl))
theorem dL_law_2070 : decode cL_law 2070 = .ok (.iload 5, 2) := dc_21 (dc_bv 21 (by decide) ((lg_32 22).trans rfl)) (dc_bv 5 (by decide) ((lg_32 23).trans rfl))
theorem dL_law_2072 : decode cL_law 2072 = .ok (.if_icmp .eq 5, 3) := dc_159 (dc_bv 159 (by decide) ((lg_32 24).trans rfl)) (dc_bv 0 (by decide) ((lg_32 25).trans rfl)) (dc_bv 5 (by decide) ((lg_32 26).trans rfl))
theorem dL_law_2075 : decode cL_law 2075 = .ok (.iconst 0, 1) := dc_3 (dc_bv 3 (by decide) ((lg_32 27).trans rfl))
theorem dL_law_2076 : decode cL_law 2076 = .ok (.ireturn, 1) := dc_172 (dc_bv 172 (by decide) ((lg_32 28).trans rfl))
theorem dL_law_2077 : decode cL_law 2077 = .ok (.iload 5, 2) := dc_21 (dc_bv 21 (by decide) ((lg_32 29).trans rfl)) (dc_bv 5 (by decide) ((lg_32 30).trans rfl))
theorem dL_law_2079 : decode cL_law 2079 = .ok (.ifCond .ne 15, 3) := dc_154 (dc_bv 154 (by decide) ((lg_32 31).trans rfl)) (dc_bv 0 (by decide) ((lg_32 32).trans rfl)) (dc_bv 15 (by decide) ((lg_32 33).trans rfl))
theorem dL_law_2082 : decode cL_law 2082 = .ok (.aload_n 3, 1) := dc_45 (dc_bv 45 (by decide) ((lg_32 34).trans rfl))
theorem dL_law_2083 : decode cL_law 2083 = .ok (.iconst 0, 1) := dc_3 (dc_bv 3 (by decide) ((lg_32 35).trans rfl))
theorem dL_law_2084 : decode cL_law 2084 = .ok (.laload, 1) := dc_47 (dc_bv 47 (by decide) ((lg_32 36).trans rfl))
theorem dL_law_2085 : decode cL_law 2085 = .ok (.iload 6, 2) := dc_21 (dc_bv 21 (by decide) ((lg_32 37).trans rfl)) (dc_bv 6 (by decide) ((lg_32 38).trans rfl))
theorem dL_law_2087 : decode cL_law 2087 = .ok (.i2l, 1) := dc_133 (dc_bv 133 (by decide) ((lg_32 39).trans rfl))
theorem dL_law_2088 : decode cL_law 2088 = .ok (.lcmp, 1) := dc_148 (dc_bv 148 (by decide) ((lg_32 40).trans rfl))
theorem dL_law_2089 : decode cL_law 2089 = .ok (.ifCond .eq 5, 3) := dc_153 (dc_bv 153 (by decide) ((lg_32 41).trans rfl)) (dc_bv 0 (by decide) ((lg_32 42).trans rfl)) (dc_bv 5 (by decide) ((lg_32 43).trans rfl))
theorem dL_law_2092 : decode cL_law 2092 = .ok (.iconst 0, 1) := dc_3 (dc_bv 3 (by decide) ((lg_32 44).trans rfl))
theorem dL_law_2093 : decode cL_law 2093 = .ok (.ireturn, 1) := dc_172 (dc_bv 172 (by decide) ((lg_32 45).trans rfl))
theorem dL_law_2094 : decode cL_law 2094 = .ok (.goto 542, 3) := dc_167 (dc_bv 167 (by decide) ((lg_32 46).trans rfl)) (dc_bv 2 (by decide) ((lg_32 47).trans rfl)) (dc_bv 30 (by decide) ((lg_32 48).trans rfl))
theorem dL_law_2097 : decode cL_law 2097 = .ok (.aload_n 1, 1) := dc_43 (dc_bv 43 (by decide) ((lg_32 49).trans rfl))
theorem dL_law_2098 : decode cL_law 2098 = .ok (.aload_n 0, 1) := dc_42 (dc_bv 42 (by decide) ((lg_32 50).trans rfl))
theorem dL_law_2099 : decode cL_law 2099 = .ok (.iload 4, 2) := dc_21 (dc_bv 21 (by decide) ((lg_32 51).trans rfl)) (dc_bv 4 (by decide) ((lg_32 52).trans rfl))
theorem dL_law_2101 : decode cL_law 2101 = .ok (.iconst 1, 1) := dc_4 (dc_bv 4 (by decide) ((lg_32 53).trans rfl))
theorem dL_law_2102 : decode cL_law 2102 = .ok (.iadd, 1) := dc_96 (dc_bv 96 (by decide) ((lg_32 54).trans rfl))
theorem dL_law_2103 : decode cL_law 2103 = .ok (.iaload, 1) := dc_46 (dc_bv 46 (by decide) ((lg_32 55).trans rfl))
theorem dL_law_2104 : decode cL_law 2104 = .ok (.aload_n 0, 1) := dc_42 (dc_bv 42 (by decide) ((lg_32 56).trans rfl))
theorem dL_law_2105 : decode cL_law 2105 = .ok (.iload 4, 2) := dc_21 (dc_bv 21 (by decide) ((lg_32 57).trans rfl)) (dc_bv 4 (by decide) ((lg_32 58).trans rfl))
theorem dL_law_2107 : decode cL_law 2107 = .ok (.iconst 2, 1) := dc_5 (dc_bv 5 (by decide) ((lg_32 59).trans rfl))
theorem dL_law_2108 : decode cL_law 2108 = .ok (.iadd, 1) := dc_96 (dc_bv 96 (by decide) ((lg_32 60).trans rfl))
theorem dL_law_2109 : decode cL_law 2109 = .ok (.iaload, 1) := dc_46 (dc_bv 46 (by decide) ((lg_32 61).trans rfl))
theorem dL_law_2110 : decode cL_law 2110 = .ok (.aload_n 0, 1) := dc_42 (dc_bv 42 (by decide) ((lg_32 62).trans rfl))
theorem dL_law_2111 : decode cL_law 2111 = .ok (.iload 4, 2) := dc_21 (dc_bv 21 (by decide) ((lg_32 63).trans rfl)) (dc_bv 4 (by decide) ((lg_33 0).trans rfl))
theorem dL_law_2113 : decode cL_law 2113 = .ok (.iconst 3, 1) := dc_6 (dc_bv 6 (by decide) ((lg_33 1).trans rfl))
theorem dL_law_2114 : decode cL_law 2114 = .ok (.iadd, 1) := dc_96 (dc_bv 96 (by decide) ((lg_33 2).trans rfl))
theorem dL_law_2115 : decode cL_law 2115 = .ok (.iaload, 1) := dc_46 (dc_bv 46 (by decide) ((lg_33 3).trans rfl))
theorem dL_law_2116 : decode cL_law 2116 = .ok (.aload_n 3, 1) := dc_45 (dc_bv 45 (by decide) ((lg_33 4).trans rfl))
theorem dL_law_2117 : decode cL_law 2117 = .ok (.invokestatic 244, 3) := dc_184 (dc_bv 184 (by decide) ((lg_33 5).trans rfl)) (dc_bv 0 (by decide) ((lg_33 6).trans rfl)) (dc_bv 244 (by decide) ((lg_33 7).trans rfl))
theorem dL_law_2120 : decode cL_law 2120 = .ok (.istore 5, 2) := dc_54 (dc_bv 54 (by decide) ((lg_33 8).trans rfl)) (dc_bv 5 (by decide) ((lg_33 9).trans rfl))
theorem dL_law_2122 : decode cL_law 2122 = .ok (.aload_n 2, 1) := dc_44 (dc_bv 44 (by decide) ((lg_33 10).trans rfl))
theorem dL_law_2123 : decode cL_law 2123 = .ok (.aload_n 0, 1) := dc_42 (dc_bv 42 (by decide) ((lg_33 11).trans rfl))
theorem dL_law_2124 : decode cL_law 2124 = .ok (.iload 4, 2) := dc_21 (dc_bv 21 (by decide) ((lg_33 12).trans rfl)) (dc_bv 4 (by decide) ((lg_33 13).trans rfl))
theorem dL_law_2126 : decode cL_law 2126 = .ok (.iconst 1, 1) := dc_4 (dc_bv 4 (by decide) ((lg_33 14).trans rfl))
theorem dL_law_2127 : decode cL_law 2127 = .ok (.iadd, 1) := dc_96 (dc_bv 96 (by decide) ((lg_33 15).trans rfl))
theorem dL_law_2128 : decode cL_law 2128 = .ok (.iaload, 1) := dc_46 (dc_bv 46 (by decide) ((lg_33 16).trans rfl))
theorem dL_law_2129 : decode cL_law 2129 = .ok (.aload_n 0, 1) := dc_42 (dc_bv 42 (by decide) ((lg_33 17).trans rfl))
theorem dL_law_2130 : decode cL_law 2130 = .ok (.iload 4, 2) := dc_21 (dc_bv 21 (by decide) ((lg_33 18).trans rfl)) (dc_bv 4 (by decide) ((lg_33 19).trans rfl))
theorem dL_law_2132 : decode cL_law 2132 = .ok (.iconst 2, 1) := dc_5 (dc_bv 5 (by decide) ((lg_33 20).trans rfl))
theorem dL_law_2133 : decode cL_law 2133 = .ok (.iadd, 1) := dc_96 (dc_bv 96 (by decide) ((lg_33 21).trans rfl))
theorem dL_law_2134 : decode cL_law 2134 = .ok (.iaload, 1) := dc_46 (dc_bv 46 (by decide) ((lg_33 22).trans rfl))
theorem dL_law_2135 : decode cL_law 2135 = .ok (.aload_n 0, 1) := dc_42 (dc_bv 42 (by decide) ((lg_33 23).trans rfl))
theorem dL_law_2136 : decode cL_law 2136 = .ok (.iload 4, 2) := dc_21 (dc_bv 21 (by decide) ((lg_33 24).trans rfl)) (dc_bv 4 (by decide) ((lg_33 25).trans rfl))
theorem dL_law_2138 : decode cL_law 2138 = .ok (.iconst 3, 1) := dc_6 (dc_bv 6 (by decide) ((lg_33 26).trans rfl))
theorem dL_law_2139 : decode cL_law 2139 = .ok (.iadd, 1) := dc_96 (dc_bv 96 (by decide) ((lg_33 27).trans rfl))
theorem dL_law_2140 : decode cL_law 2140 = .ok (.iaload, 1) := dc_46 (dc_bv 46 (by decide) ((lg_33 28).trans rfl))
theorem dL_law_2141 : decode cL_law 2141 = .ok (.invokevirtual 246, 3) := dc_182 (dc_bv 182 (by decide) ((lg_33 29).trans rfl)) (dc_bv 0 (by decide) ((lg_33 30).trans rfl)) (dc_bv 246 (by decide) ((lg_33 31).trans rfl))
theorem dL_law_2144 : decode cL_law 2144 = .ok (.istore 6, 2) := dc_54 (dc_bv 54 (by decide) ((lg_33 32).trans rfl)) (dc_bv 6 (by decide) ((lg_33 33).trans rfl))
theorem dL_law_2146 : decode cL_law 2146 = .ok (.aload_n 2, 1) := dc_44 (dc_bv 44 (by decide) ((lg_33 34).trans rfl))
theorem dL_law_2147 : decode cL_law 2147 = .ok (.invokevirtual 138, 3) := dc_182 (dc_bv 182 (by decide) ((lg_33 35).trans rfl)) (dc_bv 0 (by decide) ((lg_33 36).trans rfl)) (dc_bv 138 (by decide) ((lg_33 37).trans rfl))
theorem dL_law_2150 : decode cL_law 2150 = .ok (.iload 5, 2) := dc_21 (dc_bv 21 (by decide) ((lg_33 38).trans rfl)) (dc_bv 5 (by decide) ((lg_33 39).trans rfl))
theorem dL_law_2152 : decode cL_law 2152 = .ok (.if_icmp .eq 5, 3) := dc_159 (dc_bv 159 (by decide) ((lg_33 40).trans rfl)) (dc_bv 0 (by decide) ((lg_33 41).trans rfl)) (dc_bv 5 (by decide) ((lg_33 42).trans rfl))
theorem dL_law_2155 : decode cL_law 2155 = .ok (.iconst 0, 1) := dc_3 (dc_bv 3 (by decide) ((lg_33 43).trans rfl))
theorem dL_law_2156 : decode cL_law 2156 = .ok (.ireturn, 1) := dc_172 (dc_bv 172 (by decide) ((lg_33 44).trans rfl))
theorem dL_law_2157 : decode cL_law 2157 = .ok (.iload 5, 2) := dc_21 (dc_bv 21 (by decide) ((lg_33 45).trans rfl)) (dc_bv 5 (by decide) ((lg_33 46).trans rfl))
theorem dL_law_2159 : decode cL_law 2159 = .ok (.ifCond .ne 15, 3) := dc_154 (dc_bv 154 (by decide) ((lg_33 47).trans rfl)) (dc_bv 0 (by decide) ((lg_33 48).trans rfl)) (dc_bv 15 (by decide) ((lg_33 49).trans rfl))
theorem dL_law_2162 : decode cL_law 2162 = .ok (.aload_n 3, 1) := dc_45 (dc_bv 45 (by decide) ((lg_33 50).trans rfl))
theorem dL_law_2163 : decode cL_law 2163 = .ok (.iconst 0, 1) := dc_3 (dc_bv 3 (by decide) ((lg_33 51).trans rfl))
theorem dL_law_2164 : decode cL_law 2164 = .ok (.laload, 1) := dc_47 (dc_bv 47 (by decide) ((lg_33 52).trans rfl))
theorem dL_law_2165 : decode cL_law 2165 = .ok (.iload 6, 2) := dc_21 (dc_bv 21 (by decide) ((lg_33 53).trans rfl)) (dc_bv 6 (by decide) ((lg_33 54).trans rfl))
theorem dL_law_2167 : decode cL_law 2167 = .ok (.i2l, 1) := dc_133 (dc_bv 133 (by decide) ((lg_33 55).trans rfl))
theorem dL_law_2168 : decode cL_law 2168 = .ok (.lcmp, 1) := dc_148 (dc_bv 148 (by decide) ((lg_33 56).trans rfl))
theorem dL_law_2169 : decode cL_law 2169 = .ok (.ifCond .eq 5, 3) := dc_153 (dc_bv 153 (by decide) ((lg_33 57).trans rfl)) (dc_bv 0 (by decide) ((lg_33 58).trans rfl)) (dc_bv 5 (by decide) ((lg_33 59).trans rfl))
theorem dL_law_2172 : decode cL_law 2172 = .ok (.iconst 0, 1) := dc_3 (dc_bv 3 (by decide) ((lg_33 60).trans rfl))
theorem dL_law_2173 : decode cL_law 2173 = .ok (.ireturn, 1) := dc_172 (dc_bv 172 (by decide) ((lg_33 61).trans rfl))
theorem dL_law_2174 : decode cL_law 2174 = .ok (.goto 462, 3) := dc_167 (dc_bv 167 (by decide) ((lg_33 62).trans rfl)) (dc_bv 1 (by decide) ((lg_33 63).trans rfl)) (dc_bv 206 (by decide) ((lg_34 0).trans rfl))
theorem dL_law_2177 : decode cL_law 2177 = .ok (.aload_n 1, 1) := dc_43 (dc_bv 43 (by decide) ((lg_34 1).trans rfl))
theorem dL_law_2178 : decode cL_law 2178 = .ok (.aload_n 0, 1) := dc_42 (dc_bv 42 (by decide) ((lg_34 2).trans rfl))
theorem dL_law_2179 : decode cL_law 2179 = .ok (.iload 4, 2) := dc_21 (dc_bv 21 (by decide) ((lg_34 3).trans rfl)) (dc_bv 4 (by decide) ((lg_34 4).trans rfl))
theorem dL_law_2181 : decode cL_law 2181 = .ok (.iconst 1, 1) := dc_4 (dc_bv 4 (by decide) ((lg_34 5).trans rfl))
theorem dL_law_2182 : decode cL_law 2182 = .ok (.iadd, 1) := dc_96 (dc_bv 96 (by decide) ((lg_34 6).trans rfl))
theorem dL_law_2183 : decode cL_law 2183 = .ok (.iaload, 1) := dc_46 (dc_bv 46 (by decide) ((lg_34 7).trans rfl))
theorem dL_law_2184 : decode cL_law 2184 = .ok (.aload_n 0, 1) := dc_42 (dc_bv 42 (by decide) ((lg_34 8).trans rfl))
theorem dL_law_2185 : decode cL_law 2185 = .ok (.iload 4, 2) := dc_21 (dc_bv 21 (by decide) ((lg_34 9).trans rfl)) (dc_bv 4 (by decide) ((lg_34 10).trans rfl))
theorem dL_law_2187 : decode cL_law 2187 = .ok (.iconst 2, 1) := dc_5 (dc_bv 5 (by decide) ((lg_34 11).trans rfl))
theorem dL_law_2188 : decode cL_law 2188 = .ok (.iadd, 1) := dc_96 (dc_bv 96 (by decide) ((lg_34 12).trans rfl))
theorem dL_law_2189 : decode cL_law 2189 = .ok (.iaload, 1) := dc_46 (dc_bv 46 (by decide) ((lg_34 13).trans rfl))
theorem dL_law_2190 : decode cL_law 2190 = .ok (.aload_n 0, 1) := dc_42 (dc_bv 42 (by decide) ((lg_34 14).trans rfl))
theorem dL_law_2191 : decode cL_law 2191 = .ok (.iload 4, 2) := dc_21 (dc_bv 21 (by decide) ((lg_34 15).trans rfl)) (dc_bv 4 (by decide) ((lg_34 16).trans rfl))
theorem dL_law_2193 : decode cL_law 2193 = .ok (.iconst 3, 1) := dc_6 (dc_bv 6 (by decide) ((lg_34 17).trans rfl))
theorem dL_law_2194 : decode cL_law 2194 = .ok (.iadd, 1) := dc_96 (dc_bv 96 (by decide) ((lg_34 18).trans rfl))
theorem dL_law_2195 : decode cL_law 2195 = .ok (.iaload, 1) := dc_46 (dc_bv 46 (by decide) ((lg_34 19).trans rfl))
theorem dL_law_2196 : decode cL_law 2196 = .ok (.aload_n 3, 1) := dc_45 (dc_bv 45 (by decide) ((lg_34 20).trans rfl))
theorem dL_law_2197 : decode cL_law 2197 = .ok (.invokestatic 247, 3) := dc_184 (dc_bv 184 (by decide) ((lg_34 21).trans rfl)) (dc_bv 0 (by decide) ((lg_34 22).trans rfl)) (dc_bv 247 (by decide) ((lg_34 23).trans rfl))
theorem dL_law_2200 : decode cL_law 2200 = .ok (.istore 5, 2) := dc_54 (dc_bv 54 (by decide) ((lg_34 24).trans rfl)) (dc_bv 5 (by decide) ((lg_34 25).trans rfl))
theorem dL_law_2202 : decode cL_law 2202 = .ok (.aload_n 2, 1) := dc_44 (dc_bv 44 (by decide) ((lg_34 26).trans rfl))
theorem dL_law_2203 : decode cL_law 2203 = .ok (.aload_n 0, 1) := dc_42 (dc_bv 42 (by decide) ((lg_34 27).trans rfl))
theorem dL_law_2204 : decode cL_law 2204 = .ok (.iload 4, 2) := dc_21 (dc_bv 21 (by decide) ((lg_34 28).trans rfl)) (dc_bv 4 (by decide) ((lg_34 29).trans rfl))
theorem dL_law_2206 : decode cL_law 2206 = .ok (.iconst 1, 1) := dc_4 (dc_bv 4 (by decide) ((lg_34 30).trans rfl))
theorem dL_law_2207 : decode cL_law 2207 = .ok (.iadd, 1) := dc_96 (dc_bv 96 (by decide) ((lg_34 31).trans rfl))
theorem dL_law_2208 : decode cL_law 2208 = .ok (.iaload, 1) := dc_46 (dc_bv 46 (by decide) ((lg_34 32).trans rfl))
theorem dL_law_2209 : decode cL_law 2209 = .ok (.aload_n 0, 1) := dc_42 (dc_bv 42 (by decide) ((lg_34 33).trans rfl))
theorem dL_law_2210 : decode cL_law 2210 = .ok (.iload 4, 2) := dc_21 (dc_bv 21 (by decide) ((lg_34 34).trans rfl)) (dc_bv 4 (by decide) ((lg_34 35).trans rfl))
theorem dL_law_2212 : decode cL_law 2212 = .ok (.iconst 2, 1) := dc_5 (dc_bv 5 (by decide) ((lg_34 36).trans rfl))
theorem dL_law_2213 : decode cL_law 2213 = .ok (.iadd, 1) := dc_96 (dc_bv 96 (by decide) ((lg_34 37).trans rfl))
theorem dL_law_2214 : decode cL_law 2214 = .ok (.iaload, 1) := dc_46 (dc_bv 46 (by decide) ((lg_34 38).trans rfl))
theorem dL_law_2215 : decode cL_law 2215 = .ok (.aload_n 0, 1) := dc_42 (dc_bv 42 (by decide) ((lg_34 39).trans rfl))
theorem dL_law_2216 : decode cL_law 2216 = .ok (.iload 4, 2) := dc_21 (dc_bv 21 (by decide) ((lg_34 40).trans rfl)) (dc_bv 4 (by decide) ((lg_34 41).trans rfl))
theorem dL_law_2218 : decode cL_law 2218 = .ok (.iconst 3, 1) := dc_6 (dc_bv 6 (by decide) ((lg_34 42).trans rfl))
theorem dL_law_2219 : decode cL_law 2219 = .ok (.iadd, 1) := dc_96 (dc_bv 96 (by decide) ((lg_34 43).trans rfl))
theorem dL_law_2220 : decode cL_law 2220 = .ok (.iaload, 1) := dc_46 (dc_bv 46 (by decide) ((lg_34 44).trans rfl))
theorem dL_law_2221 : decode cL_law 2221 = .ok (.invokevirtual 249, 3) := dc_182 (dc_bv 182 (by decide) ((lg_34 45).trans rfl)) (dc_bv 0 (by decide) ((lg_34 46).trans rfl)) (dc_bv 249 (by decide) ((lg_34 47).trans rfl))
theorem dL_law_2224 : decode cL_law 2224 = .ok (.istore 6, 2) := dc_54 (dc_bv 54 (by decide) ((lg_34 48).trans rfl)) (dc_bv 6 (by decide) ((lg_34 49).trans rfl))
theorem dL_law_2226 : decode cL_law 2226 = .ok (.aload_n 2, 1) := dc_44 (dc_bv 44 (by decide) ((lg_34 50).trans rfl))
theorem dL_law_2227 : decode cL_law 2227 = .ok (.invokevirtual 138, 3) := dc_182 (dc_bv 182 (by decide) ((lg_34 51).trans rfl)) (dc_bv 0 (by decide) ((lg_34 52).trans rfl)) (dc_bv 138 (by decide) ((lg_34 53).trans rfl))
theorem dL_law_2230 : decode cL_law 2230 = .ok (.iload 5, 2) := dc_21 (dc_bv 21 (by decide) ((lg_34 54).trans rfl)) (dc_bv 5 (by decide) ((lg_34 55).trans rfl))
theorem dL_law_2232 : decode cL_law 2232 = .ok (.if_icmp .eq 5, 3) := dc_159 (dc_bv 159 (by decide) ((lg_34 56).trans rfl)) (dc_bv 0 (by decide) ((lg_34 57).trans rfl)) (dc_bv 5 (by decide) ((lg_34 58).trans rfl))
theorem dL_law_2235 : decode cL_law 2235 = .ok (.iconst 0, 1) := dc_3 (dc_bv 3 (by decide) ((lg_34 59).trans rfl))
theorem dL_law_2236 : decode cL_law 2236 = .ok (.ireturn, 1) := dc_172 (dc_bv 172 (by decide) ((lg_34 60).trans rfl))
theorem dL_law_2237 : decode cL_law 2237 = .ok (.iload 5, 2) := dc_21 (dc_bv 21 (by decide) ((lg_34 61).trans rfl)) (dc_bv 5 (by decide) ((lg_34 62).trans rfl))
theorem dL_law_2239 : decode cL_law 2239 = .ok (.ifCond .ne 15, 3) := dc_154 (dc_bv 154 (by decide) ((lg_34 63).trans rfl)) (dc_bv 0 (by decide) ((lg_35 0).trans rfl)) (dc_bv 15 (by decide) ((lg_35 1).trans rfl))
theorem dL_law_2242 : decode cL_law 2242 = .ok (.aload_n 3, 1) := dc_45 (dc_bv 45 (by decide) ((lg_35 2).trans rfl))
theorem dL_law_2243 : decode cL_law 2243 = .ok (.iconst 0, 1) := dc_3 (dc_bv 3 (by decide) ((lg_35 3).trans rfl))
theorem dL_law_2244 : decode cL_law 2244 = .ok (.laload, 1) := dc_47 (dc_bv 47 (by decide) ((lg_35 4).trans rfl))
theorem dL_law_2245 : decode cL_law 2245 = .ok (.iload 6, 2) := dc_21 (dc_bv 21 (by decide) ((lg_35 5).trans rfl)) (dc_bv 6 (by decide) ((lg_35 6).trans rfl))
theorem dL_law_2247 : decode cL_law 2247 = .ok (.i2l, 1) := dc_133 (dc_bv 133 (by decide) ((lg_35 7).trans rfl))
theorem dL_law_2248 : decode cL_law 2248 = .ok (.lcmp, 1) := dc_148 (dc_bv 148 (by decide) ((lg_35 8).trans rfl))
theorem dL_law_2249 : decode cL_law 2249 = .ok (.ifCond .eq 5, 3) := dc_153 (dc_bv 153 (by decide) ((lg_35 9).trans rfl)) (dc_bv 0 (by decide) ((lg_35 10).trans rfl)) (dc_bv 5 (by decide) ((lg_35 11).trans rfl))
theorem dL_law_2252 : decode cL_law 2252 = .ok (.iconst 0, 1) := dc_3 (dc_bv 3 (by decide) ((lg_35 12).trans rfl))
theorem dL_law_2253 : decode cL_law 2253 = .ok (.ireturn, 1) := dc_172 (dc_bv 172 (by decide) ((lg_35 13).trans rfl))
theorem dL_law_2254 : decode cL_law 2254 = .ok (.goto 382, 3) := dc_167 (dc_bv 167 (by decide) ((lg_35 14).trans rfl)) (dc_bv 1 (by decide) ((lg_35 15).trans rfl)) (dc_bv 126 (by decide) ((lg_35 16).trans rfl))
theorem dL_law_2257 : decode cL_law 2257 = .ok (.aload_n 1, 1) := dc_43 (dc_bv 43 (by decide) ((lg_35 17).trans rfl))
theorem dL_law_2258 : decode cL_law 2258 = .ok (.aload_n 0, 1) := dc_42 (dc_bv 42 (by decide) ((lg_35 18).trans rfl))
theorem dL_law_2259 : decode cL_law 2259 = .ok (.iload 4, 2) := dc_21 (dc_bv 21 (by decide) ((lg_35 19).trans rfl)) (dc_bv 4 (by decide) ((lg_35 20).trans rfl))
theorem dL_law_2261 : decode cL_law 2261 = .ok (.iconst 1, 1) := dc_4 (dc_bv 4 (by decide) ((lg_35 21).trans rfl))
theorem dL_law_2262 : decode cL_law 2262 = .ok (.iadd, 1) := dc_96 (dc_bv 96 (by decide) ((lg_35 22).trans rfl))
theorem dL_law_2263 : decode cL_law 2263 = .ok (.iaload, 1) := dc_46 (dc_bv 46 (by decide) ((lg_35 23).trans rfl))
theorem dL_law_2264 : decode cL_law 2264 = .ok (.aload_n 0, 1) := dc_42 (dc_bv 42 (by decide) ((lg_35 24).trans rfl))
theorem dL_law_2265 : decode cL_law 2265 = .ok (.iload 4, 2) := dc_21 (dc_bv 21 (by decide) ((lg_35 25).trans rfl)) (dc_bv 4 (by decide) ((lg_35 26).trans rfl))
theorem dL_law_2267 : decode cL_law 2267 = .ok (.iconst 2, 1) := dc_5 (dc_bv 5 (by decide) ((lg_35 27).trans rfl))
theorem dL_law_2268 : decode cL_law 2268 = .ok (.iadd, 1) := dc_96 (dc_bv 96 (by decide) ((lg_35 28).trans rfl))
theorem dL_law_2269 : decode cL_law 2269 = .ok (.iaload, 1) := dc_46 (dc_bv 46 (by decide) ((lg_35 29).trans rfl))
theorem dL_law_2270 : decode cL_law 2270 = .ok (.aload_n 3, 1) := dc_45 (dc_bv 45 (by decide) ((lg_35 30).trans rfl))
theorem dL_law_2271 : decode cL_law 2271 = .ok (.invokestatic 250, 3) := dc_184 (dc_bv 184 (by decide) ((lg_35 31).trans rfl)) (dc_bv 0 (by decide) ((lg_35 32).trans rfl)) (dc_bv 250 (by decide) ((lg_35 33).trans rfl))
theorem dL_law_2274 : decode cL_law 2274 = .ok (.istore 5, 2) := dc_54 (dc_bv 54 (by decide) ((lg_35 34).trans rfl)) (dc_bv 5 (by decide) ((lg_35 35).trans rfl))
theorem dL_law_2276 : decode cL_law 2276 = .ok (.aload_n 2, 1) := dc_44 (dc_bv 44 (by decide) ((lg_35 36).trans rfl))
theorem dL_law_2277 : decode cL_law 2277 = .ok (.aload_n 0, 1) := dc_42 (dc_bv 42 (by decide) ((lg_35 37).trans rfl))
theorem dL_law_2278 : decode cL_law 2278 = .ok (.iload 4, 2) := dc_21 (dc_bv 21 (by decide) ((lg_35 38).trans rfl)) (dc_bv 4 (by decide) ((lg_35 39).trans rfl))
theorem dL_law_2280 : decode cL_law 2280 = .ok (.iconst 1, 1) := dc_4 (dc_bv 4 (by decide) ((lg_35 40).trans rfl))
theorem dL_law_2281 : decode cL_law 2281 = .ok (.iadd, 1) := dc_96 (dc_bv 96 (by decide) ((lg_35 41).trans rfl))
theorem dL_law_2282 : decode cL_law 2282 = .ok (.iaload, 1) := dc_46 (dc_bv 46 (by decide) ((lg_35 42).trans rfl))
theorem dL_law_2283 : decode cL_law 2283 = .ok (.aload_n 0, 1) := dc_42 (dc_bv 42 (by decide) ((lg_35 43).trans rfl))
theorem dL_law_2284 : decode cL_law 2284 = .ok (.iload 4, 2) := dc_21 (dc_bv 21 (by decide) ((lg_35 44).trans rfl)) (dc_bv 4 (by decide) ((lg_35 45).trans rfl))
theorem dL_law_2286 : decode cL_law 2286 = .ok (.iconst 2, 1) := dc_5 (dc_bv 5 (by decide) ((lg_35 46).trans rfl))
theorem dL_law_2287 : decode cL_law 2287 = .ok (.iadd, 1) := dc_96 (dc_bv 96 (by decide) ((lg_35 47).trans rfl))
theorem dL_law_2288 : decode cL_law 2288 = .ok (.iaload, 1) := dc_46 (dc_bv 46 (by decide) ((lg_35 48).trans rfl))
theorem dL_law_2289 : decode cL_law 2289 = .ok (.invokevirtual 252, 3) := dc_182 (dc_bv 182 (by decide) ((lg_35 49).trans rfl)) (dc_bv 0 (by decide) ((lg_35 50).trans rfl)) (dc_bv 252 (by decide) ((lg_35 51).trans rfl))
theorem dL_law_2292 : decode cL_law 2292 = .ok (.istore 6, 2) := dc_54 (dc_bv 54 (by decide) ((lg_35 52).trans rfl)) (dc_bv 6 (by decide) ((lg_35 53).trans rfl))
theorem dL_law_2294 : decode cL_law 2294 = .ok (.aload_n 2, 1) := dc_44 (dc_bv 44 (by decide) ((lg_35 54).trans rfl))
theorem dL_law_2295 : decode cL_law 2295 = .ok (.invokevirtual 138, 3) := dc_182 (dc_bv 182 (by decide) ((lg_35 55).trans rfl)) (dc_bv 0 (by decide) ((lg_35 56).trans rfl)) (dc_bv 138 (by decide) ((lg_35 57).trans rfl))
theorem dL_law_2298 : decode cL_law 2298 = .ok (.iload 5, 2) := dc_21 (dc_bv 21 (by decide) ((lg_35 58).trans rfl)) (dc_bv 5 (by decide) ((lg_35 59).trans rfl))
theorem dL_law_2300 : decode cL_law 2300 = .ok (.if_icmp .eq 5, 3) := dc_159 (dc_bv 159 (by decide) ((lg_35 60).trans rfl)) (dc_bv 0 (by decide) ((lg_35 61).trans rfl)) (dc_bv 5 (by decide) ((lg_35 62).trans rfl))
theorem dL_law_2303 : decode cL_law 2303 = .ok (.iconst 0, 1) := dc_3 (dc_bv 3 (by decide) ((lg_35 63).trans rfl))
theorem dL_law_2304 : decode cL_law 2304 = .ok (.ireturn, 1) := dc_172 (dc_bv 172 (by decide) ((lg_36 0).trans rfl))
theorem dL_law_2305 : decode cL_law 2305 = .ok (.iload 5, 2) := dc_21 (dc_bv 21 (by decide) ((lg_36 1).trans rfl)) (dc_bv 5 (by decide) ((lg_36 2).trans rfl))
theorem dL_law_2307 : decode cL_law 2307 = .ok (.ifCond .ne 15, 3) := dc_154 (dc_bv 154 (by decide) ((lg_36 3).trans rfl)) (dc_bv 0 (by decide) ((lg_36 4).trans rfl)) (dc_bv 15 (by decide) ((lg_36 5).trans rfl))
theorem dL_law_2310 : decode cL_law 2310 = .ok (.aload_n 3, 1) := dc_45 (dc_bv 45 (by decide) ((lg_36 6).trans rfl))
theorem dL_law_2311 : decode cL_law 2311 = .ok (.iconst 0, 1) := dc_3 (dc_bv 3 (by decide) ((lg_36 7).trans rfl))
theorem dL_law_2312 : decode cL_law 2312 = .ok (.laload, 1) := dc_47 (dc_bv 47 (by decide) ((lg_36 8).trans rfl))
theorem dL_law_2313 : decode cL_law 2313 = .ok (.iload 6, 2) := dc_21 (dc_bv 21 (by decide) ((lg_36 9).trans rfl)) (dc_bv 6 (by decide) ((lg_36 10).trans rfl))
theorem dL_law_2315 : decode cL_law 2315 = .ok (.i2l, 1) := dc_133 (dc_bv 133 (by decide) ((lg_36 11).trans rfl))
theorem dL_law_2316 : decode cL_law 2316 = .ok (.lcmp, 1) := dc_148 (dc_bv 148 (by decide) ((lg_36 12).trans rfl))
theorem dL_law_2317 : decode cL_law 2317 = .ok (.ifCond .eq 5, 3) := dc_153 (dc_bv 153 (by decide) ((lg_36 13).trans rfl)) (dc_bv 0 (by decide) ((lg_36 14).trans rfl)) (dc_bv 5 (by decide) ((lg_36 15).trans rfl))
theorem dL_law_2320 : decode cL_law 2320 = .ok (.iconst 0, 1) := dc_3 (dc_bv 3 (by decide) ((lg_36 16).trans rfl))
theorem dL_law_2321 : decode cL_law 2321 = .ok (.ireturn, 1) := dc_172 (dc_bv 172 (by decide) ((lg_36 17).trans rfl))
theorem dL_law_2322 : decode cL_law 2322 = .ok (.goto 314, 3) := dc_167 (dc_bv 167 (by decide) ((lg_36 18).trans rfl)) (dc_bv 1 (by decide) ((lg_36 19).trans rfl)) (dc_bv 58 (by decide) ((lg_36 20).trans rfl))
theorem dL_law_2325 : decode cL_law 2325 = .ok (.aload_n 1, 1) := dc_43 (dc_bv 43 (by decide) ((lg_36 21).trans rfl))
theorem dL_law_2326 : decode cL_law 2326 = .ok (.aload_n 0, 1) := dc_42 (dc_bv 42 (by decide) ((lg_36 22).trans rfl))
theorem dL_law_2327 : decode cL_law 2327 = .ok (.iload 4, 2) := dc_21 (dc_bv 21 (by decide) ((lg_36 23).trans rfl)) (dc_bv 4 (by decide) ((lg_36 24).trans rfl))
theorem dL_law_2329 : decode cL_law 2329 = .ok (.iconst 1, 1) := dc_4 (dc_bv 4 (by decide) ((lg_36 25).trans rfl))
theorem dL_law_2330 : decode cL_law 2330 = .ok (.iadd, 1) := dc_96 (dc_bv 96 (by decide) ((lg_36 26).trans rfl))
theorem dL_law_2331 : decode cL_law 2331 = .ok (.iaload, 1) := dc_46 (dc_bv 46 (by decide) ((lg_36 27).trans rfl))
theorem dL_law_2332 : decode cL_law 2332 = .ok (.aload_n 3, 1) := dc_45 (dc_bv 45 (by decide) ((lg_36 28).trans rfl))
theorem dL_law_2333 : decode cL_law 2333 = .ok (.invokestatic 253, 3) := dc_184 (dc_bv 184 (by decide) ((lg_36 29).trans rfl)) (dc_bv 0 (by decide) ((lg_36 30).trans rfl)) (dc_bv 253 (by decide) ((lg_36 31).trans rfl))
theorem dL_law_2336 : decode cL_law 2336 = .ok (.istore 5, 2) := dc_54 (dc_bv 54 (by decide) ((lg_36 32).trans rfl)) (dc_bv 5 (by decide) ((lg_36 33).trans rfl))
theorem dL_law_2338 : decode cL_law 2338 = .ok (.aload_n 2, 1) := dc_44 (dc_bv 44 (by decide) ((lg_36 34).trans rfl))
theorem dL_law_2339 : decode cL_law 2339 = .ok (.aload_n 0, 1) := dc_42 (dc_bv 42 (by decide) ((lg_36 35).trans rfl))
theorem dL_law_2340 : decode cL_law 2340 = .ok (.iload 4, 2) := dc_21 (dc_bv 21 (by decide) ((lg_36 36).trans rfl)) (dc_bv 4 (by decide) ((lg_36 37).trans rfl))
theorem dL_law_2342 : decode cL_law 2342 = .ok (.iconst 1, 1) := dc_4 (dc_bv 4 (by decide) ((lg_36 38).trans rfl))
theorem dL_law_2343 : decode cL_law 2343 = .ok (.iadd, 1) := dc_96 (dc_bv 96 (by decide) ((lg_36 39).trans rfl))
theorem dL_law_2344 : decode cL_law 2344 = .ok (.iaload, 1) := dc_46 (dc_bv 46 (by decide) ((lg_36 40).trans rfl))
theorem dL_law_2345 : decode cL_law 2345 = .ok (.invokevirtual 255, 3) := dc_182 (dc_bv 182 (by decide) ((lg_36 41).trans rfl)) (dc_bv 0 (by decide) ((lg_36 42).trans rfl)) (dc_bv 255 (by decide) ((lg_36 43).trans rfl))
theorem dL_law_2348 : decode cL_law 2348 = .ok (.istore 6, 2) := dc_54 (dc_bv 54 (by decide) ((lg_36 44).trans rfl)) (dc_bv 6 (by decide) ((lg_36 45).trans rfl))
theorem dL_law_2350 : decode cL_law 2350 = .ok (.aload_n 2, 1) := dc_44 (dc_bv 44 (by decide) ((lg_36 46).trans rfl))
theorem dL_law_2351 : decode cL_law 2351 = .ok (.invokevirtual 138, 3) := dc_182 (dc_bv 182 (by decide) ((lg_36 47).trans rfl)) (dc_bv 0 (by decide) ((lg_36 48).trans rfl)) (dc_bv 138 (by decide) ((lg_36 49).trans rfl))
theorem dL_law_2354 : decode cL_law 2354 = .ok (.iload 5, 2) := dc_21 (dc_bv 21 (by decide) ((lg_36 50).trans rfl)) (dc_bv 5 (by decide) ((lg_36 51).trans rfl))
theorem dL_law_2356 : decode cL_law 2356 = .ok (.if_icmp .eq 5, 3) := dc_159 (dc_bv 159 (by decide) ((lg_36 52).trans rfl)) (dc_bv 0 (by decide) ((lg_36 53).trans rfl)) (dc_bv 5 (by decide) ((lg_36 54).trans rfl))
theorem dL_law_2359 : decode cL_law 2359 = .ok (.iconst 0, 1) := dc_3 (dc_bv 3 (by decide) ((lg_36 55).trans rfl))
theorem dL_law_2360 : decode cL_law 2360 = .ok (.ireturn, 1) := dc_172 (dc_bv 172 (by decide) ((lg_36 56).trans rfl))
theorem dL_law_2361 : decode cL_law 2361 = .ok (.iload 5, 2) := dc_21 (dc_bv 21 (by decide) ((lg_36 57).trans rfl)) (dc_bv 5 (by decide) ((lg_36 58).trans rfl))
theorem dL_law_2363 : decode cL_law 2363 = .ok (.ifCond .ne 15, 3) := dc_154 (dc_bv 154 (by decide) ((lg_36 59).trans rfl)) (dc_bv 0 (by decide) ((lg_36 60).trans rfl)) (dc_bv 15 (by decide) ((lg_36 61).trans rfl))
theorem dL_law_2366 : decode cL_law 2366 = .ok (.aload_n 3, 1) := dc_45 (dc_bv 45 (by decide) ((lg_36 62).trans rfl))
theorem dL_law_2367 : decode cL_law 2367 = .ok (.iconst 0, 1) := dc_3 (dc_bv 3 (by decide) ((lg_36 63).trans rfl))
theorem dL_law_2368 : decode cL_law 2368 = .ok (.laload, 1) := dc_47 (dc_bv 47 (by decide) ((lg_37 0).trans rfl))
theorem dL_law_2369 : decode cL_law 2369 = .ok (.iload 6, 2) := dc_21 (dc_bv 21 (by decide) ((lg_37 1).trans rfl)) (dc_bv 6 (by decide) ((lg_37 2).trans rfl))
theorem dL_law_2371 : decode cL_law 2371 = .ok (.i2l, 1) := dc_133 (dc_bv 133 (by decide) ((lg_37 3).trans rfl))
theorem dL_law_2372 : decode cL_law 2372 = .ok (.lcmp, 1) := dc_148 (dc_bv 148 (by decide) ((lg_37 4).trans rfl))
theorem dL_law_2373 : decode cL_law 2373 = .ok (.ifCond .eq 5, 3) := dc_153 (dc_bv 153 (by decide) ((lg_37 5).trans rfl)) (dc_bv 0 (by decide) ((lg_37 6).trans rfl)) (dc_bv 5 (by decide) ((lg_37 7).trans rfl))
theorem dL_law_2376 : decode cL_law 2376 = .ok (.iconst 0, 1) := dc_3 (dc_bv 3 (by decide) ((lg_37 8).trans rfl))
theorem dL_law_2377 : decode cL_law 2377 = .ok (.ireturn, 1) := dc_172 (dc_bv 172 (by decide) ((lg_37 9).trans rfl))
theorem dL_law_2378 : decode cL_law 2378 = .ok (.goto 258, 3) := dc_167 (dc_bv 167 (by decide) ((lg_37 10).trans rfl)) (dc_bv 1 (by decide) ((lg_37 11).trans rfl)) (dc_bv 2 (by decide) ((lg_37 12).trans rfl))
theorem dL_law_2381 : decode cL_law 2381 = .ok (.aload_n 1, 1) := dc_43 (dc_bv 43 (by decide) ((lg_37 13).trans rfl))
theorem dL_law_2382 : decode cL_law 2382 = .ok (.aload_n 0, 1) := dc_42 (dc_bv 42 (by decide) ((lg_37 14).trans rfl))
theorem dL_law_2383 : decode cL_law 2383 = .ok (.iload 4, 2) := dc_21 (dc_bv 21 (by decide) ((lg_37 15).trans rfl)) (dc_bv 4 (by decide) ((lg_37 16).trans rfl))
theorem dL_law_2385 : decode cL_law 2385 = .ok (.iconst 1, 1) := dc_4 (dc_bv 4 (by decide) ((lg_37 17).trans rfl))
theorem dL_law_2386 : decode cL_law 2386 = .ok (.iadd, 1) := dc_96 (dc_bv 96 (by decide) ((lg_37 18).trans rfl))
theorem dL_law_2387 : decode cL_law 2387 = .ok (.iaload, 1) := dc_46 (dc_bv 46 (by decide) ((lg_37 19).trans rfl))
theorem dL_law_2388 : decode cL_law 2388 = .ok (.aload_n 0, 1) := dc_42 (dc_bv 42 (by decide) ((lg_37 20).trans rfl))
theorem dL_law_2389 : decode cL_law 2389 = .ok (.iload 4, 2) := dc_21 (dc_bv 21 (by decide) ((lg_37 21).trans rfl)) (dc_bv 4 (by decide) ((lg_37 22).trans rfl))
theorem dL_law_2391 : decode cL_law 2391 = .ok (.iconst 2, 1) := dc_5 (dc_bv 5 (by decide) ((lg_37 23).trans rfl))
theorem dL_law_2392 : decode cL_law 2392 = .ok (.iadd, 1) := dc_96 (dc_bv 96 (by decide) ((lg_37 24).trans rfl))
theorem dL_law_2393 : decode cL_law 2393 = .ok (.iaload, 1) := dc_46 (dc_bv 46 (by decide) ((lg_37 25).trans rfl))
theorem dL_law_2394 : decode cL_law 2394 = .ok (.aload_n 3, 1) := dc_45 (dc_bv 45 (by decide) ((lg_37 26).trans rfl))
theorem dL_law_2395 : decode cL_law 2395 = .ok (.invokestatic 256, 3) := dc_184 (dc_bv 184 (by decide) ((lg_37 27).trans rfl)) (dc_bv 1 (by decide) ((lg_37 28).trans rfl)) (dc_bv 0 (by decide) ((lg_37 29).trans rfl))
theorem dL_law_2398 : decode cL_law 2398 = .ok (.istore 5, 2) := dc_54 (dc_bv 54 (by decide) ((lg_37 30).trans rfl)) (dc_bv 5 (by decide) ((lg_37 31).trans rfl))
theorem dL_law_2400 : decode cL_law 2400 = .ok (.aload_n 2, 1) := dc_44 (dc_bv 44 (by decide) ((lg_37 32).trans rfl))
theorem dL_law_2401 : decode cL_law 2401 = .ok (.aload_n 0, 1) := dc_42 (dc_bv 42 (by decide) ((lg_37 33).trans rfl))
theorem dL_law_2402 : decode cL_law 2402 = .ok (.iload 4, 2) := dc_21 (dc_bv 21 (by decide) ((lg_37 34).trans rfl)) (dc_bv 4 (by decide) ((lg_37 35).trans rfl))
theorem dL_law_2404 : decode cL_law 2404 = .ok (.iconst 1, 1) := dc_4 (dc_bv 4 (by decide) ((lg_37 36).trans rfl))
theorem dL_law_2405 : decode cL_law 2405 = .ok (.iadd, 1) := dc_96 (dc_bv 96 (by decide) ((lg_37 37).trans rfl))
theorem dL_law_2406 : decode cL_law 2406 = .ok (.iaload, 1) := dc_46 (dc_bv 46 (by decide) ((lg_37 38).trans rfl))
theorem dL_law_2407 : decode cL_law 2407 = .ok (.aload_n 0, 1) := dc_42 (dc_bv 42 (by decide) ((lg_37 39).trans rfl))
theorem dL_law_2408 : decode cL_law 2408 = .ok (.iload 4, 2) := dc_21 (dc_bv 21 (by decide) ((lg_37 40).trans rfl)) (dc_bv 4 (by decide) ((lg_37 41).trans rfl))
theorem dL_law_2410 : decode cL_law 2410 = .ok (.iconst 2, 1) := dc_5 (dc_bv 5 (by decide) ((lg_37 42).trans rfl))
theorem dL_law_2411 : decode cL_law 2411 = .ok (.iadd, 1) := dc_96 (dc_bv 96 (by decide) ((lg_37 43).trans rfl))
theorem dL_law_2412 : decode cL_law 2412 = .ok (.iaload, 1) := dc_46 (dc_bv 46 (by decide) ((lg_37 44).trans rfl))
theorem dL_law_2413 : decode cL_law 2413 = .ok (.invokevirtual 258, 3) := dc_182 (dc_bv 182 (by decide) ((lg_37 45).trans rfl)) (dc_bv 1 (by decide) ((lg_37 46).trans rfl)) (dc_bv 2 (by decide) ((lg_37 47).trans rfl))
theorem dL_law_2416 : decode cL_law 2416 = .ok (.istore 6, 2) := dc_54 (dc_bv 54 (by decide) ((lg_37 48).trans rfl)) (dc_bv 6 (by decide) ((lg_37 49).trans rfl))
theorem dL_law_2418 : decode cL_law 2418 = .ok (.aload_n 2, 1) := dc_44 (dc_bv 44 (by decide) ((lg_37 50).trans rfl))
theorem dL_law_2419 : decode cL_law 2419 = .ok (.invokevirtual 138, 3) := dc_182 (dc_bv 182 (by decide) ((lg_37 51).trans rfl)) (dc_bv 0 (by decide) ((lg_37 52).trans rfl)) (dc_bv 138 (by decide) ((lg_37 53).trans rfl))
theorem dL_law_2422 : decode cL_law 2422 = .ok (.iload 5, 2) := dc_21 (dc_bv 21 (by decide) ((lg_37 54).trans rfl)) (dc_bv 5 (by decide) ((lg_37 55).trans rfl))
theorem dL_law_2424 : decode cL_law 2424 = .ok (.if_icmp .eq 5, 3) := dc_159 (dc_bv 159 (by decide) ((lg_37 56).trans rfl)) (dc_bv 0 (by decide) ((lg_37 57).trans rfl)) (dc_bv 5 (by decide) ((lg_37 58).trans rfl))
theorem dL_law_2427 : decode cL_law 2427 = .ok (.iconst 0, 1) := dc_3 (dc_bv 3 (by decide) ((lg_37 59).trans rfl))
theorem dL_law_2428 : decode cL_law 2428 = .ok (.ireturn, 1) := dc_172 (dc_bv 172 (by decide) ((lg_37 60).trans rfl))
theorem dL_law_2429 : decode cL_law 2429 = .ok (.iload 5, 2) := dc_21 (dc_bv 21 (by decide) ((lg_37 61).trans rfl)) (dc_bv 5 (by decide) ((lg_37 62).trans rfl))
theorem dL_law_2431 : decode cL_law 2431 = .ok (.ifCond .ne 15, 3) := dc_154 (dc_bv 154 (by decide) ((lg_37 63).trans rfl)) (dc_bv 0 (by decide) ((lg_38 0).trans rfl)) (dc_bv 15 (by decide) ((lg_38 1).trans rfl))
theorem dL_law_2434 : decode cL_law 2434 = .ok (.aload_n 3, 1) := dc_45 (dc_bv 45 (by decide) ((lg_38 2).trans rfl))
theorem dL_law_2435 : decode cL_law 2435 = .ok (.iconst 0, 1) := dc_3 (dc_bv 3 (by decide) ((lg_38 3).trans rfl))
theorem dL_law_2436 : decode cL_law 2436 = .ok (.laload, 1) := dc_47 (dc_bv 47 (by decide) ((lg_38 4).trans rfl))
theorem dL_law_2437 : decode cL_law 2437 = .ok (.iload 6, 2) := dc_21 (dc_bv 21 (by decide) ((lg_38 5).trans rfl)) (dc_bv 6 (by decide) ((lg_38 6).trans rfl))
theorem dL_law_2439 : decode cL_law 2439 = .ok (.i2l, 1) := dc_133 (dc_bv 133 (by decide) ((lg_38 7).trans rfl))
theorem dL_law_2440 : decode cL_law 2440 = .ok (.lcmp, 1) := dc_148 (dc_bv 148 (by decide) ((lg_38 8).trans rfl))
theorem dL_law_2441 : decode cL_law 2441 = .ok (.ifCond .eq 5, 3) := dc_153 (dc_bv 153 (by decide) ((lg_38 9).trans rfl)) (dc_bv 0 (by decide) ((lg_38 10).trans rfl)) (dc_bv 5 (by decide) ((lg_38 11).trans rfl))
theorem dL_law_2444 : decode cL_law 2444 = .ok (.iconst 0, 1) := dc_3 (dc_bv 3 (by decide) ((lg_38 12).trans rfl))
theorem dL_law_2445 : decode cL_law 2445 = .ok (.ireturn, 1) := dc_172 (dc_bv 172 (by decide) ((lg_38 13).trans rfl))
theorem dL_law_2446 : decode cL_law 2446 = .ok (.goto 190, 3) := dc_167 (dc_bv 167 (by decide) ((lg_38 14).trans rfl)) (dc_bv 0 (by decide) ((lg_38 15).trans rfl)) (dc_bv 190 (by decide) ((lg_38 16).trans rfl))
theorem dL_law_2449 : decode cL_law 2449 = .ok (.aload_n 1, 1) := dc_43 (dc_bv 43 (by decide) ((lg_38 17).trans rfl))
theorem dL_law_2450 : decode cL_law 2450 = .ok (.aload_n 0, 1) := dc_42 (dc_bv 42 (by decide) ((lg_38 18).trans rfl))
theorem dL_law_2451 : decode cL_law 2451 = .ok (.iload 4, 2) := dc_21 (dc_bv 21 (by decide) ((lg_38 19).trans rfl)) (dc_bv 4 (by decide) ((lg_38 20).trans rfl))
theorem dL_law_2453 : decode cL_law 2453 = .ok (.iconst 1, 1) := dc_4 (dc_bv 4 (by decide) ((lg_38 21).trans rfl))
theorem dL_law_2454 : decode cL_law 2454 = .ok (.iadd, 1) := dc_96 (dc_bv 96 (by decide) ((lg_38 22).trans rfl))
theorem dL_law_2455 : decode cL_law 2455 = .ok (.iaload, 1) := dc_46 (dc_bv 46 (by decide) ((lg_38 23).trans rfl))
theorem dL_law_2456 : decode cL_law 2456 = .ok (.aload_n 3, 1) := dc_45 (dc_bv 45 (by decide) ((lg_38 24).trans rfl))
theorem dL_law_2457 : decode cL_law 2457 = .ok (.invokestatic 259, 3) := dc_184 (dc_bv 184 (by decide) ((lg_38 25).trans rfl)) (dc_bv 1 (by decide) ((lg_38 26).trans rfl)) (dc_bv 3 (by decide) ((lg_38 27).trans rfl))
theorem dL_law_2460 : decode cL_law 2460 = .ok (.istore 5, 2) := dc_54 (dc_bv 54 (by decide) ((lg_38 28).trans rfl)) (dc_bv 5 (by decide) ((lg_38 29).trans rfl))
theorem dL_law_2462 : decode cL_law 2462 = .ok (.aload_n 2, 1) := dc_44 (dc_bv 44 (by decide) ((lg_38 30).trans rfl))
theorem dL_law_2463 : decode cL_law 2463 = .ok (.aload_n 0, 1) := dc_42 (dc_bv 42 (by decide) ((lg_38 31).trans rfl))
theorem dL_law_2464 : decode cL_law 2464 = .ok (.iload 4, 2) := dc_21 (dc_bv 21 (by decide) ((lg_38 32).trans rfl)) (dc_bv 4 (by decide) ((lg_38 33).trans rfl))
theorem dL_law_2466 : decode cL_law 2466 = .ok (.iconst 1, 1) := dc_4 (dc_bv 4 (by decide) ((lg_38 34).trans rfl))
theorem dL_law_2467 : decode cL_law 2467 = .ok (.iadd, 1) := dc_96 (dc_bv 96 (by decide) ((lg_38 35).trans rfl))
theorem dL_law_2468 : decode cL_law 2468 = .ok (.iaload, 1) := dc_46 (dc_bv 46 (by decide) ((lg_38 36).trans rfl))
theorem dL_law_2469 : decode cL_law 2469 = .ok (.invokevirtual 261, 3) := dc_182 (dc_bv 182 (by decide) ((lg_38 37).trans rfl)) (dc_bv 1 (by decide) ((lg_38 38).trans rfl)) (dc_bv 5 (by decide) ((lg_38 39).trans rfl))
theorem dL_law_2472 : decode cL_law 2472 = .ok (.istore 6, 2) := dc_54 (dc_bv 54 (by decide) ((lg_38 40).trans rfl)) (dc_bv 6 (by decide) ((lg_38 41).trans rfl))
theorem dL_law_2474 : decode cL_law 2474 = .ok (.aload_n 2, 1) := dc_44 (dc_bv 44 (by decide) ((lg_38 42).trans rfl))
theorem dL_law_2475 : decode cL_law 2475 = .ok (.invokevirtual 138, 3) := dc_182 (dc_bv 182 (by decide) ((lg_38 43).trans rfl)) (dc_bv 0 (by decide) ((lg_38 44).trans rfl)) (dc_bv 138 (by decide) ((lg_38 45).trans rfl))
theorem dL_law_2478 : decode cL_law 2478 = .ok (.iload 5, 2) := dc_21 (dc_bv 21 (by decide) ((lg_38 46).trans rfl)) (dc_bv 5 (by decide) ((lg_38 47).trans rfl))
theorem dL_law_2480 : decode cL_law 2480 = .ok (.if_icmp .eq 5, 3) := dc_159 (dc_bv 159 (by decide) ((lg_38 48).trans rfl)) (dc_bv 0 (by decide) ((lg_38 49).trans rfl)) (dc_bv 5 (by decide) ((lg_38 50).trans rfl))
theorem dL_law_2483 : decode cL_law 2483 = .ok (.iconst 0, 1) := dc_3 (dc_bv 3 (by decide) ((lg_38 51).trans rfl))
theorem dL_law_2484 : decode cL_law 2484 = .ok (.ireturn, 1) := dc_172 (dc_bv 172 (by decide) ((lg_38 52).trans rfl))
theorem dL_law_2485 : decode cL_law 2485 = .ok (.iload 5, 2) := dc_21 (dc_bv 21 (by decide) ((lg_38 53).trans rfl)) (dc_bv 5 (by decide) ((lg_38 54).trans rfl))
theorem dL_law_2487 : decode cL_law 2487 = .ok (.ifCond .ne 15, 3) := dc_154 (dc_bv 154 (by decide) ((lg_38 55).trans rfl)) (dc_bv 0 (by decide) ((lg_38 56).trans rfl)) (dc_bv 15 (by decide) ((lg_38 57).trans rfl))
theorem dL_law_2490 : decode cL_law 2490 = .ok (.aload_n 3, 1) := dc_45 (dc_bv 45 (by decide) ((lg_38 58).trans rfl))
theorem dL_law_2491 : decode cL_law 2491 = .ok (.iconst 0, 1) := dc_3 (dc_bv 3 (by decide) ((lg_38 59).trans rfl))
theorem dL_law_2492 : decode cL_law 2492 = .ok (.laload, 1) := dc_47 (dc_bv 47 (by decide) ((lg_38 60).trans rfl))
theorem dL_law_2493 : decode cL_law 2493 = .ok (.iload 6, 2) := dc_21 (dc_bv 21 (by decide) ((lg_38 61).trans rfl)) (dc_bv 6 (by decide) ((lg_38 62).trans rfl))
theorem dL_law_2495 : decode cL_law 2495 = .ok (.i2l, 1) := dc_133 (dc_bv 133 (by decide) ((lg_38 63).trans rfl))
theorem dL_law_2496 : decode cL_law 2496 = .ok (.lcmp, 1) := dc_148 (dc_bv 148 (by decide) ((lg_39 0).trans rfl))
theorem dL_law_2497 : decode cL_law 2497 = .ok (.ifCond .eq 5, 3) := dc_153 (dc_bv 153 (by decide) ((lg_39 1).trans rfl)) (dc_bv 0 (by decide) ((lg_39 2).trans rfl)) (dc_bv 5 (by decide) ((lg_39 3).trans rfl))
theorem dL_law_2500 : decode cL_law 2500 = .ok (.iconst 0, 1) := dc_3 (dc_bv 3 (by decide) ((lg_39 4).trans rfl))
theorem dL_law_2501 : decode cL_law 2501 = .ok (.ireturn, 1) := dc_172 (dc_bv 172 (by decide) ((lg_39 5).trans rfl))
theorem dL_law_2502 : decode cL_law 2502 = .ok (.goto 134, 3) := dc_167 (dc_bv 167 (by decide) ((lg_39 6).trans rfl)) (dc_bv 0 (by decide) ((lg_39 7).trans rfl)) (dc_bv 134 (by decide) ((lg_39 8).trans rfl))
theorem dL_law_2505 : decode cL_law 2505 = .ok (.aload_n 1, 1) := dc_43 (dc_bv 43 (by decide) ((lg_39 9).trans rfl))
theorem dL_law_2506 : decode cL_law 2506 = .ok (.aload_n 0, 1) := dc_42 (dc_bv 42 (by decide) ((lg_39 10).trans rfl))
theorem dL_law_2507 : decode cL_law 2507 = .ok (.iload 4, 2) := dc_21 (dc_bv 21 (by decide) ((lg_39 11).trans rfl)) (dc_bv 4 (by decide) ((lg_39 12).trans rfl))
theorem dL_law_2509 : decode cL_law 2509 = .ok (.iconst 1, 1) := dc_4 (dc_bv 4 (by decide) ((lg_39 13).trans rfl))
theorem dL_law_2510 : decode cL_law 2510 = .ok (.iadd, 1) := dc_96 (dc_bv 96 (by decide) ((lg_39 14).trans rfl))
theorem dL_law_2511 : decode cL_law 2511 = .ok (.iaload, 1) := dc_46 (dc_bv 46 (by decide) ((lg_39 15).trans rfl))
theorem dL_law_2512 : decode cL_law 2512 = .ok (.invokevirtual 262, 3) := dc_182 (dc_bv 182 (by decide) ((lg_39 16).trans rfl)) (dc_bv 1 (by decide) ((lg_39 17).trans rfl)) (dc_bv 6 (by decide) ((lg_39 18).trans rfl))
theorem dL_law_2515 : decode cL_law 2515 = .ok (.aload_n 2, 1) := dc_44 (dc_bv 44 (by decide) ((lg_39 19).trans rfl))
theorem dL_law_2516 : decode cL_law 2516 = .ok (.aload_n 0, 1) := dc_42 (dc_bv 42 (by decide) ((lg_39 20).trans rfl))
theorem dL_law_2517 : decode cL_law 2517 = .ok (.iload 4, 2) := dc_21 (dc_bv 21 (by decide) ((lg_39 21).trans rfl)) (dc_bv 4 (by decide) ((lg_39 22).trans rfl))
theorem dL_law_2519 : decode cL_law 2519 = .ok (.iconst 1, 1) := dc_4 (dc_bv 4 (by decide) ((lg_39 23).trans rfl))
theorem dL_law_2520 : decode cL_law 2520 = .ok (.iadd, 1) := dc_96 (dc_bv 96 (by decide) ((lg_39 24).trans rfl))
theorem dL_law_2521 : decode cL_law 2521 = .ok (.iaload, 1) := dc_46 (dc_bv 46 (by decide) ((lg_39 25).trans rfl))
theorem dL_law_2522 : decode cL_law 2522 = .ok (.invokevirtual 265, 3) := dc_182 (dc_bv 182 (by decide) ((lg_39 26).trans rfl)) (dc_bv 1 (by decide) ((lg_39 27).trans rfl)) (dc_bv 9 (by decide) ((lg_39 28).trans rfl))
theorem dL_law_2525 : decode cL_law 2525 = .ok (.if_icmp .eq 111, 3) := dc_159 (dc_bv 159 (by decide) ((lg_39 29).trans rfl)) (dc_bv 0 (by decide) ((lg_39 30).trans rfl)) (dc_bv 111 (by decide) ((lg_39 31).trans rfl))
theorem dL_law_2528 : decode cL_law 2528 = .ok (.iconst 0, 1) := dc_3 (dc_bv 3 (by decide) ((lg_39 32).trans rfl))
theorem dL_law_2529 : decode cL_law 2529 = .ok (.ireturn, 1) := dc_172 (dc_bv 172 (by decide) ((lg_39 33).trans rfl))
theorem dL_law_2530 : decode cL_law 2530 = .ok (.aload_n 1, 1) := dc_43 (dc_bv 43 (by decide) ((lg_39 34).trans rfl))
theorem dL_law_2531 : decode cL_law 2531 = .ok (.invokevirtual 266, 3) := dc_182 (dc_bv 182 (by decide) ((lg_39 35).trans rfl)) (dc_bv 1 (by decide) ((lg_39 36).trans rfl)) (dc_bv 10 (by decide) ((lg_39 37).trans rfl))
theorem dL_law_2534 : decode cL_law 2534 = .ok (.aload_n 2, 1) := dc_44 (dc_bv 44 (by decide) ((lg_39 38).trans rfl))
theorem dL_law_2535 : decode cL_law 2535 = .ok (.invokevirtual 269, 3) := dc_182 (dc_bv 182 (by decide) ((lg_39 39).trans rfl)) (dc_bv 1 (by decide) ((lg_39 40).trans rfl)) (dc_bv 13 (by decide) ((lg_39 41).trans rfl))
theorem dL_law_2538 : decode cL_law 2538 = .ok (.if_icmp .eq 98, 3) := dc_159 (dc_bv 159 (by decide) ((lg_39 42).trans rfl)) (dc_bv 0 (by decide) ((lg_39 43).trans rfl)) (dc_bv 98 (by decide) ((lg_39 44).trans rfl))
theorem dL_law_2541 : decode cL_law 2541 = .ok (.iconst 0, 1) := dc_3 (dc_bv 3 (by decide) ((lg_39 45).trans rfl))
theorem dL_law_2542 : decode cL_law 2542 = .ok (.ireturn, 1) := dc_172 (dc_bv 172 (by decide) ((lg_39 46).trans rfl))
theorem dL_law_2543 : decode cL_law 2543 = .ok (.aload_n 1, 1) := dc_43 (dc_bv 43 (by decide) ((lg_39 47).trans rfl))
theorem dL_law_2544 : decode cL_law 2544 = .ok (.invokevirtual 270, 3) := dc_182 (dc_bv 182 (by decide) ((lg_39 48).trans rfl)) (dc_bv 1 (by decide) ((lg_39 49).trans rfl)) (dc_bv 14 (by decide) ((lg_39 50).trans rfl))
theorem dL_law_2547 : decode cL_law 2547 = .ok (.aload_n 2, 1) := dc_44 (dc_bv 44 (by decide) ((lg_39 51).trans rfl))
theorem dL_law_2548 : decode cL_law 2548 = .ok (.invokevirtual 273, 3) := dc_182 (dc_bv 182 (by decide) ((lg_39 52).trans rfl)) (dc_bv 1 (by decide) ((lg_39 53).trans rfl)) (dc_bv 17 (by decide) ((lg_39 54).trans rfl))
theorem dL_law_2551 : decode cL_law 2551 = .ok (.if_icmp .eq 85, 3) := dc_159 (dc_bv 159 (by decide) ((lg_39 55).trans rfl)) (dc_bv 0 (by decide) ((lg_39 56).trans rfl)) (dc_bv 85 (by decide) ((lg_39 57).trans rfl))
theorem dL_law_2554 : decode cL_law 2554 = .ok (.iconst 0, 1) := dc_3 (dc_bv 3 (by decide) ((lg_39 58).trans rfl))
theorem dL_law_2555 : decode cL_law 2555 = .ok (.ireturn, 1) := dc_172 (dc_bv 172 (by decide) ((lg_39 59).trans rfl))
theorem dL_law_2556 : decode cL_law 2556 = .ok (.aload_n 1, 1) := dc_43 (dc_bv 43 (by decide) ((lg_39 60).trans rfl))
theorem dL_law_2557 : decode cL_law 2557 = .ok (.invokevirtual 274, 3) := dc_182 (dc_bv 182 (by decide) ((lg_39 61).trans rfl)) (dc_bv 1 (by decide) ((lg_39 62).trans rfl)) (dc_bv 18 (by decide) ((lg_39 63).trans rfl))
theorem dL_law_2560 : decode cL_law 2560 = .ok (.aload_n 2, 1) := dc_44 (dc_bv 44 (by decide) ((lg_40 0).trans rfl))
theorem dL_law_2561 : decode cL_law 2561 = .ok (.invokevirtual 277, 3) := dc_182 (dc_bv 182 (by decide) ((lg_40 1).trans rfl)) (dc_bv 1 (by decide) ((lg_40 2).trans rfl)) (dc_bv 21 (by decide) ((lg_40 3).trans rfl))
theorem dL_law_2564 : decode cL_law 2564 = .ok (.goto 72, 3) := dc_167 (dc_bv 167 (by decide) ((lg_40 4).trans rfl)) (dc_bv 0 (by decide) ((lg_40 5).trans rfl)) (dc_bv 72 (by decide) ((lg_40 6).trans rfl))
theorem dL_law_2567 : decode cL_law 2567 = .ok (.aload_n 1, 1) := dc_43 (dc_bv 43 (by decide) ((lg_40 7).trans rfl))
theorem dL_law_2568 : decode cL_law 2568 = .ok (.invokevirtual 278, 3) := dc_182 (dc_bv 182 (by decide) ((lg_40 8).trans rfl)) (dc_bv 1 (by decide) ((lg_40 9).trans rfl)) (dc_bv 22 (by decide) ((lg_40 10).trans rfl))
theorem dL_law_2571 : decode cL_law 2571 = .ok (.aload_n 2, 1) := dc_44 (dc_bv 44 (by decide) ((lg_40 11).trans rfl))
theorem dL_law_2572 : decode cL_law 2572 = .ok (.invokevirtual 282, 3) := dc_182 (dc_bv 182 (by decide) ((lg_40 12).trans rfl)) (dc_bv 1 (by decide) ((lg_40 13).trans rfl)) (dc_bv 26 (by decide) ((lg_40 14).trans rfl))
theorem dL_law_2575 : decode cL_law 2575 = .ok (.if_icmp .eq 61, 3) := dc_159 (dc_bv 159 (by decide) ((lg_40 15).trans rfl)) (dc_bv 0 (by decide) ((lg_40 16).trans rfl)) (dc_bv 61 (by decide) ((lg_40 17).trans rfl))
theorem dL_law_2578 : decode cL_law 2578 = .ok (.iconst 0, 1) := dc_3 (dc_bv 3 (by decide) ((lg_40 18).trans rfl))
theorem dL_law_2579 : decode cL_law 2579 = .ok (.ireturn, 1) := dc_172 (dc_bv 172 (by decide) ((lg_40 19).trans rfl))
theorem dL_law_2580 : decode cL_law 2580 = .ok (.aload_n 1, 1) := dc_43 (dc_bv 43 (by decide) ((lg_40 20).trans rfl))
theorem dL_law_2581 : decode cL_law 2581 = .ok (.aload_n 0, 1) := dc_42 (dc_bv 42 (by decide) ((lg_40 21).trans rfl))
theorem dL_law_2582 : decode cL_law 2582 = .ok (.iload 4, 2) := dc_21 (dc_bv 21 (by decide) ((lg_40 22).trans rfl)) (dc_bv 4 (by decide) ((lg_40 23).trans rfl))
theorem dL_law_2584 : decode cL_law 2584 = .ok (.iconst 1, 1) := dc_4 (dc_bv 4 (by decide) ((lg_40 24).trans rfl))
theorem dL_law_2585 : decode cL_law 2585 = .ok (.iadd, 1) := dc_96 (dc_bv 96 (by decide) ((lg_40 25).trans rfl))
theorem dL_law_2586 : decode cL_law 2586 = .ok (.iaload, 1) := dc_46 (dc_bv 46 (by decide) ((lg_40 26).trans rfl))
theorem dL_law_2587 : decode cL_law 2587 = .ok (.aload_n 3, 1) := dc_45 (dc_bv 45 (by decide) ((lg_40 27).trans rfl))
theorem dL_law_2588 : decode cL_law 2588 = .ok (.invokestatic 283, 3) := dc_184 (dc_bv 184 (by decide) ((lg_40 28).trans rfl)) (dc_bv 1 (by decide) ((lg_40 29).trans rfl)) (dc_bv 27 (by decide) ((lg_40 30).trans rfl))
theorem dL_law_2591 : decode cL_law 2591 = .ok (.istore 5, 2) := dc_54 (dc_bv 54 (by decide) ((lg_40 31).trans rfl)) (dc_bv 5 (by decide) ((lg_40 32).trans rfl))
theorem dL_law_2593 : decode cL_law 2593 = .ok (.aload_n 2, 1) := dc_44 (dc_bv 44 (by decide) ((lg_40 33).trans rfl))
theorem dL_law_2594 : decode cL_law 2594 = .ok (.aload_n 0, 1) := dc_42 (dc_bv 42 (by decide) ((lg_40 34).trans rfl))
theorem dL_law_2595 : decode cL_law 2595 = .ok (.iload 4, 2) := dc_21 (dc_bv 21 (by decide) ((lg_40 35).trans rfl)) (dc_bv 4 (by decide) ((lg_40 36).trans rfl))
theorem dL_law_2597 : decode cL_law 2597 = .ok (.iconst 1, 1) := dc_4 (dc_bv 4 (by decide) ((lg_40 37).trans rfl))
theorem dL_law_2598 : decode cL_law 2598 = .ok (.iadd, 1) := dc_96 (dc_bv 96 (by decide) ((lg_40 38).trans rfl))
theorem dL_law_2599 : decode cL_law 2599 = .ok (.iaload, 1) := dc_46 (dc_bv 46 (by decide) ((lg_40 39).trans rfl))
theorem dL_law_2600 : decode cL_law 2600 = .ok (.invokevirtual 285, 3) := dc_182 (dc_bv 182 (by decide) ((lg_40 40).trans rfl)) (dc_bv 1 (by decide) ((lg_40 41).trans rfl)) (dc_bv 29 (by decide) ((lg_40 42).trans rfl))
theorem dL_law_2603 : decode cL_law 2603 = .ok (.istore 6, 2) := dc_54 (dc_bv 54 (by decide) ((lg_40 43).trans rfl)) (dc_bv 6 (by decide) ((lg_40 44).trans rfl))
theorem dL_law_2605 : decode cL_law 2605 = .ok (.aload_n 2, 1) := dc_44 (dc_bv 44 (by decide) ((lg_40 45).trans rfl))
theorem dL_law_2606 : decode cL_law 2606 = .ok (.invokevirtual 138, 3) := dc_182 (dc_bv 182 (by decide) ((lg_40 46).trans rfl)) (dc_bv 0 (by decide) ((lg_40 47).trans rfl)) (dc_bv 138 (by decide) ((lg_40 48).trans rfl))
theorem dL_law_2609 : decode cL_law 2609 = .ok (.iload 5, 2) := dc_21 (dc_bv 21 (by decide) ((lg_40 49).trans rfl)) (dc_bv 5 (by decide) ((lg_40 50).trans rfl))
theorem dL_law_2611 : decode cL_law 2611 = .ok (.if_icmp .eq 5, 3) := dc_159 (dc_bv 159 (by decide) ((lg_40 51).trans rfl)) (dc_bv 0 (by decide) ((lg_40 52).trans rfl)) (dc_bv 5 (by decide) ((lg_40 53).trans rfl))
theorem dL_law_2614 : decode cL_law 2614 = .ok (.iconst 0, 1) := dc_3 (dc_bv 3 (by decide) ((lg_40 54).trans rfl))
theorem dL_law_2615 : decode cL_law 2615 = .ok (.ireturn, 1) := dc_172 (dc_bv 172 (by decide) ((lg_40 55).trans rfl))
theorem dL_law_2616 : decode cL_law 2616 = .ok (.iload 5, 2) := dc_21 (dc_bv 21 (by decide) ((lg_40 56).trans rfl)) (dc_bv 5 (by decide) ((lg_40 57).trans rfl))
theorem dL_law_2618 : decode cL_law 2618 = .ok (.ifCond .ne 15, 3) := dc_154 (dc_bv 154 (by decide) ((lg_40 58).trans rfl)) (dc_bv 0 (by decide) ((lg_40 59).trans rfl)) (dc_bv 15 (by decide) ((lg_40 60).trans rfl))
theorem dL_law_2621 : decode cL_law 2621 = .ok (.aload_n 3, 1) := dc_45 (dc_bv 45 (by decide) ((lg_40 61).trans rfl))
theorem dL_law_2622 : decode cL_law 2622 = .ok (.iconst 0, 1) := dc_3 (dc_bv 3 (by decide) ((lg_40 62).trans rfl))
theorem dL_law_2623 : decode cL_law 2623 = .ok (.laload, 1) := dc_47 (dc_bv 47 (by decide) ((lg_40 63).trans rfl))
theorem dL_law_2624 : decode cL_law 2624 = .ok (.iload 6, 2) := dc_21 (dc_bv 21 (by decide) ((lg_41 0).trans rfl)) (dc_bv 6 (by decide) ((lg_41 1).trans rfl))
theorem dL_law_2626 : decode cL_law 2626 = .ok (.i2l, 1) := dc_133 (dc_bv 133 (by decide) ((lg_41 2).trans rfl))
theorem dL_law_2627 : decode cL_law 2627 = .ok (.lcmp, 1) := dc_148 (dc_bv 148 (by decide) ((lg_41 3).trans rfl))
theorem dL_law_2628 : decode cL_law 2628 = .ok (.ifCond .eq 5, 3) := dc_153 (dc_bv 153 (by decide) ((lg_41 4).trans rfl)) (dc_bv 0 (by decide) ((lg_41 5).trans rfl)) (dc_bv 5 (by decide) ((lg_41 6).trans rfl))
theorem dL_law_2631 : decode cL_law 2631 = .ok (.iconst 0, 1) := dc_3 (dc_bv 3 (by decide) ((lg_41 7).trans rfl))
theorem dL_law_2632 : decode cL_law 2632 = .ok (.ireturn, 1) := dc_172 (dc_bv 172 (by decide) ((lg_41 8).trans rfl))
theorem dL_law_2633 : decode cL_law 2633 = .ok (.goto 3, 3) := dc_167 (dc_bv 167 (by decide) ((lg_41 9).trans rfl)) (dc_bv 0 (by decide) ((lg_41 10).trans rfl)) (dc_bv 3 (by decide) ((lg_41 11).trans rfl))
theorem dL_law_2636 : decode cL_law 2636 = .ok (.iinc 4 6, 3) := by decide +kernel
theorem dL_law_2639 : decode cL_law 2639 = .ok (.goto (-2616), 3) := dc_167 (dc_bv 167 (by decide) ((lg_41 15).trans rfl)) (dc_bv 245 (by decide) ((lg_41 16).trans rfl)) (dc_bv 200 (by decide) ((lg_41 17).trans rfl))
theorem dL_law_2642 : decode cL_law 2642 = .ok (.iconst 1, 1) := dc_4 (dc_bv 4 (by decide) ((lg_41 18).trans rfl))
theorem dL_law_2643 : decode cL_law 2643 = .ok (.ireturn, 1) := dc_172 (dc_bv 172 (by decide) ((lg_41 19).trans rfl))
