/-! bits of numbers -/
def bt (x : Int32) (q : Nat) : Bool := x.toBitVec.getLsbD q
def b2 (b : Bool) : Int32 := if b then 1 else 0
theorem bt_and (x y : Int32) (q : Nat) : bt (x &&& y) q = (bt x q && bt y q) := by simp [bt]
theorem bt_or (x y : Int32) (q : Nat) : bt (x ||| y) q = (bt x q || bt y q) := by simp [bt]
theorem bt_xor (x y : Int32) (q : Nat) : bt (x ^^^ y) q = (bt x q ^^ bt y q) := by simp [bt]
theorem bt_m1 {q : Nat} (h : q < 32) : bt (-1) q = true := by
  have e : (-1 : Int32).toBitVec = BitVec.allOnes 32 := by decide
  unfold bt
  rw [e, BitVec.getLsbD_allOnes]
  exact decide_eq_true h
theorem bt_0 (q : Nat) : bt 0 q = false := by simp [bt]
theorem bt_ext {x y : Int32} (h : ∀ q, q < 32 → bt x q = bt y q) : x = y := Int32.toBitVec_inj.mp (BitVec.eq_of_getLsbD_eq h)
theorem b2_inj {a b : Bool} (h : b2 a = b2 b) : a = b := by cases a <;> cases b <;> first | rfl | exact absurd h (by decide)
theorem b2_1 {a : Bool} : b2 a = 1 ↔ a = true := by cases a <;> decide
theorem b2_0 {a : Bool} : b2 a = 0 ↔ a = false := by cases a <;> decide
theorem and31 {q : Nat} (h : q < 32) : nI q &&& 31 = nI q := by
  rw [pk_andN (by omega) 5 (by decide), Nat.mod_eq_of_lt (by omega)]
theorem smod32 {q : Nat} (h : q < 32) : ((nI q).toBitVec.smod 32).toNat = q := by
  have : ∀ n, n < 32 → ((nI n).toBitVec.smod 32).toNat = n := by decide +kernel
  exact this q h
theorem bt_shr {x : Int32} {q i : Nat} (h : q < 32) (hi : q + i < 32) : bt (x >>> nI q) i = bt x (q + i) := by
  have e : (x >>> nI q).toBitVec = x.toBitVec.sshiftRight q := by
    rw [Int32.toBitVec_shiftRight]
    show x.toBitVec.sshiftRight ((nI q).toBitVec.smod 32).toNat = _
    rw [smod32 h]
  unfold bt
  rw [e, BitVec.getLsbD_sshiftRight]
  simp [hi, show ¬ 32 ≤ i by omega]
theorem bt_shl {x : Int32} {q i : Nat} (h : q < 32) (hi : i < 32) : bt (x <<< nI q) i = (decide (q ≤ i) && bt x (i - q)) := by
  have e : (x <<< nI q).toBitVec = x.toBitVec <<< q := by
    rw [Int32.toBitVec_shiftLeft]
    show x.toBitVec <<< ((nI q).toBitVec.smod 32) = _
    rw [BitVec.shiftLeft_eq', smod32 h]
  unfold bt
  rw [e, BitVec.getLsbD_shiftLeft]
  by_cases hq : q ≤ i
  · simp [hi, hq, show ¬ i < q by omega]
  · simp [hi, hq, show i < q by omega]
theorem bt_one (i : Nat) : bt 1 i = decide (i = 0) := by
  unfold bt
  show (1#32).getLsbD i = _
  rw [BitVec.getLsbD_one]
  simp
theorem bt_b2 (b : Bool) (i : Nat) : bt (b2 b) i = (b && decide (i = 0)) := by
  cases b
  · simp [b2, bt_0]
  · simp [b2, bt_one]
/-- the bit at q, as the class asks for it -/
theorem bit_at {x : Int32} {q : Nat} (h : q < 32) : (x >>> (nI q &&& 31)) &&& 1 = b2 (bt x q) := by
  rw [and31 h]
  refine bt_ext fun i hi => ?_
  rw [bt_and, bt_one, bt_b2]
  by_cases h0 : i = 0
  · subst h0
    simp [bt_shr h (show q + 0 < 32 by omega)]
  · simp [h0]
/-- one bit alone -/
theorem bt_bit {q i : Nat} (h : q < 32) (hi : i < 32) : bt ((1 : Int32) <<< (nI q &&& 31)) i = decide (i = q) := by
  rw [and31 h, bt_shl h hi, bt_one]
  by_cases hq : i = q
  · subst hq; simp
  · by_cases h2 : q ≤ i
    · simp [hq, show ¬ i - q = 0 by omega]
    · simp [hq, h2]
theorem bt_not {x : Int32} {q : Nat} (h : q < 32) : bt (x ^^^ (-1)) q = !bt x q := by rw [bt_xor, bt_m1 h]; simp
