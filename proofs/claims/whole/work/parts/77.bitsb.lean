/-! more bits -/
theorem ush_k : ∀ n, n < 32 → (((nI n).toUInt32 &&& Int32.toUInt32 31).toBitVec % 32).toNat = n := by decide +kernel
theorem bt_nat (x : Int32) (q : Nat) : bt x q = x.toBitVec.toNat.testBit q := rfl
theorem bt_ushr {x : Int32} {n i : Nat} (h : n < 32) : bt ((x.toUInt32 >>> ((nI n).toUInt32 &&& Int32.toUInt32 31)).toInt32) i = bt x (i + n) := by
  rw [bt_nat, pk_ushr x (nI n) n (ush_k n h), Nat.testBit_div_two_pow]
  rfl
theorem bt_hi {x : Int32} {q : Nat} (h : 32 ≤ q) : bt x q = false := BitVec.getLsbD_of_ge _ _ h
theorem bt_ffff (i : Nat) : bt 65535 i = decide (i < 16) := by
  by_cases h : i < 32
  · have : ∀ i, i < 32 → bt 65535 i = decide (i < 16) := by decide +kernel
    exact this i h
  · rw [bt_hi (by omega), decide_eq_false (by omega)]
theorem bt_shl32 {x : Int32} {q i : Nat} (h : q < 32) (hi : i < 32) : bt (x <<< (nI q &&& 31)) i = (decide (q ≤ i) && bt x (i - q)) := by rw [and31 h]; exact bt_shl h hi
/-- the class's rotation of pin bits -/
def rotP (x b : Int32) : Int32 := (((x &&& 65535) <<< (b &&& 31)) ||| (((x &&& 65535).toUInt32 >>> (((16 : Int32) - b).toUInt32 &&& Int32.toUInt32 31)).toInt32)) &&& 65535
theorem c_rot {x b : Int32} {μ : Mem} : fX12_rotatedPins x b μ = some (rotP x b, μ) := rfl
theorem bt_rot {x : Int32} {b q : Nat} (hb : b ≤ 16) (hq : q < 32) : bt (rotP x (nI b)) q = (decide (q < 16) && bt x ((q + (16 - b)) % 16)) := by
  unfold rotP
  rw [show (16 : Int32) = nI 16 from rfl, pk_sub hb, bt_and, bt_or, bt_shl32 (by omega) hq, bt_ushr (by omega), bt_and, bt_and, bt_ffff, bt_ffff, bt_ffff]
  by_cases h : q < 16
  · by_cases h2 : b ≤ q
    · by_cases h3 : q + (16 - b) < 16
      · rw [show q = b + (q - b) by omega] at h3; omega
      · have e : (q + (16 - b)) % 16 = q - b := by omega
        rw [e]
        simp [h, h2, h3, show q - b < 16 by omega]
    · have e : (q + (16 - b)) % 16 = q + (16 - b) := by omega
      rw [e]
      simp [h, h2, show q + (16 - b) < 16 by omega]
  · simp [h]
/-- bits written under a mask -/
theorem bt_mask {l m v : Int32} {q : Nat} (hq : q < 32) : bt ((l &&& (m ^^^ (-1))) ||| (v &&& m)) q = if bt m q then bt v q else bt l q := by
  rw [bt_or, bt_and, bt_not hq, bt_and]
  cases bt m q <;> simp
theorem bt_group {l m v : Int32} {b s q : Nat} (hb : b < 16) (hq : q < 16) (hm : ∀ q, q < 32 → bt m q = (decide (q < 16) && grpM b s q)) : bt ((l &&& (m ^^^ (-1))) ||| (rotP v (nI b) &&& m)) q = wrB b s v (bt l) q := by
  rw [bt_mask (by omega), hm q (by omega), bt_rot (by omega) (by omega), decide_eq_true hq]
  unfold wrB
  simp only [Bool.true_and]
/-! reversing -/
theorem bt_c {m : Int32} {i : Nat} {b : Bool} (h : bt m i = b) {x : Int32} : bt (x &&& m) i = (bt x i && b) := by rw [bt_and, h]
theorem low_mask {n i : Nat} (hn : n < 32) (hi : i < 32) : bt (((1 : Int32) <<< (nI n &&& 31)) - 1) i = decide (i < n) := by
  have : ∀ n, n < 32 → ∀ i, i < 32 → bt (((1 : Int32) <<< (nI n &&& 31)) - 1) i = decide (i < n) := by decide +kernel
  exact this n hn i hi
theorem bits_5 : ∀ i, i < 32 → bt 1431655765 i = decide (i % 2 = 0) := by decide +kernel
theorem bits_3 : ∀ i, i < 32 → bt 858993459 i = decide (i % 4 < 2) := by decide +kernel
theorem bits_0f : ∀ i, i < 32 → bt 252645135 i = decide (i % 8 < 4) := by decide +kernel
theorem bits_ff00 : ∀ i, i < 32 → bt 65280 i = decide (8 ≤ i ∧ i < 16) := by decide +kernel
theorem sw_bits {x m : Int32} {n i : Nat} (hn : n < 32) (hi : i < 32) (P : Nat → Prop) [DecidablePred P] (hm : ∀ i, i < 32 → bt m i = decide (P i)) (h1 : ∀ i, n ≤ i → i < 32 → ¬ P i → P (i - n)) (h2 : ∀ i, i < 32 → P i → ¬ (n ≤ i ∧ P (i - n))) :
    bt (((x &&& m) <<< (nI n &&& 31)) ||| (((x.toUInt32 >>> ((nI n).toUInt32 &&& Int32.toUInt32 31)).toInt32) &&& m)) i = if P i then bt x (i + n) else (decide (n ≤ i) && bt x (i - n)) := by
  rw [bt_or, bt_shl32 hn hi, bt_and, bt_and, bt_ushr hn, hm i hi]
  by_cases hp : P i
  · rw [if_pos hp, decide_eq_true hp, Bool.and_true]
    by_cases hni : n ≤ i
    · rw [hm (i - n) (by omega), decide_eq_false (fun q => h2 i hi hp ⟨hni, q⟩)]; simp
    · rw [decide_eq_false hni]; simp
  · rw [if_neg hp, decide_eq_false hp, Bool.and_false, Bool.or_false]
    by_cases hni : n ≤ i
    · rw [hm (i - n) (by omega), decide_eq_true (h1 i hni hi hp)]; simp
    · rw [decide_eq_false hni]; simp
theorem c_reverse {x : Int32} {μ : Mem} : ∃ y, fJ6_reverse_0f7a4 x μ = some (y, μ) ∧ ∀ i, i < 32 → bt y i = bt x (31 - i) := by
  unfold fJ6_reverse_0f7a4 fJ6_reverseBytes_0f7a4
  simp only [nm_eq, bnd_some]
  refine ⟨_, rfl, fun i hi => ?_⟩
  generalize h1 : (((x &&& (1431655765 : Int32)) <<< ((1 : Int32) &&& 31)) ||| (((x.toUInt32 >>> ((1 : Int32).toUInt32 &&& Int32.toUInt32 31)).toInt32) &&& (1431655765 : Int32))) = x1
  generalize h2 : (((x1 &&& (858993459 : Int32)) <<< ((2 : Int32) &&& 31)) ||| (((x1.toUInt32 >>> ((2 : Int32).toUInt32 &&& Int32.toUInt32 31)).toInt32) &&& (858993459 : Int32))) = x2
  generalize h3 : (((x2 &&& (252645135 : Int32)) <<< ((4 : Int32) &&& 31)) ||| (((x2.toUInt32 >>> ((4 : Int32).toUInt32 &&& Int32.toUInt32 31)).toInt32) &&& (252645135 : Int32))) = x3
  have b1 : ∀ i, i < 32 → bt x1 i = if i % 2 = 0 then bt x (i + 1) else bt x (i - 1) := fun i hi => by
    rw [← h1]
    refine (sw_bits (n := 1) (by decide) hi (fun i => i % 2 = 0) bits_5 (fun i a b c => by omega) (fun i a b => by omega)).trans ?_
    by_cases h : i % 2 = 0
    · rw [if_pos h, if_pos h]
    · rw [if_neg h, if_neg h, decide_eq_true (by omega), Bool.true_and]
  have b2 : ∀ i, i < 32 → bt x2 i = if i % 4 < 2 then bt x1 (i + 2) else bt x1 (i - 2) := fun i hi => by
    rw [← h2]
    refine (sw_bits (n := 2) (by decide) hi (fun i => i % 4 < 2) bits_3 (fun i a b c => by omega) (fun i a b => by omega)).trans ?_
    by_cases h : i % 4 < 2
    · rw [if_pos h, if_pos h]
    · rw [if_neg h, if_neg h, decide_eq_true (by omega), Bool.true_and]
  have b3 : ∀ i, i < 32 → bt x3 i = if i % 8 < 4 then bt x2 (i + 4) else bt x2 (i - 4) := fun i hi => by
    rw [← h3]
    refine (sw_bits (n := 4) (by decide) hi (fun i => i % 8 < 4) bits_0f (fun i a b c => by omega) (fun i a b => by omega)).trans ?_
    by_cases h : i % 8 < 4
    · rw [if_pos h, if_pos h]
    · rw [if_neg h, if_neg h, decide_eq_true (by omega), Bool.true_and]
  have s24 : bt (x3 <<< ((24 : Int32) &&& 31)) i = (decide (24 ≤ i) && bt x3 (i - 24)) := bt_shl32 (q := 24) (by decide) hi
  have s8 : bt ((x3 &&& (65280 : Int32)) <<< ((8 : Int32) &&& 31)) i = (decide (8 ≤ i) && bt (x3 &&& 65280) (i - 8)) := bt_shl32 (q := 8) (by decide) hi
  have u8 : bt ((x3.toUInt32 >>> ((8 : Int32).toUInt32 &&& Int32.toUInt32 31)).toInt32) i = bt x3 (i + 8) := bt_ushr (n := 8) (by decide)
  have u24 : bt ((x3.toUInt32 >>> ((24 : Int32).toUInt32 &&& Int32.toUInt32 31)).toInt32) i = bt x3 (i + 24) := bt_ushr (n := 24) (by decide)
  rw [bt_or, bt_or, bt_or, bt_and, s24, s8, u8, u24, bt_and, bits_ff00 i hi, bits_ff00 (i - 8) (by omega)]
  have fin : ∀ j, j < 32 → bt x3 j = bt x (j / 8 * 8 + (7 - j % 8)) := fun j hj => by
    rw [b3 j hj]
    by_cases c3 : j % 8 < 4
    · rw [if_pos c3, b2 _ (by omega)]
      by_cases c2 : (j + 4) % 4 < 2
      · rw [if_pos c2, b1 _ (by omega)]
        by_cases c1 : (j + 4 + 2) % 2 = 0
        · rw [if_pos c1]; congr 1; omega
        · rw [if_neg c1]; congr 1; omega
      · rw [if_neg c2, b1 _ (by omega)]
        by_cases c1 : (j + 4 - 2) % 2 = 0
        · rw [if_pos c1]; congr 1; omega
        · rw [if_neg c1]; congr 1; omega
    · rw [if_neg c3, b2 _ (by omega)]
      by_cases c2 : (j - 4) % 4 < 2
      · rw [if_pos c2, b1 _ (by omega)]
        by_cases c1 : (j - 4 + 2) % 2 = 0
        · rw [if_pos c1]; congr 1; omega
        · rw [if_neg c1]; congr 1; omega
      · rw [if_neg c2, b1 _ (by omega)]
        by_cases c1 : (j - 4 - 2) % 2 = 0
        · rw [if_pos c1]; congr 1; omega
        · rw [if_neg c1]; congr 1; omega
  have hb : i < 8 ∨ (8 ≤ i ∧ i < 16) ∨ (16 ≤ i ∧ i < 24) ∨ 24 ≤ i := by omega
  rcases hb with h | h | h | h
  · rw [decide_eq_false (show ¬ 24 ≤ i by omega), decide_eq_false (show ¬ 8 ≤ i by omega), decide_eq_false (show ¬ (8 ≤ i ∧ i < 16) by omega), fin (i + 24) (by omega)]
    simp
    congr 1; omega
  · rw [decide_eq_false (show ¬ 24 ≤ i by omega), decide_eq_true (show 8 ≤ i by omega), decide_eq_true (show (8 ≤ i ∧ i < 16) by omega), decide_eq_false (show ¬ (8 ≤ i - 8 ∧ i - 8 < 16) by omega), bt_hi (q := i + 24) (by omega), fin (i + 8) (by omega)]
    simp
    congr 1; omega
  · rw [decide_eq_false (show ¬ 24 ≤ i by omega), decide_eq_true (show 8 ≤ i by omega), decide_eq_false (show ¬ (8 ≤ i ∧ i < 16) by omega), decide_eq_true (show (8 ≤ i - 8 ∧ i - 8 < 16) by omega), bt_hi (q := i + 24) (by omega), fin (i - 8) (by omega)]
    simp
    congr 1; omega
  · rw [decide_eq_true (show 24 ≤ i by omega), decide_eq_true (show 8 ≤ i by omega), decide_eq_false (show ¬ (8 ≤ i ∧ i < 16) by omega), decide_eq_false (show ¬ (8 ≤ i - 8 ∧ i - 8 < 16) by omega), bt_hi (q := i + 24) (by omega), fin (i - 24) (by omega)]
    simp
    congr 1; omega
theorem ushr_1 {x : Int32} {q : Nat} (h : q < 32) : ((x.toUInt32 >>> ((nI q).toUInt32 &&& Int32.toUInt32 31)).toInt32) &&& 1 = b2 (bt x q) := by
  refine bt_ext fun i hi => ?_
  rw [bt_and, bt_one, bt_b2, bt_ushr h]
  by_cases h0 : i = 0
  · subst h0; simp
  · simp [h0]
theorem b2_shl {b : Bool} {q i : Nat} (h : q < 32) (hi : i < 32) : bt (b2 b <<< (nI q &&& 31)) i = (b && decide (i = q)) := by
  rw [bt_shl32 h hi, bt_b2]
  by_cases hq : i = q
  · subst hq; simp
  · by_cases h2 : q ≤ i
    · simp [hq, show ¬ i - q = 0 by omega]
    · simp [hq, h2]
theorem m_reversed {x : Int32} {μ : Mem} (fu : Nat) : ∃ y, fX13_reversed (fu + 33) x μ = some (y, μ) ∧ ∀ i, i < 32 → bt y i = bt x (31 - i) := by
  unfold fX13_reversed
  rw [jn_eq]
  refine lp_ind (P := fun n (f : Mem → Int32 → Int32 → Option (Int32 × Mem)) => ∀ (k : Nat) (acc : Int32), k + n = 32 → (∀ i, i < 32 → bt acc i = (decide (31 - i < k) && bt x (31 - i))) → ∃ y, f μ acc (nI k) = some (y, μ) ∧ ∀ i, i < 32 → bt y i = bt x (31 - i)) (fun f k acc hk ha => ?_) (fun n f ih k acc hk ha => ?_) 32 fu 0 0 rfl (fun i _ => by rw [bt_0]; simp)
  · have : k = 32 := by omega
    subst this
    refine ⟨acc, if_pos (by decide), fun i hi => ?_⟩
    rw [ha i hi, decide_eq_true (by omega), Bool.true_and]
  · rw [if_neg (show ¬ (32 : Int32) ≤ nI k from nI_ge (b := 32) (by omega) (by decide)), nm_eq, nm_eq, ushr_1 (by omega), show (31 : Int32) - nI k = nI (31 - k) from pk_sub (a := 31) (by omega), nI_1]
    refine ih (k + 1) _ (by omega) fun i hi => ?_
    rw [bt_or, ha i hi, b2_shl (by omega) hi]
    by_cases h : i = 31 - k
    · subst h
      rw [show 31 - (31 - k) = k by omega, decide_eq_false (by omega), decide_eq_true (show k < k + 1 by omega)]; simp
    · by_cases h2 : 31 - i < k
      · rw [decide_eq_true h2, decide_eq_false h, decide_eq_true (by omega)]; simp
      · rw [decide_eq_false h2, decide_eq_false h, decide_eq_false (by omega)]; simp
theorem both_reverse {x : Int32} {μ ν : Mem} (fu : Nat) : ∃ y, fJ6_reverse_0f7a4 x μ = some (y, μ) ∧ fX13_reversed (fu + 33) x ν = some (y, ν) := by
  obtain ⟨y, e1, h1⟩ := c_reverse (x := x) (μ := μ)
  obtain ⟨z, e2, h2⟩ := m_reversed (x := x) (μ := ν) fu
  have : y = z := bt_ext fun i hi => (h1 i hi).trans (h2 i hi).symm
  subst this
  exact ⟨y, e1, e2⟩
