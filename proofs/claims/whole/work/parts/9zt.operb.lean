/-! PARSING: the operands, all instructions -/
theorem bnd_u {o : Option (Unit × Mem)} : bnd o (fun _ μ => some ((), μ)) = o := by cases o <;> rfl
theorem cop_0 {fu j : Nat} {μ : Mem} (h : μ.2.1 9 j 0 = 30) : fX5_readOperands fu 0 j μ = bnd (fX11_takeOptional 0 4 μ) fun a μ1 => ckB a 74 (bnd (fX5_takeName fu 0 (wR μ1 9 j 2 a)) fun x μ2 => some ((), wI μ2 9 j 5 x)) := by
  unfold fX5_readOperands
  simp only [jn_eq]
  rw [nm_eq, h, ckB_ok (by decide), sw_at (v := 1) (by decide), if_pos rfl]
  simp only [nm_eq, c_takePin, c_takeFlag, bnd_u]
theorem cop_1 {fu j : Nat} {μ : Mem} (h : μ.2.1 9 j 0 = 31) : fX5_readOperands fu 0 j μ = bnd (fX11_takeNumber 0 0 1 μ) fun x μ1 => cWt j (wI μ1 9 j 1 x) := by
  unfold fX5_readOperands
  simp only [jn_eq]
  rw [nm_eq, h, ckB_ok (by decide), sw_at (v := 2) (by decide), if_neg (by decide), if_pos rfl]
  simp only [nm_eq, c_takePin, c_takeFlag, wR_same, ckB_ckB]
  rfl
theorem cop_2 {fu j : Nat} {μ : Mem} (h : μ.2.1 9 j 0 = 32) : fX5_readOperands fu 0 j μ = bnd (fX11_takeRole 0 16 μ) fun a μ1 => ckB a 74 (bnd (fX11_takeNumber 0 1 32 (wR μ1 9 j 2 a)) fun x μ2 => some ((), wI μ2 9 j 5 x)) := by
  unfold fX5_readOperands
  simp only [jn_eq]
  rw [nm_eq, h, ckB_ok (by decide), sw_at (v := 3) (by decide), if_neg (by decide), if_neg (by decide), if_pos rfl]
  simp only [nm_eq, c_takePin, c_takeFlag, bnd_u]
theorem cop_3 {fu j : Nat} {μ : Mem} (h : μ.2.1 9 j 0 = 33) : fX5_readOperands fu 0 j μ = bnd (fX11_takeRole 0 32 μ) fun a μ1 => ckB a 74 (bnd (fX11_takeNumber 0 1 32 (wR μ1 9 j 2 a)) fun x μ2 => some ((), wI μ2 9 j 5 x)) := by
  unfold fX5_readOperands
  simp only [jn_eq]
  rw [nm_eq, h, ckB_ok (by decide), sw_at (v := 4) (by decide), if_neg (by decide), if_neg (by decide), if_neg (by decide), if_pos rfl]
  simp only [nm_eq, c_takePin, c_takeFlag, bnd_u]
theorem cop_4 {fu j : Nat} {μ : Mem} (h : μ.2.1 9 j 0 = 34) : fX5_readOperands fu 0 j μ = fX5_readWays 0 j 60 μ := by
  unfold fX5_readOperands
  simp only [jn_eq]
  rw [nm_eq, h, ckB_ok (by decide), sw_at (v := 5) (by decide), if_neg (by decide), if_neg (by decide), if_neg (by decide), if_neg (by decide), if_pos rfl]
  simp only [nm_eq, c_takePin, c_takeFlag, bnd_u]
theorem cop_5 {fu j : Nat} {μ : Mem} (h : μ.2.1 9 j 0 = 35) : fX5_readOperands fu 0 j μ = fX5_readWays 0 j 61 μ := by
  unfold fX5_readOperands
  simp only [jn_eq]
  rw [nm_eq, h, ckB_ok (by decide), sw_at (v := 6) (by decide), if_neg (by decide), if_neg (by decide), if_neg (by decide), if_neg (by decide), if_neg (by decide), if_pos rfl]
  simp only [nm_eq, c_takePin, c_takeFlag, bnd_u]
theorem cop_6 {fu j : Nat} {μ : Mem} (h : μ.2.1 9 j 0 = 36) : fX5_readOperands fu 0 j μ = bnd (fX11_takeRole 0 64 μ) fun a μ1 => ckB a 74 (bnd (fX11_takeOptional 0 128 (wR μ1 9 j 2 a)) fun b μ2 => ckB b 74 (bnd (fX11_takeRole 0 256 (wR μ2 9 j 3 b)) fun d μ3 => ckB d 74 (some ((), wR μ3 9 j 4 d)))) := by
  unfold fX5_readOperands
  simp only [jn_eq]
  rw [nm_eq, h, ckB_ok (by decide), sw_at (v := 7) (by decide), if_neg (by decide), if_neg (by decide), if_neg (by decide), if_neg (by decide), if_neg (by decide), if_neg (by decide), if_pos rfl]
  simp only [nm_eq, c_takePin, c_takeFlag, bnd_u]
theorem cop_7 {fu j : Nat} {μ : Mem} (h : μ.2.1 9 j 0 = 37) : fX5_readOperands fu 0 j μ = bnd (fX11_takeNumber 0 0 7 μ) fun x μ1 => some ((), wI μ1 9 j 5 x) := by
  unfold fX5_readOperands
  simp only [jn_eq]
  rw [nm_eq, h, ckB_ok (by decide), sw_at (v := 8) (by decide), if_neg (by decide), if_neg (by decide), if_neg (by decide), if_neg (by decide), if_neg (by decide), if_neg (by decide), if_neg (by decide), if_neg (by decide), if_neg (by decide), if_neg (by decide)]
  simp only [nm_eq, c_takePin, c_takeFlag, bnd_u]
theorem cop_8 {fu j : Nat} {μ : Mem} (h : μ.2.1 9 j 0 = 38) : fX5_readOperands fu 0 j μ = bnd (fX11_takeNumber 0 0 7 μ) fun x μ1 => some ((), wI μ1 9 j 5 x) := by
  unfold fX5_readOperands
  simp only [jn_eq]
  rw [nm_eq, h, ckB_ok (by decide), sw_at (v := 9) (by decide), if_neg (by decide), if_neg (by decide), if_neg (by decide), if_neg (by decide), if_neg (by decide), if_neg (by decide), if_neg (by decide), if_neg (by decide), if_neg (by decide), if_neg (by decide)]
  simp only [nm_eq, c_takePin, c_takeFlag, bnd_u]
theorem cop_9 {fu j : Nat} {μ : Mem} (h : μ.2.1 9 j 0 = 39) : fX5_readOperands fu 0 j μ = bnd (fX11_takeNumber 0 0 7 μ) fun x μ1 => some ((), wI μ1 9 j 5 x) := by
  unfold fX5_readOperands
  simp only [jn_eq]
  rw [nm_eq, h, ckB_ok (by decide), sw_at (v := 10) (by decide), if_neg (by decide), if_neg (by decide), if_neg (by decide), if_neg (by decide), if_neg (by decide), if_neg (by decide), if_neg (by decide), if_neg (by decide), if_neg (by decide), if_neg (by decide)]
  simp only [nm_eq, c_takePin, c_takeFlag, bnd_u]
theorem cop_10 {fu j : Nat} {μ : Mem} (h : μ.2.1 9 j 0 = 40) : fX5_readOperands fu 0 j μ = bnd (fX11_takeRole 0 512 μ) fun a μ1 => ckB a 74 (bnd (fX11_takeNumber 0 0 31 (wR μ1 9 j 2 a)) fun x μ2 => some ((), wI μ2 9 j 5 x)) := by
  unfold fX5_readOperands
  simp only [jn_eq]
  rw [nm_eq, h, ckB_ok (by decide), sw_at (v := 11) (by decide), if_neg (by decide), if_neg (by decide), if_neg (by decide), if_neg (by decide), if_neg (by decide), if_neg (by decide), if_neg (by decide), if_pos rfl]
  simp only [nm_eq, c_takePin, c_takeFlag, bnd_u]
theorem cop_11 {fu j : Nat} {μ : Mem} (h : μ.2.1 9 j 0 = 41) : fX5_readOperands fu 0 j μ = bnd (fX11_takeRole 0 1024 μ) fun a μ1 => ckB a 74 (fX5_readPlace 0 j (wR μ1 9 j 2 a)) := by
  unfold fX5_readOperands
  simp only [jn_eq]
  rw [nm_eq, h, ckB_ok (by decide), sw_at (v := 40) (by decide), if_neg (by decide), if_neg (by decide), if_neg (by decide), if_neg (by decide), if_neg (by decide), if_neg (by decide), if_neg (by decide), if_neg (by decide), if_pos rfl]
  simp only [nm_eq, c_takePin, c_takeFlag, bnd_u]
theorem cop_12 {fu j : Nat} {μ : Mem} (h : μ.2.1 9 j 0 = 42) : fX5_readOperands fu 0 j μ = bnd (fX11_takeRole 0 2048 μ) fun a μ1 => ckB a 74 (fX5_readPlace 0 j (wR μ1 9 j 2 a)) := by
  unfold fX5_readOperands
  simp only [jn_eq]
  rw [nm_eq, h, ckB_ok (by decide), sw_at (v := 41) (by decide), if_neg (by decide), if_neg (by decide), if_neg (by decide), if_neg (by decide), if_neg (by decide), if_neg (by decide), if_neg (by decide), if_neg (by decide), if_neg (by decide), if_pos rfl]
  simp only [nm_eq, c_takePin, c_takeFlag, bnd_u]
theorem c_ways {w j : Nat} {μ : Mem} : fX5_readWays 0 j w μ = bnd (bnd (fX11_skip 0 w μ) fun x μ1 => if x = 0 then some ((), μ1) else some ((), wR μ1 9 j 2 w)) fun _ μ2 => bnd (fX11_skip 0 62 μ2) fun x μ1 => if x = 0 then some ((), μ1) else some ((), wR μ1 9 j 4 62) := by
  unfold fX5_readWays
  simp only [jn_eq, nm_eq, bnd_as, bnd_ite, bnd_some]
theorem ite_s {p : Prop} [Decidable p] {a b : Int32} {μ : Mem} {q : Nat} : (if p then (some ((), wI μ 27 1 q a) : Option (Unit × Mem)) else some ((), wI μ 27 1 q b)) = some ((), wI μ 27 1 q (if p then a else b)) := by
  by_cases h : p
  · rw [if_pos h, if_pos h]
  · rw [if_neg h, if_neg h]
theorem mop_0 {fu cnt : Nat} {ν : Mem} (hc : cnt < 32) : fX13_readOperands fu 0 (nI (284 + 6 * cnt)) 0 ν = bnd (bnd (fX13_indexIn fu 0 1 ν) fun x ν1 => if x = -1 then some ((), ν1) else bnd (fX13_scan fu 0 (wI ν1 27 1 (284 + 6 * cnt + 1) x)) fun _ ν2 => some ((), ν2)) fun _ ν3 => fX13_readName fu 0 (nI (284 + 6 * cnt + 2)) ν3 := by
  have ck : ∀ {α : Type} (f : Nat) (o : Option α), f < 6 → ckI (nI (284 + 6 * cnt + f)) (if 1 = 4 then 7000 else 700) o = o := fun f o hf => x_ck hc hf
  unfold fX13_readOperands fX13_readJump
  simp only [jn_eq]
  rw [if_pos trivial]
  simp only [show nI (284 + 6 * cnt) + (1 : Int32) = nI (284 + 6 * cnt + 1) from x_add (k := 1), show nI (284 + 6 * cnt) + (2 : Int32) = nI (284 + 6 * cnt + 2) from x_add (k := 2), show nI (284 + 6 * cnt) + (3 : Int32) = nI (284 + 6 * cnt + 3) from x_add (k := 3), ck 1 _ (by decide), ck 2 _ (by decide), x_cl hc (show 1 < 6 by decide), x_cl hc (show 2 < 6 by decide), nm_eq, jn_eq, bnd_as, bnd_ite, bnd_some, bnd_u]
theorem mop_1 {fu cnt : Nat} {ν : Mem} (hc : cnt < 32) : fX13_readOperands fu 0 (nI (284 + 6 * cnt)) 1 ν = bnd (fX13_putNumber fu 0 (nI (284 + 6 * cnt + 1)) 0 1 ν) fun _ ν1 => mWt fu (nI (284 + 6 * cnt + 3)) (284 + 6 * cnt + 2) ν1 := by
  have ck : ∀ {α : Type} (f : Nat) (o : Option α), f < 6 → ckI (nI (284 + 6 * cnt + f)) (if 1 = 4 then 7000 else 700) o = o := fun f o hf => x_ck hc hf
  unfold fX13_readOperands fX13_readWait
  simp only [jn_eq]
  rw [if_neg (by decide), if_pos trivial]
  simp only [show nI (284 + 6 * cnt) + (1 : Int32) = nI (284 + 6 * cnt + 1) from x_add (k := 1), show nI (284 + 6 * cnt) + (2 : Int32) = nI (284 + 6 * cnt + 2) from x_add (k := 2), show nI (284 + 6 * cnt) + (3 : Int32) = nI (284 + 6 * cnt + 3) from x_add (k := 3), ck 1 _ (by decide), ck 2 _ (by decide), x_cl hc (show 1 < 6 by decide), x_cl hc (show 2 < 6 by decide), nm_eq, jn_eq, bnd_as, bnd_ite, bnd_some, bnd_u]
  unfold mWt
  congr 1
  funext _ ν1
  congr 1
  funext x ν2
  by_cases e : x = 0
  · simp only [e, if_true, not_true_eq_false, if_false]
  · simp only [e, if_false, not_false_eq_true, if_true]
theorem mop_2 {fu cnt : Nat} {ν : Mem} (hc : cnt < 32) : fX13_readOperands fu 0 (nI (284 + 6 * cnt)) 2 ν = bnd (fX13_readPlace fu 0 (nI (284 + 6 * cnt + 1)) 63 ν) fun _ ν1 => fX13_putNumber fu 0 (nI (284 + 6 * cnt + 2)) 1 32 ν1 := by
  have ck : ∀ {α : Type} (f : Nat) (o : Option α), f < 6 → ckI (nI (284 + 6 * cnt + f)) (if 1 = 4 then 7000 else 700) o = o := fun f o hf => x_ck hc hf
  unfold fX13_readOperands 
  simp only [jn_eq]
  rw [if_neg (by decide), if_neg (by decide), if_pos trivial, if_neg (fun z => z trivial)]
  simp only [show nI (284 + 6 * cnt) + (1 : Int32) = nI (284 + 6 * cnt + 1) from x_add (k := 1), show nI (284 + 6 * cnt) + (2 : Int32) = nI (284 + 6 * cnt + 2) from x_add (k := 2), show nI (284 + 6 * cnt) + (3 : Int32) = nI (284 + 6 * cnt + 3) from x_add (k := 3), ck 1 _ (by decide), ck 2 _ (by decide), x_cl hc (show 1 < 6 by decide), x_cl hc (show 2 < 6 by decide), nm_eq, jn_eq, bnd_as, bnd_ite, bnd_some, bnd_u]
theorem mop_3 {fu cnt : Nat} {ν : Mem} (hc : cnt < 32) : fX13_readOperands fu 0 (nI (284 + 6 * cnt)) 3 ν = bnd (fX13_readPlace fu 0 (nI (284 + 6 * cnt + 1)) 415 ν) fun _ ν1 => fX13_putNumber fu 0 (nI (284 + 6 * cnt + 2)) 1 32 ν1 := by
  have ck : ∀ {α : Type} (f : Nat) (o : Option α), f < 6 → ckI (nI (284 + 6 * cnt + f)) (if 1 = 4 then 7000 else 700) o = o := fun f o hf => x_ck hc hf
  unfold fX13_readOperands 
  simp only [jn_eq]
  rw [if_neg (by decide), if_neg (by decide), if_neg (by decide), if_pos trivial, if_pos (by decide)]
  simp only [show nI (284 + 6 * cnt) + (1 : Int32) = nI (284 + 6 * cnt + 1) from x_add (k := 1), show nI (284 + 6 * cnt) + (2 : Int32) = nI (284 + 6 * cnt + 2) from x_add (k := 2), show nI (284 + 6 * cnt) + (3 : Int32) = nI (284 + 6 * cnt + 3) from x_add (k := 3), ck 1 _ (by decide), ck 2 _ (by decide), x_cl hc (show 1 < 6 by decide), x_cl hc (show 2 < 6 by decide), nm_eq, jn_eq, bnd_as, bnd_ite, bnd_some, bnd_u]
theorem mop_4 {fu cnt : Nat} {ν : Mem} (hc : cnt < 32) : fX13_readOperands fu 0 (nI (284 + 6 * cnt)) 4 ν = bnd (bnd (fX13_accept fu 0 49 ν) fun x ν1 => some ((), wI ν1 27 1 (284 + 6 * cnt + 1) (if x = 0 then 0 else 1))) fun _ ν2 => bnd (fX13_accept fu 0 50 ν2) fun x ν1 => some ((), wI ν1 27 1 (284 + 6 * cnt + 2) (if x = 0 then 0 else 1)) := by
  have ck : ∀ {α : Type} (f : Nat) (o : Option α), f < 6 → ckI (nI (284 + 6 * cnt + f)) (if 1 = 4 then 7000 else 700) o = o := fun f o hf => x_ck hc hf
  unfold fX13_readOperands fX13_readQueueing
  simp only [jn_eq]
  rw [if_neg (by decide), if_neg (by decide), if_neg (by decide), if_neg (by decide), if_pos trivial]
  simp only [show nI (284 + 6 * cnt) + (1 : Int32) = nI (284 + 6 * cnt + 1) from x_add (k := 1), show nI (284 + 6 * cnt) + (2 : Int32) = nI (284 + 6 * cnt + 2) from x_add (k := 2), show nI (284 + 6 * cnt) + (3 : Int32) = nI (284 + 6 * cnt + 3) from x_add (k := 3), ck 1 _ (by decide), ck 2 _ (by decide), x_cl hc (show 1 < 6 by decide), x_cl hc (show 2 < 6 by decide), nm_eq, jn_eq, bnd_as, bnd_ite, bnd_some, bnd_u]
  simp only [ite_s]
  congr 1
  funext x ν1
  by_cases e : x = 0
  · simp only [e, if_true]
  · simp only [e, if_false]
theorem mop_5 {fu cnt : Nat} {ν : Mem} (hc : cnt < 32) : fX13_readOperands fu 0 (nI (284 + 6 * cnt)) 5 ν = bnd (bnd (fX13_accept fu 0 51 ν) fun x ν1 => some ((), wI ν1 27 1 (284 + 6 * cnt + 1) (if x = 0 then 0 else 1))) fun _ ν2 => bnd (fX13_accept fu 0 50 ν2) fun x ν1 => some ((), wI ν1 27 1 (284 + 6 * cnt + 2) (if x = 0 then 0 else 1)) := by
  have ck : ∀ {α : Type} (f : Nat) (o : Option α), f < 6 → ckI (nI (284 + 6 * cnt + f)) (if 1 = 4 then 7000 else 700) o = o := fun f o hf => x_ck hc hf
  unfold fX13_readOperands fX13_readQueueing
  simp only [jn_eq]
  rw [if_neg (by decide), if_neg (by decide), if_neg (by decide), if_neg (by decide), if_neg (by decide), if_pos trivial]
  simp only [show nI (284 + 6 * cnt) + (1 : Int32) = nI (284 + 6 * cnt + 1) from x_add (k := 1), show nI (284 + 6 * cnt) + (2 : Int32) = nI (284 + 6 * cnt + 2) from x_add (k := 2), show nI (284 + 6 * cnt) + (3 : Int32) = nI (284 + 6 * cnt + 3) from x_add (k := 3), ck 1 _ (by decide), ck 2 _ (by decide), x_cl hc (show 1 < 6 by decide), x_cl hc (show 2 < 6 by decide), nm_eq, jn_eq, bnd_as, bnd_ite, bnd_some, bnd_u]
  simp only [ite_s]
  congr 1
  funext x ν1
  by_cases e : x = 0
  · simp only [e, if_true]
  · simp only [e, if_false]
theorem mop_6 {fu cnt : Nat} {ν : Mem} (hc : cnt < 32) : fX13_readOperands fu 0 (nI (284 + 6 * cnt)) 6 ν = bnd (fX13_readPlace fu 0 (nI (284 + 6 * cnt + 1)) 311 ν) fun _ ν1 => bnd (bnd (fX13_accept fu 0 52 ν1) fun x ν1 => if x = 0 then bnd (fX13_accept fu 0 53 ν1) fun y ν2 => some ((), wI ν2 27 1 (284 + 6 * cnt + 2) (if y = 0 then 0 else 2)) else some ((), wI ν1 27 1 (284 + 6 * cnt + 2) 1)) fun _ ν2 => fX13_readPlace fu 0 (nI (284 + 6 * cnt + 3)) 127 ν2 := by
  have ck : ∀ {α : Type} (f : Nat) (o : Option α), f < 6 → ckI (nI (284 + 6 * cnt + f)) (if 1 = 4 then 7000 else 700) o = o := fun f o hf => x_ck hc hf
  unfold fX13_readOperands fX13_readMove
  simp only [jn_eq]
  rw [if_neg (by decide), if_neg (by decide), if_neg (by decide), if_neg (by decide), if_neg (by decide), if_neg (by decide), if_pos trivial]
  simp only [show nI (284 + 6 * cnt) + (1 : Int32) = nI (284 + 6 * cnt + 1) from x_add (k := 1), show nI (284 + 6 * cnt) + (2 : Int32) = nI (284 + 6 * cnt + 2) from x_add (k := 2), show nI (284 + 6 * cnt) + (3 : Int32) = nI (284 + 6 * cnt + 3) from x_add (k := 3), ck 1 _ (by decide), ck 2 _ (by decide), x_cl hc (show 1 < 6 by decide), x_cl hc (show 2 < 6 by decide), nm_eq, jn_eq, bnd_as, bnd_ite, bnd_some, bnd_u]
  congr 1
  funext _ ν0
  congr 1
  funext x ν1
  by_cases e : x = 0
  · simp only [e, if_true]
    congr 1
    funext y ν2
    by_cases e' : y = 0
    · simp only [e', if_true]
    · simp only [e', if_false]
  · simp only [e, if_false]
theorem mop_7 {fu cnt : Nat} {ν : Mem} (hc : cnt < 32) : fX13_readOperands fu 0 (nI (284 + 6 * cnt)) 7 ν = fX13_putNumber fu 0 (nI (284 + 6 * cnt + 1)) 0 7 ν := by
  have ck : ∀ {α : Type} (f : Nat) (o : Option α), f < 6 → ckI (nI (284 + 6 * cnt + f)) (if 1 = 4 then 7000 else 700) o = o := fun f o hf => x_ck hc hf
  unfold fX13_readOperands 
  simp only [jn_eq]
  rw [if_neg (by decide), if_neg (by decide), if_neg (by decide), if_neg (by decide), if_neg (by decide), if_neg (by decide), if_neg (by decide), if_pos trivial]
  simp only [show nI (284 + 6 * cnt) + (1 : Int32) = nI (284 + 6 * cnt + 1) from x_add (k := 1), show nI (284 + 6 * cnt) + (2 : Int32) = nI (284 + 6 * cnt + 2) from x_add (k := 2), show nI (284 + 6 * cnt) + (3 : Int32) = nI (284 + 6 * cnt + 3) from x_add (k := 3), ck 1 _ (by decide), ck 2 _ (by decide), x_cl hc (show 1 < 6 by decide), x_cl hc (show 2 < 6 by decide), nm_eq, jn_eq, bnd_as, bnd_ite, bnd_some, bnd_u]
theorem mop_8 {fu cnt : Nat} {ν : Mem} (hc : cnt < 32) : fX13_readOperands fu 0 (nI (284 + 6 * cnt)) 8 ν = fX13_putNumber fu 0 (nI (284 + 6 * cnt + 1)) 0 7 ν := by
  have ck : ∀ {α : Type} (f : Nat) (o : Option α), f < 6 → ckI (nI (284 + 6 * cnt + f)) (if 1 = 4 then 7000 else 700) o = o := fun f o hf => x_ck hc hf
  unfold fX13_readOperands 
  simp only [jn_eq]
  rw [if_neg (by decide), if_neg (by decide), if_neg (by decide), if_neg (by decide), if_neg (by decide), if_neg (by decide), if_neg (by decide), if_neg (by decide), if_pos trivial]
  simp only [show nI (284 + 6 * cnt) + (1 : Int32) = nI (284 + 6 * cnt + 1) from x_add (k := 1), show nI (284 + 6 * cnt) + (2 : Int32) = nI (284 + 6 * cnt + 2) from x_add (k := 2), show nI (284 + 6 * cnt) + (3 : Int32) = nI (284 + 6 * cnt + 3) from x_add (k := 3), ck 1 _ (by decide), ck 2 _ (by decide), x_cl hc (show 1 < 6 by decide), x_cl hc (show 2 < 6 by decide), nm_eq, jn_eq, bnd_as, bnd_ite, bnd_some, bnd_u]
theorem mop_9 {fu cnt : Nat} {ν : Mem} (hc : cnt < 32) : fX13_readOperands fu 0 (nI (284 + 6 * cnt)) 9 ν = fX13_putNumber fu 0 (nI (284 + 6 * cnt + 1)) 0 7 ν := by
  have ck : ∀ {α : Type} (f : Nat) (o : Option α), f < 6 → ckI (nI (284 + 6 * cnt + f)) (if 1 = 4 then 7000 else 700) o = o := fun f o hf => x_ck hc hf
  unfold fX13_readOperands 
  simp only [jn_eq]
  rw [if_neg (by decide), if_neg (by decide), if_neg (by decide), if_neg (by decide), if_neg (by decide), if_neg (by decide), if_neg (by decide), if_neg (by decide), if_neg (by decide), if_pos trivial]
  simp only [show nI (284 + 6 * cnt) + (1 : Int32) = nI (284 + 6 * cnt + 1) from x_add (k := 1), show nI (284 + 6 * cnt) + (2 : Int32) = nI (284 + 6 * cnt + 2) from x_add (k := 2), show nI (284 + 6 * cnt) + (3 : Int32) = nI (284 + 6 * cnt + 3) from x_add (k := 3), ck 1 _ (by decide), ck 2 _ (by decide), x_cl hc (show 1 < 6 by decide), x_cl hc (show 2 < 6 by decide), nm_eq, jn_eq, bnd_as, bnd_ite, bnd_some, bnd_u]
theorem mop_10 {fu cnt : Nat} {ν : Mem} (hc : cnt < 32) : fX13_readOperands fu 0 (nI (284 + 6 * cnt)) 10 ν = bnd (fX13_readPlace fu 0 (nI (284 + 6 * cnt + 1)) 135 ν) fun _ ν1 => fX13_putNumber fu 0 (nI (284 + 6 * cnt + 2)) 0 31 ν1 := by
  have ck : ∀ {α : Type} (f : Nat) (o : Option α), f < 6 → ckI (nI (284 + 6 * cnt + f)) (if 1 = 4 then 7000 else 700) o = o := fun f o hf => x_ck hc hf
  unfold fX13_readOperands 
  simp only [jn_eq]
  rw [if_neg (by decide), if_neg (by decide), if_neg (by decide), if_neg (by decide), if_neg (by decide), if_neg (by decide), if_neg (by decide), if_neg (by decide), if_neg (by decide), if_neg (by decide), if_pos trivial]
  simp only [show nI (284 + 6 * cnt) + (1 : Int32) = nI (284 + 6 * cnt + 1) from x_add (k := 1), show nI (284 + 6 * cnt) + (2 : Int32) = nI (284 + 6 * cnt + 2) from x_add (k := 2), show nI (284 + 6 * cnt) + (3 : Int32) = nI (284 + 6 * cnt + 3) from x_add (k := 3), ck 1 _ (by decide), ck 2 _ (by decide), x_cl hc (show 1 < 6 by decide), x_cl hc (show 2 < 6 by decide), nm_eq, jn_eq, bnd_as, bnd_ite, bnd_some, bnd_u]
theorem mop_11 {fu cnt : Nat} {ν : Mem} (hc : cnt < 32) : fX13_readOperands fu 0 (nI (284 + 6 * cnt)) 11 ν = bnd (fX13_readPlace fu 0 (nI (284 + 6 * cnt + 1)) 38 ν) fun _ ν1 => mCell fu (nI (284 + 6 * cnt + 2)) (284 + 6 * cnt + 2) ν1 := by
  have ck : ∀ {α : Type} (f : Nat) (o : Option α), f < 6 → ckI (nI (284 + 6 * cnt + f)) (if 1 = 4 then 7000 else 700) o = o := fun f o hf => x_ck hc hf
  unfold fX13_readOperands fX13_readAccess
  simp only [jn_eq]
  rw [if_neg (by decide), if_neg (by decide), if_neg (by decide), if_neg (by decide), if_neg (by decide), if_neg (by decide), if_neg (by decide), if_neg (by decide), if_neg (by decide), if_neg (by decide), if_neg (by decide), if_pos trivial]
  simp only [show nI (284 + 6 * cnt) + (1 : Int32) = nI (284 + 6 * cnt + 1) from x_add (k := 1), show nI (284 + 6 * cnt) + (2 : Int32) = nI (284 + 6 * cnt + 2) from x_add (k := 2), show nI (284 + 6 * cnt) + (3 : Int32) = nI (284 + 6 * cnt + 3) from x_add (k := 3), ck 1 _ (by decide), ck 2 _ (by decide), x_cl hc (show 1 < 6 by decide), x_cl hc (show 2 < 6 by decide), nm_eq, jn_eq, bnd_as, bnd_ite, bnd_some, bnd_u]
  rfl
theorem mop_12 {fu cnt : Nat} {ν : Mem} (hc : cnt < 32) : fX13_readOperands fu 0 (nI (284 + 6 * cnt)) 12 ν = bnd (fX13_readPlace fu 0 (nI (284 + 6 * cnt + 1)) 22 ν) fun _ ν1 => mCell fu (nI (284 + 6 * cnt + 2)) (284 + 6 * cnt + 2) ν1 := by
  have ck : ∀ {α : Type} (f : Nat) (o : Option α), f < 6 → ckI (nI (284 + 6 * cnt + f)) (if 1 = 4 then 7000 else 700) o = o := fun f o hf => x_ck hc hf
  unfold fX13_readOperands fX13_readAccess
  simp only [jn_eq]
  rw [if_neg (by decide), if_neg (by decide), if_neg (by decide), if_neg (by decide), if_neg (by decide), if_neg (by decide), if_neg (by decide), if_neg (by decide), if_neg (by decide), if_neg (by decide), if_neg (by decide), if_neg (by decide), if_pos trivial]
  simp only [show nI (284 + 6 * cnt) + (1 : Int32) = nI (284 + 6 * cnt + 1) from x_add (k := 1), show nI (284 + 6 * cnt) + (2 : Int32) = nI (284 + 6 * cnt + 2) from x_add (k := 2), show nI (284 + 6 * cnt) + (3 : Int32) = nI (284 + 6 * cnt + 3) from x_add (k := 3), ck 1 _ (by decide), ck 2 _ (by decide), x_cl hc (show 1 < 6 by decide), x_cl hc (show 2 < 6 by decide), nm_eq, jn_eq, bnd_as, bnd_ite, bnd_some, bnd_u]
  rfl
