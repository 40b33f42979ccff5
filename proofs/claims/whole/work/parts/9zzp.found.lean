/-! QUERY: what is found -/
theorem c_engMask {p : Nat} {μ : Mem} (h : ∀ i, i < 4 → μ.1 8 (4 * p + i) 0 = 0 ∨ μ.1 8 (4 * p + i) 0 = 1) (fu : Nat) : fX4_engineMask (fu + 5) p μ = some (emask (fun i => decide (μ.1 8 (4 * p + i) 0 = 1)) 0 0 4, μ) := by
  unfold fX4_engineMask
  rw [jn_eq]
  refine lp_ind (P := fun n (f : Mem → Int32 → Int32 → Option (Int32 × Mem)) => ∀ (i : Nat) (acc : Int32), i + n = 4 → f μ acc (nI i) = some (emask (fun i => decide (μ.1 8 (4 * p + i) 0 = 1)) acc i n, μ)) (fun f i acc hi => ?_) (fun n f ih i acc hi => ?_) 4 fu 0 0 rfl
  · simp only [show i = 4 by omega]
    exact if_pos (by decide)
  · simp only [jn_eq, nm_eq]
    rw [if_neg (show ¬ (4 : Int32) ≤ nI i from nI_ge (b := 4) (by omega) (by decide)), ckI_nI (show i < 4 by omega) (by decide), nI_clamp (n := i) (by omega), nI_1]
    rcases h i (by omega) with a | a
    · rw [if_pos a, ih (i + 1) _ (by omega)]
      show _ = some (emask _ (if decide (μ.1 8 (4 * p + i) 0 = 1) then _ else acc) (i + 1) n, μ)
      rw [a]; rfl
    · rw [if_neg (by rw [a]; decide), ih (i + 1) _ (by omega)]
      show _ = some (emask _ (if decide (μ.1 8 (4 * p + i) 0 = 1) then _ else acc) (i + 1) n, μ)
      rw [a]; rfl
def firstG (g : Nat → Bool) : Nat → Nat → Int32
  | _, 0 => -1
  | i, n + 1 => if g i then nI i else firstG g (i + 1) n
def cntG (g : Nat → Bool) : Int32 → Nat → Nat → Int32
  | acc, _, 0 => acc
  | acc, i, n + 1 => cntG g (if g i then acc + 1 else acc) (i + 1) n
theorem firstG_c {g g' : Nat → Bool} : ∀ n i, (∀ j, i ≤ j → j < i + n → g' j = g j) → firstG g' i n = firstG g i n := by
  intro n
  induction n with
  | zero => intro i _; rfl
  | succ n ih =>
    intro i h
    show (if g' i then nI i else firstG g' (i + 1) n) = if g i then nI i else firstG g (i + 1) n
    rw [h i (Nat.le_refl i) (by omega), ih (i + 1) fun j h1 h2 => h j (by omega) (by omega)]
theorem cntG_c {g g' : Nat → Bool} : ∀ n i acc, (∀ j, i ≤ j → j < i + n → g' j = g j) → cntG g' acc i n = cntG g acc i n := by
  intro n
  induction n with
  | zero => intro i acc _; rfl
  | succ n ih =>
    intro i acc h
    show cntG g' (if g' i then acc + 1 else acc) (i + 1) n = cntG g (if g i then acc + 1 else acc) (i + 1) n
    rw [h i (Nat.le_refl i) (by omega), ih (i + 1) _ fun j h1 h2 => h j (by omega) (by omega)]
theorem c_firstE {x : Int32} {μ : Mem} (fu : Nat) : fX12_firstEngine (fu + 5) x μ = some (firstG (bt x) 0 4, μ) := by
  unfold fX12_firstEngine
  simp -implicitDefEqProofs only [jn_eq, nm_eq]
  refine lp_ind (P := fun d (f : Mem → Int32 → Option (Int32 × Mem)) => ∀ i, i + d = 4 → f μ (nI i) = some (firstG (bt x) i d, μ)) (fun f i hi => ?_) (fun d f ih i hi => ?_) 4 fu 0 rfl
  · exact if_pos ((nI_leI (a := 4) (by decide) (by omega)).2 (by omega))
  · have e : ((x >>> (nI i &&& 31)) &&& 1 = 1) ↔ bt x i = true := by
      have b : bt ((x >>> (nI i &&& 31)) &&& 1) 0 = bt x i := by
        rw [bt_and, and31 (show i < 32 by omega), bt_shr (show i < 32 by omega) (by omega), bt_one, Nat.add_zero, decide_eq_true rfl, Bool.and_true]
      have b2' : (x >>> (nI i &&& 31)) &&& 1 = b2 (bt x i) := by
        apply bt_ext
        intro q hq
        rw [bt_b2]
        by_cases g : q = 0
        · subst g; rw [b, decide_eq_true rfl, Bool.and_true]
        · rw [bt_and, bt_one, decide_eq_false g, Bool.and_false, Bool.and_false]
      rw [b2']; exact b2_1
    show (if (4 : Int32) ≤ nI i then _ else if ¬ (x >>> (nI i &&& 31)) &&& 1 = 1 then f μ (nI i + 1) else some (nI i, μ)) = some (if bt x i then nI i else firstG (bt x) (i + 1) d, μ)
    rw [if_neg (show ¬ (4 : Int32) ≤ nI i from fun w => absurd ((nI_leI (a := 4) (by decide) (by omega)).1 w) (by omega)), nI_1]
    by_cases g : bt x i = true
    · rw [if_neg (fun z => z (e.2 g)), if_pos g]
    · rw [if_pos (fun z => g (e.1 z)), if_neg g]; exact ih (i + 1) (by omega)
def bcV (p0 : Int32) : Int32 :=
  let x1 := p0 - (((p0.toUInt32 >>> ((1 : Int32).toUInt32 &&& Int32.toUInt32 31)).toInt32) &&& (1431655765 : Int32))
  let x2 := (x1 &&& (858993459 : Int32)) + (((x1.toUInt32 >>> ((2 : Int32).toUInt32 &&& Int32.toUInt32 31)).toInt32) &&& (858993459 : Int32))
  let x3 := (x2 + ((x2.toUInt32 >>> ((4 : Int32).toUInt32 &&& Int32.toUInt32 31)).toInt32)) &&& (252645135 : Int32)
  let x4 := x3 + ((x3.toUInt32 >>> ((8 : Int32).toUInt32 &&& Int32.toUInt32 31)).toInt32)
  let x5 := x4 + ((x4.toUInt32 >>> ((16 : Int32).toUInt32 &&& Int32.toUInt32 31)).toInt32)
  x5 &&& (63 : Int32)
theorem bc_small : ∀ k, k < 16 → bcV (nI k) = cntG (bt (nI k)) 0 0 4 := by decide +kernel
theorem low4 {x : Int32} (h : ∀ q, 4 ≤ q → q < 32 → bt x q = false) : ∃ k, k < 16 ∧ x = nI k := by
  refine ⟨x.toBitVec.toNat, ?_, ?_⟩
  · have : x.toBitVec.toNat < 2 ^ 4 := Nat.lt_pow_two_of_testBit _ fun i hi => by
      by_cases g : i < 32
      · have := h i hi g
        rw [bt_nat] at this
        exact this
      · exact BitVec.getLsbD_of_ge x.toBitVec i (by omega)
    exact this
  · apply Int32.toBitVec_inj.mp
    show x.toBitVec = (Int32.ofNat x.toBitVec.toNat).toBitVec
    simp
theorem c_count {x : Int32} {μ : Mem} (h : ∀ q, 4 ≤ q → q < 32 → bt x q = false) : fJ6_bitCount_0f7a4 x μ = some (cntG (bt x) 0 0 4, μ) := by
  obtain ⟨k, hk, rfl⟩ := low4 h
  rw [← bc_small k hk]
  rfl
/-- the model's loop over the engines -/
def qB (F : Nat) (x6 : Int32) : (Mem → Int32 → Int32 → Option (Int32 × Mem)) → Mem → Int32 → Int32 → Option (Int32 × Mem) := fun self μ18 x19 x20 =>
  if (4 : Int32) ≤ x20 then (if x6 = 0 then some (x19, μ18) else some ((-1 : Int32), μ18))
  else bnd (fX13_setting 0 x20 0 μ18) fun x30 μ29 => if x30 = 0 then self μ29 x19 (x20 + (1 : Int32)) else bnd (fX13_holdsFor F 0 x20 μ29) fun x33 μ32 => if ¬ x33 = 0 then (if x6 = 0 then self μ32 (x19 + (1 : Int32)) (x20 + (1 : Int32)) else some (x20, μ32)) else self μ32 x19 (x20 + (1 : Int32))
theorem m_qLoop {x6 : Int32} {cc : Nat} {m : Int32} {ν : Mem} (hcc : ν.1 26 0 46 = nI cc) (hc : cc ≤ 200) (hF : FLD ν) (hE : ∀ e, e < 4 → tN ν (476 + 21 * e) = 0 ∨ (tN ν (476 + 21 * e) = 1 ∧ exs (peM ν e) (ν.1 28 15) cc 0 [] = some [b2 (bt m e)])) (fu : Nat) : ∀ d i acc f2 ν1, i + d = 4 → (∀ κ a q, ¬ (κ = 28 ∧ a = 16) → ν1.1 κ a q = ν.1 κ a q) → ν1.2 = ν.2 →
    ∃ ν', lp (fun _ _ _ => none) (f2 + (d + 1)) (qB (fu + 1001) x6) ν1 acc (nI i) = some (if x6 = 0 then cntG (fun e => decide (tN ν (476 + 21 * e) = 1) && bt m e) acc i d else firstG (fun e => decide (tN ν (476 + 21 * e) = 1) && bt m e) i d, ν') ∧ (∀ κ a q, ¬ (κ = 28 ∧ a = 16) → ν'.1 κ a q = ν.1 κ a q) ∧ ν'.2 = ν.2 := by
  intro d
  induction d with
  | zero =>
    intro i acc f2 ν1 hi h1 h2
    rw [lp_succ]
    show ∃ ν', (if (4 : Int32) ≤ nI i then _ else _) = _ ∧ _
    rw [if_pos (show (4 : Int32) ≤ nI i from (nI_leI (a := 4) (by decide) (by omega)).2 (by omega))]
    by_cases g : x6 = 0
    · rw [if_pos g, if_pos g]; exact ⟨ν1, rfl, h1, h2⟩
    · rw [if_neg g, if_neg g]; exact ⟨ν1, rfl, h1, h2⟩
  | succ d ih =>
    intro i acc f2 ν1 hi h1 h2
    have t1 : tN ν1 = tN ν := funext fun q => h1 27 0 q (by omega)
    have es : fX13_setting 0 (nI i) 0 ν1 = some (tN ν (476 + 21 * i), ν1) := by
      have : fX13_setting 0 (nI i) 0 ν1 = _ := r_setting (f := 0) (by omega)
      rw [this, t1]
      rfl
    rw [show f2 + (d + 1 + 1) = (f2 + (d + 1)) + 1 from rfl, lp_succ]
    show ∃ ν', (if (4 : Int32) ≤ nI i then _ else bnd (fX13_setting 0 (nI i) 0 ν1) fun x30 μ29 => if x30 = 0 then lp (fun _ _ _ => none) (f2 + (d + 1)) (qB (fu + 1001) x6) μ29 acc (nI i + 1) else bnd (fX13_holdsFor (fu + 1001) 0 (nI i) μ29) fun x33 μ32 => if ¬ x33 = 0 then (if x6 = 0 then lp (fun _ _ _ => none) (f2 + (d + 1)) (qB (fu + 1001) x6) μ32 (acc + 1) (nI i + 1) else some (nI i, μ32)) else lp (fun _ _ _ => none) (f2 + (d + 1)) (qB (fu + 1001) x6) μ32 acc (nI i + 1)) =
      some (if x6 = 0 then cntG (fun e => decide (tN ν (476 + 21 * e) = 1) && bt m e) (if (decide (tN ν (476 + 21 * i) = 1) && bt m i) then acc + 1 else acc) (i + 1) d else if (decide (tN ν (476 + 21 * i) = 1) && bt m i) then nI i else firstG (fun e => decide (tN ν (476 + 21 * e) = 1) && bt m e) (i + 1) d, ν') ∧ _
    rw [if_neg (show ¬ (4 : Int32) ≤ nI i from fun w => absurd ((nI_leI (a := 4) (by decide) (by omega)).1 w) (by omega)), es, bnd_some, nI_1]
    rcases hE i (by omega) with a | ⟨a, b⟩
    · rw [a, if_pos rfl, show decide ((0 : Int32) = 1) = false from rfl, Bool.false_and]
      exact ih (i + 1) acc f2 ν1 (by omega) h1 h2
    · rw [a, if_neg (show ¬ (1 : Int32) = 0 by decide), show decide ((1 : Int32) = 1) = true from rfl, Bool.true_and]
      have pe1 : peM ν1 i = peM ν i := by
        funext x
        unfold peM pvM
        rw [t1]
      obtain ⟨ν2, c1, c2, c3⟩ := m_holds (ν := ν1) (show i < 4 by omega) ((h1 _ _ _ (by omega)).trans hcc) hc (fun j j0 j1 => (h1 _ _ _ (by omega)).trans (hF j j0 j1)) (by rw [pe1, show ν1.1 28 15 = ν.1 28 15 from funext fun q => h1 _ _ _ (by omega)]; exact b) fu
      have k1 : ∀ κ a q, ¬ (κ = 28 ∧ a = 16) → ν2.1 κ a q = ν.1 κ a q := fun κ a q z => (c2 κ a q z).trans (h1 κ a q z)
      rw [c1, bnd_some]
      by_cases g : bt m i = true
      · have e1 : (if b2 (bt m i) = 1 then (1 : Int32) else 0) = 1 := if_pos (by rw [g]; rfl)
        rw [e1, if_pos (show ¬ (1 : Int32) = 0 by decide), if_pos g]
        by_cases g6 : x6 = 0
        · rw [if_pos g6, if_pos g6]
          have := ih (i + 1) (acc + 1) f2 ν2 (by omega) k1 (c3.trans h2)
          rw [if_pos g6] at this
          exact this
        · rw [if_neg g6, if_neg g6, if_pos g]; exact ⟨ν2, rfl, k1, c3.trans h2⟩
      · have e1 : (if b2 (bt m i) = 1 then (1 : Int32) else 0) = 0 := if_neg (fun z => g (b2_1.1 z))
        rw [e1, if_neg (fun z => z rfl), if_neg g, if_neg g]
        exact ih (i + 1) acc f2 ν2 (by omega) k1 (c3.trans h2)
