/-! QUERY: a comparison -/
def cmpB (a : Nat) (x y : Int32) : Bool := if a = 9 then decide (¬ y ≤ x) else if a = 11 then decide (¬ x ≤ y) else decide (x = y)
theorem c_cmp {a : Nat} {x y : Int32} {μ : Mem} : fX6_compares x a y μ = some (if cmpB a x y then 1 else 0, μ) := by
  unfold fX6_compares cmpB
  simp only [jn_eq]
  by_cases h9 : a = 9
  · rw [if_neg (fun z => z h9), if_pos h9]
    by_cases g : y ≤ x
    · rw [if_pos g, ckZ_ok (Or.inl rfl), if_neg (by simpa using g)]
    · rw [if_neg g, ckZ_ok (Or.inr rfl), if_pos (by simpa using g)]
  · rw [if_pos h9, if_neg h9]
    by_cases h11 : a = 11
    · rw [if_neg (fun z => z h11), if_pos h11]
      by_cases g : x ≤ y
      · rw [if_pos g, ckZ_ok (Or.inl rfl), if_neg (by simpa using g)]
      · rw [if_neg g, ckZ_ok (Or.inr rfl), if_pos (by simpa using g)]
    · rw [if_pos h11, if_neg h11]
      by_cases g : x = y
      · rw [if_neg (fun z => z g), ckZ_ok (Or.inr rfl), if_pos (by simpa using g)]
      · rw [if_pos g, ckZ_ok (Or.inl rfl), if_neg (by simpa using g)]
def cmB : (Mem → Nat → Int32 → Int32 → Option (Int32 × Mem)) → Mem → Nat → Int32 → Int32 → Option (Int32 × Mem) := fun self μ1 a2 x4 x5 =>
  if (4 : Int32) ≤ x5 then some (x4, μ1) else ckI x5 (4) <| ckI x5 (4) <| bnd (fX6_compares (μ1.1 24 0 x5.toNatClampNeg) a2 (μ1.1 24 1 x5.toNatClampNeg) μ1) fun x12 μ11 => if x12 = 0 then self μ11 a2 x4 (x5 + (1 : Int32)) else self μ11 a2 (x4 ||| ((1 : Int32) <<< (x5 &&& 31))) (x5 + (1 : Int32))
theorem c_cmpLoop {a : Nat} {μ : Mem} (fu : Nat) : lp (fun _ _ _ _ => none) (fu + 5) cmB μ a 0 0 = some (emask (fun e => cmpB a (μ.1 24 0 e) (μ.1 24 1 e)) 0 0 4, μ) := by
  refine (lp_ind (P := fun d (f : Mem → Nat → Int32 → Int32 → Option (Int32 × Mem)) => ∀ y acc, y + d = 4 → f μ a acc (nI y) = some (emask (fun e => cmpB a (μ.1 24 0 e) (μ.1 24 1 e)) acc y d, μ)) (fun f y acc hy => ?_) (fun d f ih y acc hy => ?_) 4 fu) 0 0 rfl
  · exact if_pos ((nI_leI (a := 4) (by decide) (by omega)).2 (by omega))
  · show (if (4 : Int32) ≤ nI y then _ else ckI (nI y) 4 <| ckI (nI y) 4 <| bnd (fX6_compares (μ.1 24 0 (nI y).toNatClampNeg) a (μ.1 24 1 (nI y).toNatClampNeg) μ) fun x12 μ11 => if x12 = 0 then f μ11 a acc (nI y + 1) else f μ11 a (acc ||| ((1 : Int32) <<< (nI y &&& 31))) (nI y + 1)) = some (emask _ (if cmpB a (μ.1 24 0 y) (μ.1 24 1 y) then acc ||| ((1 : Int32) <<< (nI y &&& 31)) else acc) (y + 1) d, μ)
    rw [if_neg (show ¬ (4 : Int32) ≤ nI y from fun w => absurd ((nI_leI (a := 4) (by decide) (by omega)).1 w) (by omega)), ckI_nI (show y < 4 by omega) (by decide), ckI_nI (show y < 4 by omega) (by decide), nI_clamp (n := y) (by omega), c_cmp, bnd_some, nI_1]
    by_cases g : cmpB a (μ.1 24 0 y) (μ.1 24 1 y) = true
    · rw [if_pos g, if_pos g, if_neg (show ¬ (1 : Int32) = 0 by decide)]; exact ih (y + 1) _ (by omega)
    · rw [if_neg g, if_neg g, if_pos (show (0 : Int32) = 0 from rfl)]; exact ih (y + 1) _ (by omega)
theorem c_compEq {F : Nat} {μ : Mem} : fX6_readComparison F 0 μ = bnd (fX6_readValue F 0 0 μ) fun _ μ15 => bnd (fX11_takeRole 0 32768 μ15) fun a17 μ16 => ckB a17 74 <| bnd (fX6_readValue F 0 1 μ16) fun _ μ19 => lp (fun _ _ _ _ => none) F cmB μ19 a17 0 0 := by
  unfold fX6_readComparison cmB
  simp only [jn_eq, nm_eq]
theorem d_comp {N n : Nat} {c : Nat → Int32} {μ : Mem} (d : DD N n c μ) (fu : Nat) : ∃ m μ', fX6_readComparison (fu + 5) 0 μ = some (m, μ') ∧ (∀ κ a q, ¬ κ = 24 → μ'.1 κ a q = μ.1 κ a q) ∧ μ'.2 = μ.2 := by
  obtain ⟨μ1, e1, e2, e3⟩ := d_value (r := 0) d fu
  have d1 : DD N n c μ1 := dd_c d (fun κ a q z => e2 _ _ _ (by omega)) (by rw [e3])
  obtain ⟨μ2, g1, g2, g3⟩ := d_value (r := 1) d1 fu
  rw [c_compEq, e1, bnd_some, d_takeRole d1, bnd_some, ckB_ok (by decide), g1, bnd_some, c_cmpLoop]
  exact ⟨_, μ2, rfl, fun κ a q z => (g2 κ a q (fun w => z w.1)).trans (e2 κ a q (fun w => z w.1)), g3.trans e3⟩
def mJq (F : Nat) (x9 : Int32) (μ8 : Mem) : Option (Unit × Mem) :=
  let K := fun (x14 : Int32) => bnd (fX13_check 0 x14 1 μ8) fun _ μ15 => bnd (fX13_advance F 0 μ15) fun _ μ16 => bnd (fX13_compileValue F 0 μ16) fun _ μ17 => bnd (fX13_emit 0 x9 μ17) fun _ μ18 => some ((), μ18)
  if ¬ x9 = (-22 : Int32) then K 1 else bnd (fX13_isSymbol 0 62 μ8) fun x25 μ24 => if x25 = 0 then bnd (fX13_check 0 0 1 μ24) fun _ μ15 => bnd (fX13_advance F 0 μ15) fun _ μ16 => bnd (fX13_compileValue F 0 μ16) fun _ μ17 => bnd (fX13_emit 0 x9 μ17) fun _ μ18 => some ((), μ18) else bnd (fX13_check 0 1 1 μ24) fun _ μ15 => bnd (fX13_advance F 0 μ15) fun _ μ16 => bnd (fX13_compileValue F 0 μ16) fun _ μ17 => bnd (fX13_emit 0 x9 μ17) fun _ μ18 => some ((), μ18)
def mCmp (F : Nat) (ν : Mem) : Option (Unit × Mem) := bnd (fX13_compileValue F 0 ν) fun _ μ27 => bnd (fX13_isSymbol 0 60 μ27) fun x29 μ28 => if x29 = 0 then bnd (fX13_isSymbol 0 61 μ28) fun x32 μ31 => if x32 = 0 then mJq F (-22) μ31 else mJq F (-21) μ31 else mJq F (-20) μ28
theorem role32768 : ∀ r, r < 74 → (¬ syR.getD r 0 &&& 32768 = 0 ↔ r = 9 ∨ r = 10 ∨ r = 11) := by decide
theorem b_cmp {N n : Nat} {c : Nat → Int32} {μ ν : Mem} (b : PB N n c μ ν) (fu : Nat) : mCmp (fu + 1001) ν = some ((), ν) := by
  unfold mCmp mJq
  rw [b_value b, bnd_some, b_isSymbol b, bnd_some, if_pos (show (0 : Int32) = 0 from rfl), b_isSymbol b, bnd_some, if_pos (show (0 : Int32) = 0 from rfl)]
  dsimp only
  rw [if_neg (fun z => z rfl), b_isSymbol b, bnd_some, if_pos (show (0 : Int32) = 0 from rfl), b_check b, bnd_some, b_advance b, bnd_some, b_value b, bnd_some, b_emit b, bnd_some]
/-- which operator -/
def opC (r : Nat) : Int32 := if r = 9 then -20 else if r = 10 then -21 else -22
theorem opr_cmp {r : Nat} (hr : r = 9 ∨ r = 10 ∨ r = 11) (a b : Int32) : opr (opC r) a b = b2 (cmpB r a b) := by
  rcases hr with rfl | rfl | rfl
  · show (if b ≤ a then (0 : Int32) else 1) = b2 (decide (¬ b ≤ a))
    by_cases g : b ≤ a
    · rw [if_pos g, decide_eq_false (fun z => z g)]; rfl
    · rw [if_neg g, decide_eq_true g]; rfl
  · show (if a = b then (1 : Int32) else 0) = b2 (decide (a = b))
    by_cases g : a = b
    · rw [if_pos g, decide_eq_true g]; rfl
    · rw [if_neg g, decide_eq_false g]; rfl
  · show (if a ≤ b then (0 : Int32) else 1) = b2 (decide (¬ a ≤ b))
    by_cases g : a ≤ b
    · rw [if_pos g, decide_eq_false (fun z => z g)]; rfl
    · rw [if_neg g, decide_eq_true g]; rfl
theorem p_cmp {N n t k : Nat} {c : Nat → Int32} {X : Nat → Prop} {pe : Nat → Int32 → Option Int32} {μ ν : Mem} (h : PG N n c t μ ν) (hk : ν.1 26 0 46 = nI k) (hkt : k ≤ t) (hn2 : n ≤ 200) (hX : ∀ e, e < 4 → X e → ∀ i, i < 12 → pe e (nI i) = some (clsv μ e i)) (fu : Nat) :
    ∃ m μ' ν', fX6_readComparison (fu + 1001) 0 μ = some (m, μ') ∧ mCmp (fu + 1001) ν = some ((), ν') ∧ FcQ μ μ' ∧ FmQ ν ν' ∧ (∀ j, j < k → ν'.1 28 15 j = ν.1 28 15 j) ∧ ν'.1 26 0 29 = ν.1 26 0 29 ∧
      ((PG N n c (t + 3) μ' ν' ∧ ν'.1 26 0 46 = nI (k + 3) ∧ ∀ e, e < 4 → X e → VAL (pe e) (ν'.1 28 15) k (k + 3) (b2 (bt m e))) ∨ PB N n c μ' ν') := by
  have hn : n ≤ 1000 := Nat.le_trans h.1.1 h.1.2.1
  obtain ⟨μ1, ν1, a1, a2, a3, a4, a5, a6, a7, a8⟩ := p_value (r := 0) (X := X) (pe := pe) h hk (fun _ => by omega) hX fu
  rw [c_compEq, a1, bnd_some]
  unfold mCmp
  rw [a2, bnd_some]
  have isS : ∀ p, PB N n c μ1 ν1 → fX13_isSymbol 0 p ν1 = some (0, ν1) := fun p b => b_isSymbol b
  rcases a8 with ⟨tn, g1, k1, v1⟩ | b
  · have ht1 : t + 1 ≤ n := by omega
    have sg := fun (r : Nat) (p : Int32) (h1 : r < 74) (h2 : txN.getD (syT.getD r 0) 0 = 1) (h3 : tkL p = false) (h4 : tkD p = false) (h5 : txC (syT.getD r 0) 0 = p) => p_sign g1 h1 h2 h3 h4 h5
    have s60 : fX13_isSymbol 0 60 ν1 = _ := sg 9 60 (by decide) (by decide) (by decide) (by decide) (by decide)
    have s61 : fX13_isSymbol 0 61 ν1 = _ := sg 10 61 (by decide) (by decide) (by decide) (by decide) (by decide)
    have s62 : fX13_isSymbol 0 62 ν1 = _ := sg 11 62 (by decide) (by decide) (by decide) (by decide) (by decide)
    have rl := role32768 _ (syA_lt (N := N) (n := n) (c := c) (t := t + 1))
    by_cases g : syR.getD (syA N n c (t + 1)) 0 &&& 32768 = 0
    · -- no operator
      have q9 : ¬ syA N n c (t + 1) = 9 := fun z => (rl.2 (Or.inl z)) g
      have q10 : ¬ syA N n c (t + 1) = 10 := fun z => (rl.2 (Or.inr (Or.inl z))) g
      have q11 : ¬ syA N n c (t + 1) = 11 := fun z => (rl.2 (Or.inr (Or.inr z))) g
      obtain ⟨μ2, ν2, f1, f2, f3, f4, f5⟩ := p_fail2 (k := 1) g1 (by decide)
      obtain ⟨μ3, y1, y2, y3⟩ := d_value (r := 1) (pb_dd f3) (fu + 996)
      have y1 : fX6_readValue (fu + 1001) 0 1 μ2 = some ((), μ3) := y1
      rw [c_noRole hn g1.2.1 ht1 g1.2.2.1 g f1, bnd_some, ckB_ok (by decide), y1, bnd_some, show fu + 1001 = (fu + 996) + 5 from rfl, c_cmpLoop, show fu + 996 + 5 = fu + 1001 from rfl, s60, bnd_some, if_neg q9, if_pos (show (0 : Int32) = 0 from rfl), s61, bnd_some, if_neg q10, if_pos (show (0 : Int32) = 0 from rfl)]
      unfold mJq
      dsimp only
      rw [if_neg (fun z => z rfl), s62, bnd_some, if_neg q11, if_pos (show (0 : Int32) = 0 from rfl), m_chk0 f2, bnd_some, b_advance f3, bnd_some, b_value f3, bnd_some, b_emit f3, bnd_some]
      exact ⟨_, μ3, ν2, rfl, rfl, fcq_trans a3 (fcq_trans (fcq_p f4) ⟨fun κ a q _ z => y2 κ a q (fun w => z w.1), y3⟩), fmq_trans a4 (fmq_p f5), fun j hj => (f5.1 _ _ _ (by omega)).trans (a6 j (by omega)), (f5.1 _ _ _ (by omega)).trans a7, Or.inr (pb_c f3 (fun κ a q z => y2 _ _ _ (by omega)) (by rw [y3]))⟩
    · have tn1 := role_lt g
      have hr := rl.1 g
      obtain ⟨ν2, n1, n2, n3⟩ := p_next g1 tn1 fu
      have fw := fpm_fw n3
      have ea : fX13_advance (fu + 1001) 0 ν1 = some ((), ν2) := by
        unfold fX13_advance
        simp only [jn_eq]
        rw [if_neg (fun z => z g1.2.2.2.2.1), n1, bnd_some]
      have hX2 : ∀ e, e < 4 → X e → ∀ i, i < 12 → pe e (nI i) = some (clsv (wI μ1 2 0 6 (nI (t + 1 + 1))) e i) := fun e he hx i hi => by
        have : clsv (wI μ1 2 0 6 (nI (t + 1 + 1))) e i = clsv μ e i := by
          unfold clsv
          rw [wI_o (by omega), wI_o (by omega), a3.1 _ _ _ (by omega) (by omega), a3.1 _ _ _ (by omega) (by omega)]
        rw [this]; exact hX e he hx i hi
      obtain ⟨μ3, ν3, b1, b2', b3, b4, b5, b6, b7, b8⟩ := p_value (r := 1) (X := X) (pe := pe) n2 ((fw.1 _ _ _ (by omega)).trans k1) (fun _ => by omega) hX2 fu
      have tail : ∀ x, mJq (fu + 1001) x ν1 = (bnd (fX13_emit 0 x ν3) fun _ μ18 => some ((), μ18)) → x = opC (syA N n c (t + 1)) → (if (if syA N n c (t + 1) = 9 then (1 : Int32) else 0) = 0 then bnd (fX13_isSymbol 0 61 ν1) fun x32 μ31 => if x32 = 0 then mJq (fu + 1001) (-22) μ31 else mJq (fu + 1001) (-21) μ31 else mJq (fu + 1001) (-20) ν1) = (bnd (fX13_emit 0 (opC (syA N n c (t + 1))) ν3) fun _ μ18 => some ((), μ18)) := by
        intro x hx ex
        rw [← ex, ← hx, ex]
        rcases hr with q | q | q
        · rw [q, if_pos rfl, if_neg (show ¬ (1 : Int32) = 0 by decide)]; rfl
        · rw [q, if_neg (show ¬ (10 : Nat) = 9 by decide), if_pos (show (0 : Int32) = 0 from rfl), s61, bnd_some, if_pos q, if_neg (show ¬ (1 : Int32) = 0 by decide)]; rfl
        · rw [q, if_neg (show ¬ (11 : Nat) = 9 by decide), if_pos (show (0 : Int32) = 0 from rfl), s61, bnd_some, if_neg (show ¬ syA N n c (t + 1) = 10 by omega), if_pos (show (0 : Int32) = 0 from rfl)]; rfl
      have mj : mJq (fu + 1001) (opC (syA N n c (t + 1))) ν1 = (bnd (fX13_emit 0 (opC (syA N n c (t + 1))) ν3) fun _ μ18 => some ((), μ18)) := by
        unfold mJq
        dsimp only
        rcases hr with q | q | q
        · rw [q, if_pos (show ¬ opC 9 = -22 by decide), m_chk1, bnd_some, ea, bnd_some, b2', bnd_some]
        · rw [q, if_pos (show ¬ opC 10 = -22 by decide), m_chk1, bnd_some, ea, bnd_some, b2', bnd_some]
        · rw [q, if_neg (show ¬ ¬ opC 11 = -22 by decide), s62, bnd_some, if_pos q, if_neg (show ¬ (1 : Int32) = 0 by decide), m_chk1, bnd_some, ea, bnd_some, b2', bnd_some]
      rw [c_takeRole hn g1.2.1 ht1 g1.2.2.1 g, bnd_some, ckB_ok syA_lt, b1, bnd_some, show fu + 1001 = (fu + 996) + 5 from rfl, c_cmpLoop, show fu + 996 + 5 = fu + 1001 from rfl, s60, bnd_some, tail _ mj rfl]
      have fcAll : FcQ μ μ3 := fcq_trans a3 (fcq_trans (fcq_p fpc_6) b3)
      have fmAll : FmQ ν ν3 := fmq_trans a4 (fmq_trans (fmq_p fw) b4)
      rcases b8 with ⟨tn2, g3, k3, v3⟩ | bb
      · have k200 : k + 2 < 200 := by omega
        rw [m_emit g3.2.2.2.2.1 k3 k200, bnd_some]
        refine ⟨_, μ3, emM ν3 (k + 2) (opC (syA N n c (t + 1))), rfl, rfl, fcAll, fmq_trans fmAll fmq_e, fun j hj => ?_, ?_, Or.inl ⟨pg_em g3, ?_, fun e he hx => ?_⟩⟩
        · unfold emM; rw [wI_o (by omega), wI_o (by omega), b6 j (by omega), fw.1 _ _ _ (by omega)]; exact a6 j (by omega)
        · unfold emM; rw [wI_o (by omega), wI_o (by omega), b7, fw.1 _ _ _ (by omega)]; exact a7
        · unfold emM; exact wI_same
        · have c1 : VAL (pe e) ((emM ν3 (k + 2) (opC (syA N n c (t + 1)))).1 28 15) k (k + 1) (μ1.1 24 0 e) := val_c (v1 e he hx) fun j hj => by
            unfold emM; rw [wI_o (by omega), wI_o (by omega), b6 j (by omega)]; exact fw.1 _ _ _ (by omega)
          have c2 : VAL (pe e) ((emM ν3 (k + 2) (opC (syA N n c (t + 1)))).1 28 15) (k + 1) (k + 2) (μ3.1 24 1 e) := val_c (v3 e he hx) fun j hj => by
            unfold emM; rw [wI_o (by omega), wI_o (by omega)]
          have ec : (emM ν3 (k + 2) (opC (syA N n c (t + 1)))).1 28 15 (k + 2) = opC (syA N n c (t + 1)) := by unfold emM; rw [wI_o (by omega)]; exact wI_same
          have h23 : ¬ opC (syA N n c (t + 1)) = -23 ∧ opC (syA N n c (t + 1)) ≤ -20 := by
            rcases hr with q | q | q <;> (rw [q]; decide)
          have c3 := val_bin c1 c2 ec h23.1 h23.2
          rw [opr_cmp hr] at c3
          have em : bt (emask (fun e => cmpB (syA N n c (t + 1)) (μ3.1 24 0 e) (μ3.1 24 1 e)) 0 0 4) e = cmpB (syA N n c (t + 1)) (μ1.1 24 0 e) (μ3.1 24 1 e) := by
            rw [bt_emask 4 0 0 (by decide) e (by omega), bt_0, Bool.false_or, decide_eq_true (by omega), Bool.true_and]
            show cmpB _ (μ3.1 24 0 e) _ = _
            rw [b5 0 e (by decide), wI_o (by omega)]
          rw [em]
          exact c3
      · rw [b_emit bb, bnd_some]
        exact ⟨_, μ3, ν3, rfl, rfl, fcAll, fmAll, fun j hj => (b6 j (by omega)).trans ((fw.1 _ _ _ (by omega)).trans (a6 j (by omega))), b7.trans ((fw.1 _ _ _ (by omega)).trans a7), Or.inr bb⟩
  · obtain ⟨μ2, y1, y2, y3⟩ := d_value (r := 1) (pb_dd b) (fu + 996)
    have y1 : fX6_readValue (fu + 1001) 0 1 μ1 = some ((), μ2) := y1
    have mb := b_cmp b fu
    unfold mCmp at mb
    rw [b_value b, bnd_some] at mb
    rw [d_takeRole (pb_dd b), bnd_some, ckB_ok (by decide), y1, bnd_some, show fu + 1001 = (fu + 996) + 5 from rfl, c_cmpLoop, show fu + 996 + 5 = fu + 1001 from rfl, mb]
    exact ⟨_, μ2, ν1, rfl, rfl, fcq_trans a3 ⟨fun κ a q _ z => y2 κ a q (fun w => z w.1), y3⟩, a4, fun j hj => a6 j (by omega), a7, Or.inr (pb_c b (fun κ a q z => y2 _ _ _ (by omega)) (by rw [y3]))⟩
