/-! QUERY: the recursion -/
theorem opr_and (m m2 : Int32) (e : Nat) : opr (-24) (b2 (bt m e)) (b2 (bt m2 e)) = b2 (bt (m &&& m2) e) := by
  rw [bt_and]
  cases bt m e <;> cases bt m2 e <;> decide
theorem opr_or (m m2 : Int32) (e : Nat) : opr (-25) (b2 (bt m e)) (b2 (bt m2 e)) = b2 (bt (m ||| m2) e) := by
  rw [bt_or]
  cases bt m e <;> cases bt m2 e <;> decide
theorem c_conjEq {F : Nat} {rec : Nat → Nat → Int32 → Mem → Option (Int32 × Mem)} {p1 : Int32} {μ : Mem} : sX6_readConjunction F rec 0 p1 μ = bnd (rec 2 0 p1 μ) fun x15 μ14 => lp (fun _ _ _ => none) F (lBq (rec 2 0 p1) 68 (fun a b => a &&& b)) μ14 x15 0 := by
  unfold sX6_readConjunction lBq
  simp only [jn_eq, nm_eq]
theorem c_testEq {F : Nat} {rec : Nat → Nat → Int32 → Mem → Option (Int32 × Mem)} {p1 : Int32} {μ : Mem} : sX6_readTest F rec 0 p1 μ = bnd (rec 1 0 p1 μ) fun x15 μ14 => lp (fun _ _ _ => none) F (lBq (rec 1 0 p1) 67 (fun a b => a ||| b)) μ14 x15 0 := by
  unfold sX6_readTest lBq
  simp only [jn_eq, nm_eq]
theorem m_conjEq {F : Nat} {rec : Nat → Nat → Mem → Option (Unit × Mem)} {ν : Mem} : sX13_compileConjunction F rec 0 ν = bnd (rec 2 0 ν) fun _ μ7 => lp (fun _ => none) F (mBq F (rec 2 0) 57 (-24)) μ7 := by
  unfold sX13_compileConjunction mBq
  simp only [jn_eq, nm_eq]
theorem m_testEq {F : Nat} {rec : Nat → Nat → Mem → Option (Unit × Mem)} {ν : Mem} : sX13_compileTest F rec 0 ν = bnd (rec 1 0 ν) fun _ μ7 => lp (fun _ => none) F (mBq F (rec 1 0) 56 (-25)) μ7 := by
  unfold sX13_compileTest mBq
  simp only [jn_eq, nm_eq]
/-- one operand, then a word and another, and so on -/
theorem p_ops2 {N n dd w ii : Nat} {op : Int32} {cop : Int32 → Int32 → Int32} {c : Nat → Int32} {X : Nat → Prop} {pe : Nat → Int32 → Option Int32} {fc : Mem → Option (Int32 × Mem)} {fm : Mem → Option (Unit × Mem)} (hR : HR N n c X pe dd fc fm) (hn2 : n ≤ 200) (fu : Nat)
    (hw : w < 74 ∧ syT.getD w 0 = ii ∧ 0 < txN.getD ii 0 ∧ tkL (txC ii 0) = true) (hop : ¬ op = -23 ∧ op ≤ -20) (hc : ∀ m m2 e, e < 4 → opr op (b2 (bt m e)) (b2 (bt m2 e)) = b2 (bt (cop m m2) e)) :
    HR N n c X pe dd (fun μ => bnd (fc μ) fun x15 μ14 => lp (fun _ _ _ => none) (fu + 1001) (lBq fc w cop) μ14 x15 0) (fun ν => bnd (fm ν) fun _ μ7 => lp (fun _ => none) (fu + 1001) (mBq (fu + 1001) fm ii op) μ7) := by
  intro t k μ ν h hk hdd hkt hx
  obtain ⟨m, μ1, ν1, r1, r2, r3, r4, r5, r6⟩ := hR t k μ ν h hk hdd hkt hx
  show ∃ m μ' ν', (bnd (fc μ) _) = _ ∧ (bnd (fm ν) _) = _ ∧ _
  rw [r1, bnd_some, r2, bnd_some]
  rcases r6 with ⟨t1, k1, a1, k01, a2, a3, a4, a5, a6⟩ | b
  · have ht1 : t1 ≤ n := a3.2.2.2.2.2.1.2.1
    obtain ⟨m', μ', ν', z1, z2, z3, z4, z5, z6⟩ := p_opLoop (t0 := t) (k0 := k) (F := fu + 1001) hR hn2 fu rfl hw hop hc 200 t1 k1 0 m (fu + 800) (fu + 800) μ1 ν1 (by omega) (by omega) a3 a4 a5 (by omega) a2 a1 k01 (hx_c hx r3) a6
    exact ⟨m', μ', ν', z1, z2, fcq_trans r3 z3, fmq_trans r4 z4, fun j hj => (z5 j hj).trans (r5 j hj), z6⟩
  · refine ⟨m, μ1, ν1, ?_, ?_, r3, r4, r5, Or.inr b⟩
    · rw [show fu + 1001 = (fu + 1000) + 1 from rfl, lp_succ, lBq_d (pb_dd b)]
    · rw [show fu + 1001 = (fu + 1000) + 1 from rfl, lp_succ]
      unfold mBq
      rw [b_accept b, bnd_some, if_pos (show (0 : Int32) = 0 from rfl)]
theorem p_rec {N n : Nat} {c : Nat → Int32} {X : Nat → Prop} {pe : Nat → Int32 → Option Int32} (hn2 : n ≤ 200) (fu : Nat) : ∀ d dd, dd ≤ 6 →
    (1 + 3 * (6 - dd) ≤ d → HR N n c X pe dd (fgX6 (fu + 1001) d 2 0 (nI dd)) (fgX13c (fu + 1001) d 2 0)) ∧
    (2 + 3 * (6 - dd) ≤ d → HR N n c X pe dd (fgX6 (fu + 1001) d 1 0 (nI dd)) (fgX13c (fu + 1001) d 1 0)) ∧
    (3 + 3 * (6 - dd) ≤ d → HR N n c X pe dd (fgX6 (fu + 1001) d 0 0 (nI dd)) (fgX13c (fu + 1001) d 0 0)) := by
  intro d
  induction d with
  | zero => intro dd _; exact ⟨fun h => absurd h (by omega), fun h => absurd h (by omega), fun h => absurd h (by omega)⟩
  | succ d ih =>
    intro dd hd
    have eC : ∀ tag, fgX6 (fu + 1001) (d + 1) tag = tX6 (fu + 1001) (fgX6 (fu + 1001) d) tag := fun tag => by unfold fgX6; rw [lp_succ]
    have eM : ∀ tag, fgX13c (fu + 1001) (d + 1) tag = tX13c (fu + 1001) (fgX13c (fu + 1001) d) tag := fun tag => by unfold fgX13c; rw [lp_succ]
    refine ⟨fun h => ?_, fun h => ?_, fun h => ?_⟩
    · rw [eC, eM]
      show HR N n c X pe dd (sX6_readFactor (fu + 1001) (fgX6 (fu + 1001) d) 0 (nI dd)) (sX13_compileFactor (fu + 1001) (fgX13c (fu + 1001) d) 0)
      exact p_factor hd hn2 fu (fun h6 => (ih (dd + 1) (by omega)).1 (by omega)) (fun h6 => (ih (dd + 1) (by omega)).2.2 (by omega))
    · rw [eC, eM]
      show HR N n c X pe dd (sX6_readConjunction (fu + 1001) (fgX6 (fu + 1001) d) 0 (nI dd)) (sX13_compileConjunction (fu + 1001) (fgX13c (fu + 1001) d) 0)
      have := p_ops2 ((ih dd hd).1 (by omega)) hn2 fu (w := 68) (ii := 57) (op := -24) (cop := fun a b => a &&& b) (by decide) (by decide) (fun m m2 e _ => opr_and m m2 e)
      intro t k μ ν h1 h2 h3 h4 h5
      rw [c_conjEq, m_conjEq]
      exact this t k μ ν h1 h2 h3 h4 h5
    · rw [eC, eM]
      show HR N n c X pe dd (sX6_readTest (fu + 1001) (fgX6 (fu + 1001) d) 0 (nI dd)) (sX13_compileTest (fu + 1001) (fgX13c (fu + 1001) d) 0)
      have := p_ops2 ((ih dd hd).2.1 (by omega)) hn2 fu (w := 67) (ii := 56) (op := -25) (cop := fun a b => a ||| b) (by decide) (by decide) (fun m m2 e _ => opr_or m m2 e)
      intro t k μ ν h1 h2 h3 h4 h5
      rw [c_testEq, m_testEq]
      exact this t k μ ν h1 h2 h3 h4 h5
/-- after an error the class's test is of anything -/
def FcD (μ μ' : Mem) : Prop := (∀ κ a q, ¬ κ = 24 → μ'.1 κ a q = μ.1 κ a q) ∧ μ'.2 = μ.2
theorem d_rec {N n : Nat} {c : Nat → Int32} (fu : Nat) {μ : Mem} (d0 : DD N n c μ) (d : Nat) (p1 : Int32) : ∃ m μ', fgX6 (fu + 1001) (d + 3) 0 0 p1 μ = some (m, μ') ∧ FcD μ μ' := by
  have eC : ∀ d tag, fgX6 (fu + 1001) (d + 1) tag = tX6 (fu + 1001) (fgX6 (fu + 1001) d) tag := fun d tag => by unfold fgX6; rw [lp_succ]
  obtain ⟨m, μ', e1, e2, e3⟩ := d_comp d0 (fu + 996)
  have e1 : fX6_readComparison (fu + 1001) 0 μ = some (m, μ') := e1
  have d1 : DD N n c μ' := dd_c d0 (fun κ a q z => e2 κ a q (by omega)) (by rw [e3])
  have r2 : fgX6 (fu + 1001) (d + 1) 2 0 p1 μ = some (m, μ') := by
    rw [eC]
    show sX6_readFactor (fu + 1001) (fgX6 (fu + 1001) d) 0 p1 μ = _
    rw [c_facEq, d_at d0, bnd_some]
    dsimp only
    rw [if_neg (show ¬ (63 : Nat) = 1 by decide), if_neg (fun z => z rfl), d_at d0, bnd_some, if_neg (show ¬ (7 : Nat) = 1 by decide), if_neg (fun z => z rfl), e1, bnd_some]
  have r1 : fgX6 (fu + 1001) (d + 2) 1 0 p1 μ = some (m, μ') := by
    rw [eC]
    show sX6_readConjunction (fu + 1001) (fgX6 (fu + 1001) (d + 1)) 0 p1 μ = _
    rw [c_conjEq, r2, bnd_some, show fu + 1001 = (fu + 1000) + 1 from rfl, lp_succ, lBq_d d1]
  refine ⟨m, μ', ?_, e2, e3⟩
  rw [eC]
  show sX6_readTest (fu + 1001) (fgX6 (fu + 1001) (d + 2)) 0 p1 μ = _
  rw [c_testEq, r1, bnd_some, show fu + 1001 = (fu + 1000) + 1 from rfl, lp_succ, lBq_d d1]
theorem b_rec {N n : Nat} {c : Nat → Int32} (fu : Nat) {μ ν : Mem} (b : PB N n c μ ν) (d : Nat) : fgX13c (fu + 1001) (d + 3) 0 0 ν = some ((), ν) := by
  have eM : ∀ d tag, fgX13c (fu + 1001) (d + 1) tag = tX13c (fu + 1001) (fgX13c (fu + 1001) d) tag := fun d tag => by unfold fgX13c; rw [lp_succ]
  have lpM : ∀ rec ii op, lp (fun _ => none) (fu + 1001) (mBq (fu + 1001) rec ii op) ν = some ((), ν) := fun rec ii op => by
    rw [show fu + 1001 = (fu + 1000) + 1 from rfl, lp_succ]
    unfold mBq
    rw [b_accept b, bnd_some, if_pos (show (0 : Int32) = 0 from rfl)]
  have r2 : fgX13c (fu + 1001) (d + 1) 2 0 ν = some ((), ν) := by
    rw [eM]
    show sX13_compileFactor (fu + 1001) (fgX13c (fu + 1001) d) 0 ν = _
    rw [m_facEq, b_isWord b, bnd_some, if_pos (show (0 : Int32) = 0 from rfl), b_isSymbol b, bnd_some, if_pos (show (0 : Int32) = 0 from rfl), b_cmp b]
  have r1 : fgX13c (fu + 1001) (d + 2) 1 0 ν = some ((), ν) := by
    rw [eM]
    show sX13_compileConjunction (fu + 1001) (fgX13c (fu + 1001) (d + 1)) 0 ν = _
    rw [m_conjEq, r2, bnd_some, lpM]
  rw [eM]
  show sX13_compileTest (fu + 1001) (fgX13c (fu + 1001) (d + 2)) 0 ν = _
  rw [m_testEq, r1, bnd_some, lpM]
/-! the model's evaluation -/
def fld (i : Nat) : Nat := if i < 10 then i else i + 1
def pvM (ν : Mem) (e i : Nat) : Int32 := if i = 0 then nI e else tN ν (560 + 35 * e + fld i)
def peM (ν : Mem) (e : Nat) (x : Int32) : Option Int32 := if x.toNatClampNeg < 12 ∧ x = nI x.toNatClampNeg then some (pvM ν e x.toNatClampNeg) else none
def FLD (ν : Mem) : Prop := ∀ i, 0 < i → i < 12 → ν.1 28 14 i = nI (fld i)
theorem peM_nI {ν : Mem} {e i : Nat} (hi : i < 12) : peM ν e (nI i) = some (pvM ν e i) := by
  unfold peM
  rw [nI_clamp (n := i) (by omega), if_pos ⟨hi, rfl⟩]
theorem m_prop {ν : Mem} {e i : Nat} (he : e < 4) (hi : i < 12) (hF : FLD ν) : fX13_property 0 (nI e) (nI i) ν = some (pvM ν e i, ν) := by
  unfold fX13_property pvM
  simp only [jn_eq]
  by_cases g : i = 0
  · subst g
    rw [if_neg (show ¬ ¬ nI 0 = 0 from fun z => z rfl), if_pos rfl]
  · have nz : ¬ nI i = 0 := fun z => g (nI_inj (a := i) (b := 0) (by omega) (by decide) z)
    have fl : fld i ≤ 12 := by unfold fld; split <;> omega
    rw [if_pos nz, if_neg g, ckI_nI (show i < mil.getD 14 0 from hi) (by decide), nI_clamp (n := i) (by omega), hF i (by omega) hi, r_of (by omega), bnd_some]
theorem m_operate {k a b : Int32} {μ : Mem} : fX13_operate k a b μ = some (opr k a b, μ) := by
  unfold fX13_operate opr
  simp only [jn_eq]
  by_cases h24 : k = -24
  · rw [if_pos h24, if_pos h24]
  · rw [if_neg h24, if_neg h24]
    by_cases h23 : k = -23
    · rw [if_pos h23, if_neg (by rw [h23]; decide), if_neg (by rw [h23]; decide), if_neg (by rw [h23]; decide)]
    · rw [if_neg h23]
      by_cases h22 : k = -22
      · rw [if_pos h22, if_pos h22]
        by_cases g : a ≤ b
        · rw [if_pos g, if_pos g]
        · rw [if_neg g, if_neg g]
      · rw [if_neg h22, if_neg h22]
        by_cases h21 : k = -21
        · rw [if_pos h21, if_pos h21]
          by_cases g : a = b
          · rw [if_neg (fun z => z g), if_pos g]
          · rw [if_pos g, if_neg g]
        · rw [if_neg h21, if_neg h21]
          by_cases h20 : k = -20
          · rw [if_pos h20, if_pos h20]
            by_cases g : b ≤ a
            · rw [if_pos g, if_pos g]
            · rw [if_neg g, if_neg g]
          · rw [if_neg h20, if_neg h20]
def SK (μ : Mem) : List Int32 → Prop
  | [] => True
  | x :: r => μ.1 28 16 r.length = x ∧ SK μ r
theorem sk_w {μ : Mem} {p : Nat} {v : Int32} : ∀ st : List Int32, SK μ st → st.length ≤ p → SK (wI μ 28 16 p v) st := by
  intro st
  induction st with
  | nil => intro _ _; trivial
  | cons x r ih =>
    intro h hl
    have hl : r.length + 1 ≤ p := hl
    exact ⟨(wI_o (by omega)).trans h.1, ih h.2 (by omega)⟩
