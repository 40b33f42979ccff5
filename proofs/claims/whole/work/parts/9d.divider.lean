/-! promise 48: divider -/
def gapN (a b : Nat) : Nat := if b < a then a - b else b - a
def clN (x : Nat) : Nat := if 256 < (if 65535 < x then 65535 else x) then (if 65535 < x then 65535 else x) else 256
def clM (q : Nat) : Nat := if (if q < 65535 then q else 65535) < 256 then 256 else (if q < 65535 then q else 65535)
def clP (y : Nat) : Nat := if y + 1 < 65535 then y + 1 else 65535
theorem div_nat {w T q r : Nat} (e : w = T * q + r) (hr : r < T) :
    (if gapN (clM q * T) w ≤ gapN (clP (clM q) * T) w then clM q else clP (clM q)) = clN (if r * 2 ≤ T then q else q + 1) := by
  by_cases h1 : q < 256
  · have e1 : clM q = 256 := by unfold clM; rw [if_pos (show q < 65535 by omega), if_pos h1]
    have e2 : clP 256 = 257 := rfl
    have e3 : clN (if r * 2 ≤ T then q else q + 1) = 256 := by
      have : (if r * 2 ≤ T then q else q + 1) ≤ 256 := by split <;> omega
      generalize (if r * 2 ≤ T then q else q + 1) = x at this ⊢
      unfold clN
      rw [if_neg (show ¬ 65535 < x by omega), if_neg (by omega)]
    have m : T * q ≤ T * 255 := Nat.mul_le_mul_left T (by omega)
    rw [e1, e2, e3]
    have a1 : gapN (256 * T) w = 256 * T - w := by unfold gapN; rw [if_pos (by omega)]
    have a2 : gapN (257 * T) w = 257 * T - w := by unfold gapN; rw [if_pos (by omega)]
    rw [a1, a2, if_pos (by omega)]
  · by_cases h2 : q < 65535
    · have e1 : clM q = q := by unfold clM; rw [if_pos h2, if_neg h1]
      have e2 : clP q = q + 1 := by
        unfold clP
        by_cases h3 : q + 1 < 65535
        · rw [if_pos h3]
        · rw [if_neg h3]; omega
      have e4 : ∀ x, 256 ≤ x → x ≤ 65535 → clN x = x := fun x a b => by
        unfold clN
        rw [if_neg (show ¬ 65535 < x by omega)]
        split <;> omega
      have a1 : gapN (q * T) w = r := by unfold gapN; rw [Nat.mul_comm, if_neg (by omega)]; omega
      have a2 : gapN ((q + 1) * T) w = T - r := by
        have : (q + 1) * T = T * q + T := by rw [Nat.mul_comm, Nat.mul_succ]
        unfold gapN; rw [this, if_pos (by omega)]; omega
      rw [e1, e2, a1, a2]
      by_cases h3 : r * 2 ≤ T
      · rw [if_pos h3, if_pos (by omega), e4 _ (by omega) (by omega)]
      · rw [if_neg h3, if_neg (by omega), e4 _ (by omega) (by omega)]
    · have e1 : clM q = 65535 := by unfold clM; rw [if_neg h2, if_neg (by decide)]
      have e2 : clP 65535 = 65535 := rfl
      have e3 : clN (if r * 2 ≤ T then q else q + 1) = 65535 := by
        have : 65535 ≤ (if r * 2 ≤ T then q else q + 1) := by split <;> omega
        generalize (if r * 2 ≤ T then q else q + 1) = x at this ⊢
        unfold clN
        by_cases h : 65535 < x
        · rw [if_pos h]; rfl
        · rw [if_neg h, if_pos (by omega)]; omega
      rw [e1, e2, e3, ite_self]
theorem c_clN {x : Nat} (hx : x < 2 ^ 31) : (if (256 : Int32) < (if (65535 : Int32) < nI x then (65535 : Int32) else nI x) then (if (65535 : Int32) < nI x then (65535 : Int32) else nI x) else (256 : Int32)) = nI (clN x) := by
  have e : (if (65535 : Int32) < nI x then (65535 : Int32) else nI x) = nI (if 65535 < x then 65535 else x) := by
    by_cases h : 65535 < x
    · rw [show (65535 : Int32) = nI 65535 from rfl, if_pos h, if_pos ((nI_ltI (a := 65535) (by decide) hx).2 h)]
    · rw [show (65535 : Int32) = nI 65535 from rfl, if_neg h, if_neg (fun z => h ((nI_ltI (a := 65535) (by decide) hx).1 z))]
  rw [e]
  unfold clN
  generalize hz : (if 65535 < x then 65535 else x) = z
  have hz' : z < 2 ^ 31 := by rw [← hz]; split <;> omega
  by_cases h : 256 < z
  · rw [show (256 : Int32) = nI 256 from rfl, if_pos h, if_pos ((nI_ltI (a := 256) (by decide) hz').2 h)]
  · rw [show (256 : Int32) = nI 256 from rfl, if_neg h, if_neg (fun w => h ((nI_ltI (a := 256) (by decide) hz').1 w))]
theorem l_if {a b c d : Nat} (ha : a < 2 ^ 63) (hb : b < 2 ^ 63) : (if lN a < lN b then lN c else lN d) = lN (if a < b then c else d) := by
  by_cases h : a < b
  · rw [if_pos h, if_pos ((pk_lLT ha hb).2 h)]
  · rw [if_neg h, if_neg (fun z => h ((pk_lLT ha hb).1 z))]
theorem l_abs {a b : Nat} (ha : a < 2 ^ 62) (hb : b < 2 ^ 62) : (if 0 < lN a - lN b then lN a - lN b else -(lN a - lN b)) = lN (gapN a b) := by
  unfold gapN
  by_cases h : b < a
  · rw [lN_sub (by omega), if_pos h, if_pos (show (0 : Int64) < lN (a - b) from (pk_lLT (a := 0) (by decide) (by omega)).2 (by omega))]
  · rw [if_neg h, Int64.neg_sub, if_neg, lN_sub (by omega)]
    rw [Int64.lt_iff_toInt_lt, Int64.toInt_sub, pk_lT (by omega), pk_lT (by omega), Int.bmod_eq_of_le (by omega) (by omega), show (0 : Int64).toInt = 0 from rfl]
    omega
theorem c_div {P T : Nat} {μ : Mem} (hP : P ≤ 1000000) (hP1 : 1 ≤ P) (hT : T ≤ 1000000) (hT1 : 1 ≤ T) :
    fX12_divider 0 (nI P) (nI T) μ = some (.inr (nI (clN (if 256 * P % T * 2 ≤ T then 256 * P / T else 256 * P / T + 1))), μ) := by
  have hq : 256 * P / T ≤ 256 * P := Nat.div_le_self _ _
  have hr : 256 * P % T < T := Nat.mod_lt _ hT1
  unfold fX12_divider
  simp only [jn_eq, nm_eq]
  rw [if_neg (show ¬ nI P < (1 : Int32) from fun z => absurd ((nI_ltI (b := 1) (by omega) (by decide)).1 z) (by omega)), if_neg (show ¬ (1000000 : Int32) < nI P from fun z => absurd ((nI_ltI (a := 1000000) (by decide) (by omega)).1 z) (by omega)),
    if_neg (show ¬ nI T < (1 : Int32) from fun z => absurd ((nI_ltI (b := 1) (by omega) (by decide)).1 z) (by omega)), if_pos (show nI T ≤ (1000000 : Int32) from (nI_leI (b := 1000000) (by omega) (by decide)).2 hT),
    show (256 : Int32) * nI P = nI (256 * P) from pk_mul 256 P, ckD_ok (fun z => absurd (show T = 0 from nI_inj (by omega) (by decide) z) (by omega)), ckD_ok (fun z => absurd (show T = 0 from nI_inj (by omega) (by decide) z) (by omega)),
    remN (by omega) (by omega) (by omega), pk_div (by omega) (by omega) (by omega), show nI (256 * P % T) * 2 = nI (256 * P % T * 2) from pk_mul _ 2, nI_1]
  by_cases h : 256 * P % T * 2 ≤ T
  · rw [if_pos h, if_pos ((nI_leI (by omega) (by omega)).2 h), c_clN (by omega)]
  · rw [if_neg h, if_neg (fun z => h ((nI_leI (by omega) (by omega)).1 z)), c_clN (by omega)]
theorem m_div {P T : Nat} {ν : Mem} (hP : P ≤ 1000000) (hP1 : 1 ≤ P) (hT : T ≤ 1000000) (hT1 : 1 ≤ T) :
    fX13_divider 0 (nI P) (nI T) ν = some (nI (clN (if 256 * P % T * 2 ≤ T then 256 * P / T else 256 * P / T + 1)), wI ν 26 0 6 0) := by
  have hq : 256 * P / T ≤ 256 * P := Nat.div_le_self _ _
  have hr : 256 * P % T < T := Nat.mod_lt _ hT1
  have ok : ∀ {k : Nat}, k ≤ 1000000 → 1 ≤ k → (1 : Int32) ≤ nI k ∧ nI k ≤ (1000000 : Int32) := fun a b => ⟨(nI_leI (a := 1) (by decide) (by omega)).2 b, (nI_leI (b := 1000000) (by omega) (by decide)).2 a⟩
  have hm : clM (256 * P / T) ≤ 65535 := by unfold clM; split <;> (try split) <;> omega
  have hp : clP (clM (256 * P / T)) ≤ 65535 := by unfold clP; split <;> omega
  have b1 : clM (256 * P / T) * T ≤ 65535 * 1000000 := Nat.mul_le_mul hm hT
  have b2 : clP (clM (256 * P / T)) * T ≤ 65535 * 1000000 := Nat.mul_le_mul hp hT
  have d1 : gapN (clM (256 * P / T) * T) (256 * P) < 2 ^ 62 := by unfold gapN; split <;> omega
  have d2 : gapN (clP (clM (256 * P / T)) * T) (256 * P) < 2 ^ 62 := by unfold gapN; split <;> omega
  unfold fX13_divider
  simp only [jn_eq, nm_eq]
  rw [r_inRange, bnd_some, if_pos (ok hP hP1), if_neg ne10, r_inRange, bnd_some, if_pos (ok hT hT1), if_pos ne10, nI_l (by omega), nI_l (by omega), show (256 : Int64) * lN P = lN (256 * P) from lN_mul 256 P]
  have kL : ∀ {α : Type} (o : Option α), ckL (lN T) o = o := fun o => if_pos (fun z => absurd ((pk_lEQ (b := 0) (by omega) (by decide)).1 z) (by omega))
  rw [kL, pk_lDiv (by omega) (by omega) (by omega)]
  have eM : (if (if lN (256 * P / T) < (65535 : Int64) then lN (256 * P / T) else (65535 : Int64)) < (256 : Int64) then (256 : Int64) else (if lN (256 * P / T) < (65535 : Int64) then lN (256 * P / T) else (65535 : Int64))) = lN (clM (256 * P / T)) := by
    have e : (if lN (256 * P / T) < (65535 : Int64) then lN (256 * P / T) else (65535 : Int64)) = lN (if 256 * P / T < 65535 then 256 * P / T else 65535) := l_if (b := 65535) (d := 65535) (by omega) (by decide)
    rw [e]
    exact l_if (b := 256) (c := 256) (by split <;> omega) (by decide)
  rw [eM, show lN (clM (256 * P / T)) + 1 = lN (clM (256 * P / T) + 1) from lN_1 _]
  have eP : (if lN (clM (256 * P / T) + 1) < (65535 : Int64) then lN (clM (256 * P / T) + 1) else (65535 : Int64)) = lN (clP (clM (256 * P / T))) := l_if (b := 65535) (d := 65535) (by omega) (by decide)
  rw [eP, lN_mul, lN_mul, l_abs (by omega) (by omega), l_abs (by omega) (by omega), ← div_nat (w := 256 * P) (T := T) (q := 256 * P / T) (r := 256 * P % T) (Nat.div_add_mod _ _).symm hr]
  by_cases h : gapN (clM (256 * P / T) * T) (256 * P) ≤ gapN (clP (clM (256 * P / T)) * T) (256 * P)
  · rw [if_pos h, if_pos ((lg_cmp_ge _ _).2 ((pk_lLE (by omega) (by omega)).2 h)), lN_i]
  · rw [if_neg h, if_neg (fun z => h ((pk_lLE (by omega) (by omega)).1 ((lg_cmp_ge _ _).1 z))), lN_i]
theorem op_divider {p : Nat} {μ ν : Mem} (h : Rel2 p μ ν) (x y : Int32) : OpI p μ ν (fX12_divider 0 x y μ) (fX13_divider 0 x y ν) := by
  have of : ∀ {z : Int32}, (1 : Int32) ≤ z → z ≤ (1000000 : Int32) → ∃ k : Nat, k ≤ 1000000 ∧ 1 ≤ k ∧ z = nI k := fun {z} a b => by
    obtain ⟨k, hk, rfl⟩ := nI_of2 (M := 1000000) (n := 1000000) (by decide) (fun w => absurd (Int32.lt_of_le_of_lt a w) (by decide)) b
    exact ⟨k, hk, (nI_leI (a := 1) (by decide) (by omega)).1 a, rfl⟩
  by_cases hx : (1 : Int32) ≤ x ∧ x ≤ 1000000
  · by_cases hy : (1 : Int32) ≤ y ∧ y ≤ 1000000
    · obtain ⟨P, hP, hP1, rfl⟩ := of hx.1 hx.2
      obtain ⟨T, hT, hT1, rfl⟩ := of hy.1 hy.2
      rw [c_div hP hP1 hT hT1, m_div hP hP1 hT hT1]
      exact ⟨.inr _, μ, _, _, rfl, rfl, ⟨wI_same, rfl⟩, h, kr_nil, kc_26⟩
    · unfold fX12_divider fX13_divider
      simp only [jn_eq, nm_eq]
      refine op_badI h ?_ ?_
      · rw [if_neg (Int32.not_lt.2 hx.1), if_neg (Int32.not_lt.2 hx.2)]
        by_cases b : y < 1
        · exact if_pos b
        · rw [if_neg b, if_neg (fun z => hy ⟨Int32.not_lt.1 b, z⟩)]
      · rw [r_inRange, bnd_some, if_pos hx, if_neg ne10, r_inRange, bnd_some, if_neg hy, if_neg (show ¬ ¬ (0 : Int32) = 0 from fun z => z rfl), m_raise, bnd_some, wI_wI]
  · unfold fX12_divider fX13_divider
    simp only [jn_eq, nm_eq]
    refine op_badI h ?_ ?_
    · by_cases a : x < 1
      · exact if_pos a
      · rw [if_neg a, if_pos (Int32.not_le.1 (fun z => hx ⟨Int32.not_lt.1 a, z⟩))]
    · rw [r_inRange, bnd_some, if_neg hx, if_pos (show (0 : Int32) = 0 from rfl), m_raise, bnd_some, wI_wI]
