/-! QUERY: a value -/
def clsv (μ : Mem) (e i : Nat) : Int32 := if i = 0 then nI e else if i ≤ 9 then μ.1 18 e (i - 1) else μ.1 19 (2 * e + (i - 10)) 0
theorem c_prop0 {e : Nat} {μ : Mem} (he : e < 4) : fX6_propertyOf 0 (nI e) 12 μ = some (clsv μ e 0, μ) := by
  unfold fX6_propertyOf
  simp only [jn_eq]
  rw [ckI_nI he (by decide), sw_at (v := 42) (by decide), if_neg (by decide), if_neg (by decide), if_neg (by decide), if_neg (by decide), if_neg (by decide), if_neg (by decide), if_neg (by decide), if_neg (by decide), if_neg (by decide), if_neg (by decide), if_neg (by decide), if_neg (by decide), if_neg (by decide), if_neg (by decide), if_neg (by decide), if_neg (by decide), if_neg (by decide), if_neg (by decide), if_neg (by decide), if_neg (by decide), if_neg (by decide), if_neg (by decide), if_pos rfl]
  rfl
theorem c_prop1 {e : Nat} {μ : Mem} (he : e < 4) : fX6_propertyOf 0 (nI e) 58 μ = some (clsv μ e 1, μ) := by
  unfold fX6_propertyOf
  simp only [jn_eq]
  rw [ckI_nI he (by decide), sw_at (v := 26) (by decide), if_neg (by decide), if_neg (by decide), if_neg (by decide), if_neg (by decide), if_neg (by decide), if_neg (by decide), if_pos rfl, nI_clamp (n := e) (by omega)]
  show some (μ.1 18 (4 * 0 + e) 0, μ) = _
  rw [show 4 * 0 + e = e by omega]
  rfl
theorem c_prop2 {e : Nat} {μ : Mem} (he : e < 4) : fX6_propertyOf 0 (nI e) 52 μ = some (clsv μ e 2, μ) := by
  unfold fX6_propertyOf
  simp only [jn_eq]
  rw [ckI_nI he (by decide), sw_at (v := 20) (by decide), if_pos rfl, nI_clamp (n := e) (by omega)]
  show some (μ.1 18 (4 * 0 + e) 1, μ) = _
  rw [show 4 * 0 + e = e by omega]
  rfl
theorem c_prop3 {e : Nat} {μ : Mem} (he : e < 4) : fX6_propertyOf 0 (nI e) 53 μ = some (clsv μ e 3, μ) := by
  unfold fX6_propertyOf
  simp only [jn_eq]
  rw [ckI_nI he (by decide), sw_at (v := 21) (by decide), if_neg (by decide), if_pos rfl, nI_clamp (n := e) (by omega)]
  show some (μ.1 18 (4 * 0 + e) 2, μ) = _
  rw [show 4 * 0 + e = e by omega]
  rfl
theorem c_prop4 {e : Nat} {μ : Mem} (he : e < 4) : fX6_propertyOf 0 (nI e) 55 μ = some (clsv μ e 4, μ) := by
  unfold fX6_propertyOf
  simp only [jn_eq]
  rw [ckI_nI he (by decide), sw_at (v := 22) (by decide), if_neg (by decide), if_neg (by decide), if_pos rfl, nI_clamp (n := e) (by omega)]
  show some (μ.1 18 (4 * 0 + e) 3, μ) = _
  rw [show 4 * 0 + e = e by omega]
  rfl
theorem c_prop5 {e : Nat} {μ : Mem} (he : e < 4) : fX6_propertyOf 0 (nI e) 56 μ = some (clsv μ e 5, μ) := by
  unfold fX6_propertyOf
  simp only [jn_eq]
  rw [ckI_nI he (by decide), sw_at (v := 23) (by decide), if_neg (by decide), if_neg (by decide), if_neg (by decide), if_pos rfl, nI_clamp (n := e) (by omega)]
  show some (μ.1 18 (4 * 0 + e) 4, μ) = _
  rw [show 4 * 0 + e = e by omega]
  rfl
theorem c_prop6 {e : Nat} {μ : Mem} (he : e < 4) : fX6_propertyOf 0 (nI e) 69 μ = some (clsv μ e 6, μ) := by
  unfold fX6_propertyOf
  simp only [jn_eq]
  rw [ckI_nI he (by decide), sw_at (v := 43) (by decide), if_neg (by decide), if_neg (by decide), if_neg (by decide), if_neg (by decide), if_neg (by decide), if_neg (by decide), if_neg (by decide), if_neg (by decide), if_neg (by decide), if_neg (by decide), if_neg (by decide), if_neg (by decide), if_neg (by decide), if_neg (by decide), if_neg (by decide), if_neg (by decide), if_neg (by decide), if_neg (by decide), if_neg (by decide), if_neg (by decide), if_neg (by decide), if_neg (by decide), if_neg (by decide), if_pos rfl, nI_clamp (n := e) (by omega)]
  show some (μ.1 18 (4 * 0 + e) 5, μ) = _
  rw [show 4 * 0 + e = e by omega]
  rfl
theorem c_prop7 {e : Nat} {μ : Mem} (he : e < 4) : fX6_propertyOf 0 (nI e) 70 μ = some (clsv μ e 7, μ) := by
  unfold fX6_propertyOf
  simp only [jn_eq]
  rw [ckI_nI he (by decide), sw_at (v := 44) (by decide), if_neg (by decide), if_neg (by decide), if_neg (by decide), if_neg (by decide), if_neg (by decide), if_neg (by decide), if_neg (by decide), if_neg (by decide), if_neg (by decide), if_neg (by decide), if_neg (by decide), if_neg (by decide), if_neg (by decide), if_neg (by decide), if_neg (by decide), if_neg (by decide), if_neg (by decide), if_neg (by decide), if_neg (by decide), if_neg (by decide), if_neg (by decide), if_neg (by decide), if_neg (by decide), if_neg (by decide), if_pos rfl, nI_clamp (n := e) (by omega)]
  show some (μ.1 18 (4 * 0 + e) 6, μ) = _
  rw [show 4 * 0 + e = e by omega]
  rfl
theorem c_prop8 {e : Nat} {μ : Mem} (he : e < 4) : fX6_propertyOf 0 (nI e) 16 μ = some (clsv μ e 8, μ) := by
  unfold fX6_propertyOf
  simp only [jn_eq]
  rw [ckI_nI he (by decide), sw_at (v := 45) (by decide), if_neg (by decide), if_neg (by decide), if_neg (by decide), if_neg (by decide), if_neg (by decide), if_neg (by decide), if_neg (by decide), if_neg (by decide), if_neg (by decide), if_neg (by decide), if_neg (by decide), if_neg (by decide), if_neg (by decide), if_neg (by decide), if_neg (by decide), if_neg (by decide), if_neg (by decide), if_neg (by decide), if_neg (by decide), if_neg (by decide), if_neg (by decide), if_neg (by decide), if_neg (by decide), if_neg (by decide), if_neg (by decide), if_pos rfl, nI_clamp (n := e) (by omega)]
  show some (μ.1 18 (4 * 0 + e) 7, μ) = _
  rw [show 4 * 0 + e = e by omega]
  rfl
theorem c_prop9 {e : Nat} {μ : Mem} (he : e < 4) : fX6_propertyOf 0 (nI e) 71 μ = some (clsv μ e 9, μ) := by
  unfold fX6_propertyOf
  simp only [jn_eq]
  rw [ckI_nI he (by decide), sw_at (v := 46) (by decide), if_neg (by decide), if_neg (by decide), if_neg (by decide), if_neg (by decide), if_neg (by decide), if_neg (by decide), if_neg (by decide), if_neg (by decide), if_neg (by decide), if_neg (by decide), if_neg (by decide), if_neg (by decide), if_neg (by decide), if_neg (by decide), if_neg (by decide), if_neg (by decide), if_neg (by decide), if_neg (by decide), if_neg (by decide), if_neg (by decide), if_neg (by decide), if_neg (by decide), if_neg (by decide), if_neg (by decide), if_neg (by decide), if_neg (by decide), if_pos rfl, nI_clamp (n := e) (by omega)]
  show some (μ.1 18 (4 * 0 + e) 8, μ) = _
  rw [show 4 * 0 + e = e by omega]
  rfl
theorem c_prop10 {e : Nat} {μ : Mem} (he : e < 4) : fX6_propertyOf 0 (nI e) 72 μ = some (clsv μ e 10, μ) := by
  unfold fX6_propertyOf
  simp only [jn_eq]
  rw [ckI_nI he (by decide), sw_at (v := 47) (by decide), if_neg (by decide), if_neg (by decide), if_neg (by decide), if_neg (by decide), if_neg (by decide), if_neg (by decide), if_neg (by decide), if_neg (by decide), if_neg (by decide), if_neg (by decide), if_neg (by decide), if_neg (by decide), if_neg (by decide), if_neg (by decide), if_neg (by decide), if_neg (by decide), if_neg (by decide), if_neg (by decide), if_neg (by decide), if_neg (by decide), if_neg (by decide), if_neg (by decide), if_neg (by decide), if_neg (by decide), if_neg (by decide), if_neg (by decide), if_neg (by decide), if_pos rfl, nI_clamp (n := e) (by omega)]
  show some (μ.1 19 (2 * (4 * 0 + e)) 0, μ) = _
  rw [show 4 * 0 + e = e by omega]
  rfl
theorem c_prop11 {e : Nat} {μ : Mem} (he : e < 4) : fX6_propertyOf 0 (nI e) 73 μ = some (clsv μ e 11, μ) := by
  unfold fX6_propertyOf
  simp only [jn_eq]
  rw [ckI_nI he (by decide), sw_at (v := 0) (by decide), if_neg (by decide), if_neg (by decide), if_neg (by decide), if_neg (by decide), if_neg (by decide), if_neg (by decide), if_neg (by decide), if_neg (by decide), if_neg (by decide), if_neg (by decide), if_neg (by decide), if_neg (by decide), if_neg (by decide), if_neg (by decide), if_neg (by decide), if_neg (by decide), if_neg (by decide), if_neg (by decide), if_neg (by decide), if_neg (by decide), if_neg (by decide), if_neg (by decide), if_neg (by decide), if_neg (by decide), if_neg (by decide), if_neg (by decide), if_neg (by decide), if_neg (by decide), nI_clamp (n := e) (by omega)]
  show some (μ.1 19 (2 * (4 * 0 + e) + 1) 0, μ) = _
  rw [show 4 * 0 + e = e by omega]
  rfl
theorem sw4_v : ∀ i, i < 12 → swL 4 i = [12, 58, 52, 53, 55, 56, 69, 70, 16, 71, 72, 73].getD i 0 := by decide +kernel
theorem c_prop {e i : Nat} {μ : Mem} (he : e < 4) (hi : i < 12) : fX6_propertyOf 0 (nI e) (swL 4 i) μ = some (clsv μ e i, μ) := by
  rw [sw4_v i hi]
  match i, hi with
  | 0, _ => exact c_prop0 he
  | 1, _ => exact c_prop1 he
  | 2, _ => exact c_prop2 he
  | 3, _ => exact c_prop3 he
  | 4, _ => exact c_prop4 he
  | 5, _ => exact c_prop5 he
  | 6, _ => exact c_prop6 he
  | 7, _ => exact c_prop7 he
  | 8, _ => exact c_prop8 he
  | 9, _ => exact c_prop9 he
  | 10, _ => exact c_prop10 he
  | 11, _ => exact c_prop11 he
  | n + 12, h => exact absurd h (by omega)
theorem role16384 : ∀ r, r < 74 → (¬ syR.getD r 0 &&& 16384 = 0 ↔ ix 4 r ≠ -1) := by decide +kernel
theorem ix4_of : ∀ r, r < 74 → ix 4 r = -1 ∨ (ix 4 r = nI ([12, 58, 52, 53, 55, 56, 69, 70, 16, 71, 72, 73].idxOf r) ∧ [12, 58, 52, 53, 55, 56, 69, 70, 16, 71, 72, 73].idxOf r < 12 ∧ [12, 58, 52, 53, 55, 56, 69, 70, 16, 71, 72, 73].getD ([12, 58, 52, 53, 55, 56, 69, 70, 16, 71, 72, 73].idxOf r) 0 = r) := by decide +kernel
theorem role_ix4 {r : Nat} (hr : r < 74) (g : ¬ syR.getD r 0 &&& 16384 = 0) : ∃ i, i < 12 ∧ ix 4 r = nI i ∧ swL 4 i = r := by
  rcases ix4_of r hr with z | ⟨z1, z2, z3⟩
  · exact absurd z ((role16384 r hr).1 g)
  · exact ⟨_, z2, z1, (sw4_v _ z2).trans z3⟩
/-- the class's row of values -/
def rB (r a : Nat) (x4 : Int32) : (Mem → Int32 → Int32 → Option (Unit × Mem)) → Mem → Int32 → Int32 → Option (Unit × Mem) := fun self μ5 x6 x7 =>
  if (4 : Int32) ≤ x7 then some ((), μ5) else if (Int32.ofNat (4)) ≤ x7 then some ((), μ5) else
    if ¬ a = 0 then bnd (fX6_propertyOf 0 x7 a μ5) fun x21 μ20 => ckI x7 4 <| self (wI μ20 24 r x7.toNatClampNeg x21) x6 (x7 + (1 : Int32))
    else ckI x7 4 <| self (wI μ5 24 r x7.toNatClampNeg x6) x6 (x7 + (1 : Int32))
theorem c_row {r a : Nat} {x : Int32} {v : Nat → Int32} {μ : Mem} (hv : ∀ e, e < 4 → ∀ μ5 : Mem, (∀ κ q k, ¬ κ = 24 → μ5.1 κ q k = μ.1 κ q k) → (if ¬ a = 0 then fX6_propertyOf 0 (nI e) a μ5 else some (x, μ5)) = some (v e, μ5)) (fu : Nat) : ∃ μ', lp (fun _ _ _ => none) (fu + 5) (rB r a x) μ x 0 = some ((), μ') ∧ (∀ e, e < 4 → μ'.1 24 r e = v e) ∧ (∀ κ q k, ¬ (κ = 24 ∧ q = r) → μ'.1 κ q k = μ.1 κ q k) ∧ μ'.2 = μ.2 := by
  refine (lp_ind (P := fun d (f : Mem → Int32 → Int32 → Option (Unit × Mem)) => ∀ y μ1, y + d = 4 → (∀ κ q k, ¬ (κ = 24 ∧ q = r) → μ1.1 κ q k = μ.1 κ q k) → μ1.2 = μ.2 → (∀ e, e < y → μ1.1 24 r e = v e) → ∃ μ', f μ1 x (nI y) = some ((), μ') ∧ (∀ e, e < 4 → μ'.1 24 r e = v e) ∧ (∀ κ q k, ¬ (κ = 24 ∧ q = r) → μ'.1 κ q k = μ.1 κ q k) ∧ μ'.2 = μ.2) (fun f y μ1 hy h1 h2 h3 => ?_) (fun d f ih y μ1 hy h1 h2 h3 => ?_) 4 fu) 0 μ rfl (fun _ _ _ _ => rfl) rfl (fun e he => absurd he (by omega))
  · exact ⟨μ1, if_pos ((nI_leI (a := 4) (by decide) (by omega)).2 (by omega)), fun e he => h3 e (by omega), h1, h2⟩
  · have ng : ¬ (4 : Int32) ≤ nI y := fun w => absurd ((nI_leI (a := 4) (by decide) (by omega)).1 w) (by omega)
    have ng' : ¬ Int32.ofNat 4 ≤ nI y := ng
    have hv := hv y (by omega) μ1 (fun κ q k z => h1 κ q k (fun w => z w.1))
    have nx : ∃ μ', f (wI μ1 24 r y (v y)) x (nI (y + 1)) = some ((), μ') ∧ (∀ e, e < 4 → μ'.1 24 r e = v e) ∧ (∀ κ q k, ¬ (κ = 24 ∧ q = r) → μ'.1 κ q k = μ.1 κ q k) ∧ μ'.2 = μ.2 := by
      refine ih (y + 1) _ (by omega) (fun κ q k z => by rw [wI_o (by omega)]; exact h1 κ q k z) h2 (fun e he => ?_)
      by_cases g : e = y
      · subst g; exact wI_same
      · rw [wI_o (by omega)]; exact h3 e (by omega)
    show ∃ μ', (if (4 : Int32) ≤ nI y then _ else if Int32.ofNat 4 ≤ nI y then _ else if ¬ a = 0 then bnd (fX6_propertyOf 0 (nI y) a μ1) fun x21 μ20 => ckI (nI y) 4 <| f (wI μ20 24 r (nI y).toNatClampNeg x21) x (nI y + 1) else ckI (nI y) 4 <| f (wI μ1 24 r (nI y).toNatClampNeg x) x (nI y + 1)) = _ ∧ _
    rw [if_neg ng, if_neg ng', nI_1]
    by_cases g : a = 0
    · rw [if_neg (fun z => z g)] at hv
      have e1 := (Prod.mk.inj (Option.some.inj hv)).1
      rw [if_neg (fun z => z g), ckI_nI (show y < 4 by omega) (by decide), nI_clamp (n := y) (by omega)]
      rw [← e1] at nx
      exact nx
    · rw [if_pos g] at hv
      rw [if_pos g, hv, bnd_some, ckI_nI (show y < 4 by omega) (by decide), nI_clamp (n := y) (by omega)]
      exact nx
theorem c_valueEq {F r : Nat} {μ : Mem} : fX6_readValue F 0 r μ = bnd (fX11_takeOptional 0 16384 μ) fun a μ22 => ckB a 74 <| if ¬ a = 0 then lp (fun _ _ _ => none) F (rB r a 0) μ22 0 0 else bnd (fX11_takeNumber 0 0 99999 μ22) fun x μ26 => lp (fun _ _ _ => none) F (rB r a x) μ26 x 0 := by
  unfold fX6_readValue rB
  simp only [jn_eq, nm_eq]
/-- after an error, a row of anything -/
theorem d_value {N n r : Nat} {c : Nat → Int32} {μ : Mem} (d : DD N n c μ) (fu : Nat) : ∃ μ', fX6_readValue (fu + 5) 0 r μ = some ((), μ') ∧ (∀ κ q k, ¬ (κ = 24 ∧ q = r) → μ'.1 κ q k = μ.1 κ q k) ∧ μ'.2 = μ.2 := by
  obtain ⟨μ', h1, -, h2, h3⟩ := c_row (r := r) (a := 0) (x := 0) (v := fun _ => 0) (μ := μ) (fun e he μ5 _ => if_neg (fun z => z rfl)) fu
  rw [c_valueEq, d_takeOpt d, bnd_some, ckB_ok (by decide), if_neg (fun z => z rfl), d_number d, bnd_some]
  exact ⟨μ', h1, h2, h3⟩
/-- a value, both: the class's row for the engines that X holds of, the model's code -/
theorem p_value {N n t k r : Nat} {c : Nat → Int32} {X : Nat → Prop} {pe : Nat → Int32 → Option Int32} {μ ν : Mem} (h : PG N n c t μ ν) (hk : ν.1 26 0 46 = nI k) (hk2 : t < n → k < 200) (hX : ∀ e, e < 4 → X e → ∀ i, i < 12 → pe e (nI i) = some (clsv μ e i)) (fu : Nat) :
    ∃ μ' ν', fX6_readValue (fu + 1001) 0 r μ = some ((), μ') ∧ fX13_compileValue (fu + 1001) 0 ν = some ((), ν') ∧ FcQ μ μ' ∧ FmQ ν ν' ∧ (∀ q j, ¬ q = r → μ'.1 24 q j = μ.1 24 q j) ∧ (∀ j, ¬ j = k → ν'.1 28 15 j = ν.1 28 15 j) ∧ ν'.1 26 0 29 = ν.1 26 0 29 ∧
      ((t < n ∧ PG N n c (t + 1) μ' ν' ∧ ν'.1 26 0 46 = nI (k + 1) ∧ ∀ e, e < 4 → X e → VAL (pe e) (ν'.1 28 15) k (k + 1) (μ'.1 24 r e)) ∨ PB N n c μ' ν') := by
  have hn : n ≤ 1000 := Nat.le_trans h.1.1 h.1.2.1
  have h26 := h.2.2.2.2.1
  have ht : t ≤ n := h.2.2.2.2.2.1.2.1
  have ct := c_takeOpt (r := 16384) hn h.2.1 ht h.2.2.1
  rw [c_valueEq]
  unfold fX13_compileValue
  simp only [jn_eq]
  rw [if_neg (fun z => z h26)]
  by_cases g : syR.getD (syA N n c t) 0 &&& 16384 = 0
  · -- no property: a number
    rw [ct, if_pos g, bnd_some, ckB_ok (by decide), if_neg (fun z => z rfl)]
    obtain ⟨μ1, ν1, v, s1, s2, s3, s4, s5⟩ := p_number (lo := 0) (hi := 99999) h (by decide) (by decide) fu
    have s1 : fX11_takeNumber 0 0 99999 μ = some (v, μ1) := s1
    have s2 : fX13_number (fu + 1001) 0 0 99999 ν = some (v, ν1) := s2
    obtain ⟨μ2, y1, y2, y3, y4⟩ := c_row (r := r) (a := 0) (x := v) (v := fun _ => v) (μ := μ1) (fun e he μ5 _ => if_neg (fun z => z rfl)) (fu + 996)
    have fc : FcQ μ μ2 := fcq_trans (fcq_p s4) ⟨fun κ a q _ z => y3 κ a q (fun w => z w.1), y4⟩
    rw [s1, bnd_some]
    have k1 : ν1.1 26 0 46 = nI k := (s5.1 _ _ _ (by omega)).trans hk
    have pgy : ∀ {t' : Nat} {ν' : Mem}, PG N n c t' μ1 ν' → PG N n c t' μ2 ν' := fun g => pg_c g (fun κ a q z => y3 _ _ _ (by omega)) (by rw [y4])
    have pby : ∀ {ν' : Mem}, PB N n c μ1 ν' → PB N n c μ2 ν' := fun g => pb_c g (fun κ a q z => y3 _ _ _ (by omega)) (by rw [y4])
    by_cases q3 : syA N n c t = 3
    · have k2 := (num_tok h q3 fu).2.1
      rw [if_neg (fun z => z k2), s2, bnd_some]
      rcases s3 with ⟨a1, ⟨x, -, x2, rfl⟩, a3⟩ | ⟨a1, a2⟩
      · rw [m_emit a3.2.2.2.2.1 k1 (hk2 a1), bnd_some]
        refine ⟨μ2, emM ν1 k (nI x), y1, rfl, fc, fmq_trans (fmq_p s5) fmq_e, fun q j hq => (y3 _ _ _ (by omega)).trans (s4.1 _ _ _ (by omega)), fun j hj => ?_, ?_, Or.inl ⟨a1, pg_em (pgy a3), ?_, fun e he hx => ?_⟩⟩
        · unfold emM; rw [wI_o (by omega), wI_o (by omega)]; exact s5.1 _ _ _ (by omega)
        · unfold emM; rw [wI_o (by omega), wI_o (by omega)]; exact s5.1 _ _ _ (by omega)
        · unfold emM; exact wI_same
        · have ec : (emM ν1 k (nI x)).1 28 15 k = nI x := by unfold emM; rw [wI_o (by omega)]; exact wI_same
          have n0 : ¬ nI x < 0 := nI_pos (by omega)
          rw [y2 e he]; exact val_num ec n0
      · rw [b_emit a2, bnd_some]
        exact ⟨μ2, ν1, y1, rfl, fc, fmq_p s5, fun q j hq => (y3 _ _ _ (by omega)).trans (s4.1 _ _ _ (by omega)), fun j hj => s5.1 _ _ _ (by omega), s5.1 _ _ _ (by omega), Or.inr (pby a2)⟩
    · -- neither: both fail
      have ei : fX13_indexIn (fu + 1001) 0 4 ν = _ := p_index4 h (fu + 951)
      have im : ix 4 (syA N n c t) = -1 := Classical.byContradiction fun z => (role16384 _ syA_lt).2 z g
      rw [im] at ei
      obtain ⟨μ3, ν3, f1, f2, f3, f4, f5⟩ := p_fail2 (k := 1) h (by decide)
      have en := c_numNo (lo := 0) (hi := 99999) hn h.2.1 ht h.2.2.1 q3 f1
      obtain ⟨ev, em⟩ := Prod.mk.inj (Option.some.inj (s1.symm.trans en))
      subst ev em
      rw [if_pos (num_no h q3), ei, bnd_some, if_pos rfl, m_chk0 f2, bnd_some, b_emit f3, bnd_some, b_advance f3, bnd_some]
      exact ⟨μ2, ν3, y1, rfl, fc, fmq_p f5, fun q j hq => (y3 _ _ _ (by omega)).trans (s4.1 _ _ _ (by omega)), fun j hj => f5.1 _ _ _ (by omega), f5.1 _ _ _ (by omega), Or.inr (pb_c f3 (fun κ a q z => y3 _ _ _ (by omega)) (by rw [y4]))⟩
  · -- a property
    have tn := role_lt g
    obtain ⟨i, hi, e1, e2⟩ := role_ix4 syA_lt g
    have nz : ¬ syA N n c t = 0 := fun z => g (by rw [z]; show (0 : Int32) &&& 16384 = 0; simp)
    have q3 : ¬ syA N n c t = 3 := fun z => g (by rw [z]; decide)
    have ei : fX13_indexIn (fu + 1001) 0 4 ν = _ := p_index4 h (fu + 951)
    rw [e1] at ei
    obtain ⟨μ2, y1, y2, y3, y4⟩ := c_row (r := r) (a := syA N n c t) (x := 0) (v := fun e => clsv μ e i) (μ := wI μ 2 0 6 (nI (t + 1))) (fun e he μ5 h5 => by
      rw [if_pos nz, ← e2, c_prop he hi]
      have : clsv μ5 e i = clsv μ e i := by
        unfold clsv
        rw [h5 _ _ _ (by decide), h5 _ _ _ (by decide), wI_o (by omega), wI_o (by omega)]
      rw [this]) (fu + 996)
    have ec : emM ν k (-1 - nI i) = wI (wI ν 28 15 k (-1 - nI i)) 26 0 46 (nI (k + 1)) := rfl
    have he := pg_em (k := k) (x := -1 - nI i) h
    obtain ⟨ν2, s1, s2, s3⟩ := p_next he tn fu
    have fw := fpm_fw s3
    rw [ct, if_neg g, bnd_some, ckB_ok syA_lt, if_pos nz, if_pos (num_no h q3), ei, bnd_some, if_neg (nI_m1 (by omega)), m_chk1, bnd_some, m_emit h26 hk (hk2 tn), bnd_some]
    unfold fX13_advance
    simp only [jn_eq]
    rw [if_neg (fun z => z he.2.2.2.2.1), s1, bnd_some, bnd_some]
    refine ⟨μ2, ν2, y1, rfl, fcq_trans (fcq_p fpc_6) ⟨fun κ a q _ z => y3 κ a q (fun w => z w.1), y4⟩, fmq_trans fmq_e (fmq_p fw), fun q j hq => (y3 _ _ _ (by omega)).trans (wI_o (by omega)), fun j hj => ?_, ?_, Or.inl ⟨tn, pg_c s2 (fun κ a q z => y3 _ _ _ (by omega)) (by rw [y4]), ?_, fun e he hx => ?_⟩⟩
    · rw [fw.1 _ _ _ (by omega)]; unfold emM; rw [wI_o (by omega), wI_o (by omega)]
    · rw [fw.1 _ _ _ (by omega)]; unfold emM; rw [wI_o (by omega), wI_o (by omega)]
    · rw [fw.1 _ _ _ (by omega)]; unfold emM; exact wI_same
    · have ek : ν2.1 28 15 k = -1 - nI i := by rw [fw.1 _ _ _ (by omega)]; unfold emM; rw [wI_o (by omega)]; exact wI_same
      have small : ∀ i, i < 12 → ¬ (-1 - nI i : Int32) = -23 ∧ ¬ (-1 - nI i : Int32) ≤ -20 ∧ (-1 - nI i : Int32) < 0 ∧ (-1 - (-1 - nI i) : Int32) = nI i := by decide +kernel
      obtain ⟨z1, z2, z3, z4⟩ := small i hi
      rw [y2 e he]; exact val_prop ek z1 z2 z3 (by rw [z4]; exact hX e he hx i hi)
theorem b_value {N n : Nat} {c : Nat → Int32} {μ ν : Mem} (b : PB N n c μ ν) (fu : Nat) : fX13_compileValue (fu + 1001) 0 ν = some ((), ν) := by
  unfold fX13_compileValue
  simp only [jn_eq]
  rw [if_pos (b_err b), (b_number b fu).2, bnd_some, b_emit b, bnd_some]
