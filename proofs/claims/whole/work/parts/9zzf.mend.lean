/-! LOAD: the model's row that is now, out of the draft -/
def mEn (F : Nat) : (Mem → Int32 → Option (Int32 × Mem)) → Mem → Int32 → Option (Int32 × Mem) := fun self μ14 x15 =>
  if (4 : Int32) ≤ x15 then ckZ (0 : Int32) <| ckI (0 : Int32) (if 0 = 4 then 7000 else 700) <| some (((wI (wI μ14 26 0 5 (0 : Int32)) 26 0 7 (0 : Int32)).1 27 0 (0 : Int32).toNatClampNeg), wI (wI μ14 26 0 5 (0 : Int32)) 26 0 7 (0 : Int32))
  else bnd (fX13_setting 0 x15 (0 : Int32) μ14) fun x23 μ22 => if ¬ x23 = (1 : Int32) then self μ22 (x15 + (1 : Int32)) else bnd (fX13_begin F 0 x15 μ22) fun _ μ25 => bnd (fX13_set 0 x15 (0 : Int32) (1 : Int32) μ25) fun _ μ26 => self μ26 (x15 + (1 : Int32))
def mPi (F : Nat) : (Mem → Int32 → Option (Int32 × Mem)) → Mem → Int32 → Option (Int32 × Mem) := fun self μ11 x12 =>
  if (16 : Int32) ≤ x12 then lp (fun _ _ => none) F (mEn F) μ11 (0 : Int32) else bnd (fX13_levelOf 0 x12 μ11) fun x28 μ27 => bnd (fX13_putPin 0 x12 (3 : Int32) x28 μ27) fun _ μ29 => self μ29 (x12 + (1 : Int32))
/-- what the row is then -/
def EM (D : Nat → Int32) (e : Nat) (ν : Mem) : Prop :=
  (D (476 + 21 * e) = 1 → tN ν (560 + 35 * e) = 1 ∧ tN ν (560 + 35 * e + 1) = D (476 + 21 * e + 1) ∧ tN ν (560 + 35 * e + 7) = 32 ∧ tN ν (560 + 35 * e + 10) = D (476 + 21 * e + 2) - 256 ∧ (∀ k, 1 < k → k < 29 → k ≠ 7 → k ≠ 10 → tN ν (560 + 35 * e + k) = 0) ∧ ∀ k, 29 ≤ k → k < 35 → tN ν (560 + 35 * e + k) = D (560 + 35 * e + k))
def ResN (D : Nat → Int32) (ν0 ν : Mem) : Prop :=
  (∀ κ a q, ¬ (κ = 27 ∧ a = 0) → ¬ (κ = 26 ∧ a = 0 ∧ (q = 5 ∨ q = 7)) → ν.1 κ a q = ν0.1 κ a q) ∧ ν.2 = ν0.2 ∧ ν.1 26 0 5 = 0 ∧ ν.1 26 0 7 = 0 ∧
  (∀ k, k < 560 → (∀ q, q < 16 → k ≠ 4 + 6 * q + 3) → tN ν k = D k) ∧ (∀ q, q < 16 → tN ν (4 + 6 * q + 3) = D (4 + 6 * q + 2)) ∧ ∀ e, e < 4 → EM D e ν
theorem m_mEn {D : Nat → Int32} (F gu : Nat) (hF : F = gu + 29) : ∀ (d y f2 : Nat) (ν0 ν : Mem), y + d = 4 → (∀ κ a q, ¬ (κ = 27 ∧ a = 0 ∧ 560 ≤ q) → ν.1 κ a q = ν0.1 κ a q) → ν.2 = ν0.2 → (∀ k, k < 560 → (∀ q, q < 16 → k ≠ 4 + 6 * q + 3) → tN ν0 k = D k) → (∀ q, q < 16 → tN ν0 (4 + 6 * q + 3) = D (4 + 6 * q + 2)) →
    (∀ e, e < y → EM D e ν) → (∀ k, 560 + 35 * y ≤ k → k < 700 → tN ν k = D k) → ∃ ν', lp (fun _ _ => none) (f2 + (d + 1)) (mEn F) ν (nI y) = some (D 0, ν') ∧ ResN D ν0 ν' := by
  intro d
  induction d with
  | zero =>
    intro y f2 ν0 ν hy h1 h2 h3 h4 h5 h6
    rw [lp_succ]
    show ∃ ν', (if (4 : Int32) ≤ nI y then _ else _) = _ ∧ _
    rw [if_pos (show (4 : Int32) ≤ nI y from (nI_leI (a := 4) (by decide) (by omega)).2 (by omega)), ckZ_ok (Or.inl rfl), show ∀ {α : Type} (o : Option α), ckI (0 : Int32) (if 0 = 4 then 7000 else 700) o = o from fun o => ckI_nI (j := 0) (by decide) (by decide)]
    have t : ∀ k, tN (wI (wI ν 26 0 5 0) 26 0 7 0) k = tN ν k := fun k => by rw [tN_o (by omega), tN_o (by omega)]
    have t0 : ∀ k, k < 560 → tN ν k = tN ν0 k := fun k hk => h1 27 0 k (by omega)
    have e0 : (wI (wI ν 26 0 5 0) 26 0 7 0).1 27 0 (0 : Int32).toNatClampNeg = D 0 := (t 0).trans ((t0 0 (by decide)).trans (h3 0 (by decide) (fun q hq => by omega)))
    rw [e0]
    refine ⟨_, rfl, fun κ a q z w => by rw [wI_o (by omega), wI_o (by omega)]; exact h1 κ a q (by omega), h2, by rw [wI_o (by omega)]; exact wI_same, wI_same, fun k hk hq => ?_, fun q hq => ?_, fun e he hx => ?_⟩
    · rw [t, t0 k hk]; exact h3 k hk hq
    · rw [t, t0 _ (by omega)]; exact h4 q hq
    · obtain ⟨a1, a2, a3, a4, a5, a6⟩ := h5 e (by omega) hx
      exact ⟨(t _).trans a1, (t _).trans a2, (t _).trans a3, (t _).trans a4, fun k b1 b2 b3 b4 => (t _).trans (a5 k b1 b2 b3 b4), fun k b1 b2 => (t _).trans (a6 k b1 b2)⟩
  | succ d ih =>
    intro y f2 ν0 ν hy h1 h2 h3 h4 h5 h6
    have t0 : ∀ k, k < 560 → (∀ q, q < 16 → k ≠ 4 + 6 * q + 3) → tN ν k = D k := fun k hk hq => (h1 27 0 k (by omega)).trans (h3 k hk hq)
    rw [show f2 + (d + 1 + 1) = (f2 + (d + 1)) + 1 from rfl, lp_succ]
    show ∃ ν', (if (4 : Int32) ≤ nI y then _ else bnd (fX13_setting 0 (nI y) 0 ν) fun x23 μ22 => if ¬ x23 = (1 : Int32) then lp (fun _ _ => none) (f2 + (d + 1)) (mEn F) μ22 (nI y + 1) else bnd (fX13_begin F 0 (nI y) μ22) fun _ μ25 => bnd (fX13_set 0 (nI y) (0 : Int32) (1 : Int32) μ25) fun _ μ26 => lp (fun _ _ => none) (f2 + (d + 1)) (mEn F) μ26 (nI y + 1)) = _ ∧ _
    have es : fX13_setting 0 (nI y) 0 ν = some (D (476 + 21 * y), ν) := by
      have : fX13_setting 0 (nI y) 0 ν = _ := r_setting (f := 0) (by omega)
      rw [this, t0 _ (by omega) (fun q hq => by omega)]
      rfl
    rw [if_neg (show ¬ (4 : Int32) ≤ nI y from fun w => absurd ((nI_leI (a := 4) (by decide) (by omega)).1 w) (by omega)), es, bnd_some, nI_1]
    by_cases g : D (476 + 21 * y) = 1
    · obtain ⟨ν2, n1, n2, n3, n4, n5, n6, n7⟩ := m_begin (ν := ν) (show y < 4 by omega) gu
      have st : ∀ v ν1, fX13_set 0 (nI y) 0 v ν1 = some ((), wI ν1 27 0 (560 + 35 * y + 0) v) := fun v ν1 => by
        have := r_set (μ := ν1) (e := y) (f := 0) (v := v) (by omega)
        exact this
      rw [if_neg (fun z => z g), hF, n1, bnd_some, st, bnd_some, ← hF]
      refine ih (y + 1) f2 ν0 _ (by omega) (fun κ a q z => ?_) (n2.trans h2) h3 h4 (fun e he => ?_) (fun k hk hk' => ?_)
      · rw [wI_o (by omega), n3 κ a q (by omega)]; exact h1 κ a q z
      · by_cases ee : e = y
        · subst ee
          intro _
          have tt : ∀ k, 0 < k → tN (wI ν2 27 0 (560 + 35 * e + 0) 1) (560 + 35 * e + k) = tN ν2 (560 + 35 * e + k) := fun k hk => tN_o (Or.inr (Or.inr (by omega)))
          refine ⟨wI_same, (tt 1 (by decide)).trans (n4.trans (t0 _ (by omega) (fun q hq => by omega))), (tt 7 (by decide)).trans n5, (tt 10 (by decide)).trans (n6.trans (by rw [t0 _ (by omega) (fun q hq => by omega)])), fun k b1 b2 b3 b4 => (tt k (by omega)).trans (n7 k b1 b2 b3 b4), fun k b1 b2 => (tt k (by omega)).trans ?_⟩
          rw [show tN ν2 (560 + 35 * e + k) = tN ν (560 + 35 * e + k) from n3 27 0 _ (by omega)]
          exact h6 _ (by omega) (by omega)
        · intro hx
          obtain ⟨a1, a2, a3, a4, a5, a6⟩ := h5 e (by omega) hx
          have tt : ∀ k, k < 35 → tN (wI ν2 27 0 (560 + 35 * y + 0) 1) (560 + 35 * e + k) = tN ν (560 + 35 * e + k) := fun k hk => (tN_o (Or.inr (Or.inr (by omega)))).trans (n3 27 0 _ (by omega))
          exact ⟨(tt 0 (by decide)).trans a1, (tt 1 (by decide)).trans a2, (tt 7 (by decide)).trans a3, (tt 10 (by decide)).trans a4, fun k b1 b2 b3 b4 => (tt k (by omega)).trans (a5 k b1 b2 b3 b4), fun k b1 b2 => (tt k (by omega)).trans (a6 k b1 b2)⟩
      · rw [tN_o (Or.inr (Or.inr (by omega))), show tN ν2 k = tN ν k from n3 27 0 _ (by omega)]
        exact h6 k (by omega) hk'
    · rw [if_pos g]
      refine ih (y + 1) f2 ν0 ν (by omega) h1 h2 h3 h4 (fun e he => ?_) (fun k hk hk' => h6 k (by omega) hk')
      by_cases ee : e = y
      · subst ee; exact fun hx => absurd hx g
      · exact h5 e (by omega)
theorem m_mPi {D : Nat → Int32} (hD1 : ∀ q, q < 16 → D (4 + 6 * q + 0) = 0 ∧ D (4 + 6 * q + 1) = 0) (o : Nat → Bool) (hD2 : ∀ q, q < 16 → D (4 + 6 * q + 2) = b2 (o q)) (F gu f4 : Nat) (hF : F = gu + 29) (hF4 : F = f4 + 5) : ∀ (d y f2 : Nat) (ν0 ν : Mem), y + d = 16 → (∀ κ a q, ¬ (κ = 27 ∧ a = 0) → ν.1 κ a q = ν0.1 κ a q) → ν.2 = ν0.2 → (∀ k, k < 700 → (∀ q, q < 16 → k ≠ 4 + 6 * q + 3) → tN ν k = D k) → (∀ q, q < y → tN ν (4 + 6 * q + 3) = D (4 + 6 * q + 2)) →
    ∃ ν', lp (fun _ _ => none) (f2 + (d + 1)) (mPi F) ν (nI y) = some (D 0, ν') ∧ ResN D ν0 ν' := by
  intro d
  induction d with
  | zero =>
    intro y f2 ν0 ν hy h1 h2 h3 h4
    rw [lp_succ]
    show ∃ ν', (if (16 : Int32) ≤ nI y then _ else _) = _ ∧ _
    rw [if_pos (show (16 : Int32) ≤ nI y from (nI_leI (a := 16) (by decide) (by omega)).2 (by omega))]
    obtain ⟨ν', r1, r2, r3, r4, r5, r6, r7, r8⟩ := m_mEn (D := D) F gu hF 4 0 f4 ν ν rfl (fun _ _ _ _ => rfl) rfl (fun k hk hq => h3 k (by omega) hq) (fun q hq => h4 q (by omega)) (fun e he => absurd he (by omega)) (fun k hk hk' => h3 k hk' (fun q hq => by omega))
    have e4 : lp (fun _ _ => none) F (mEn F) ν 0 = lp (fun _ _ => none) (f4 + (4 + 1)) (mEn F) ν (nI 0) := by
      show lp (fun _ _ => none) F (mEn F) ν 0 = lp (fun _ _ => none) (f4 + 5) (mEn F) ν 0
      rw [← hF4]
    rw [e4]
    exact ⟨ν', r1, fun κ a q z w => (r2 κ a q z w).trans (h1 κ a q z), r3.trans h2, r4, r5, r6, r7, r8⟩
  | succ d ih =>
    intro y f2 ν0 ν hy h1 h2 h3 h4
    rw [show f2 + (d + 1 + 1) = (f2 + (d + 1)) + 1 from rfl, lp_succ]
    show ∃ ν', (if (16 : Int32) ≤ nI y then _ else bnd (fX13_levelOf 0 (nI y) ν) fun x28 μ27 => bnd (fX13_putPin 0 (nI y) (3 : Int32) x28 μ27) fun _ μ29 => lp (fun _ _ => none) (f2 + (d + 1)) (mPi F) μ29 (nI y + 1)) = _ ∧ _
    have tq : ∀ f, f < 3 → tN ν (4 + 6 * y + f) = D (4 + 6 * y + f) := fun f hf => h3 _ (by omega) (fun q hq => by omega)
    have el := m_levelOf (ν := ν) (show y < 16 by omega) (d := false) (l := false) (o := o y) ((tq 1 (by decide)).trans (hD1 y (by omega)).2) ((tq 0 (by decide)).trans (hD1 y (by omega)).1) ((tq 2 (by decide)).trans (hD2 y (by omega)))
    have ep : ∀ v ν1, fX13_putPin 0 (nI y) 3 v ν1 = some ((), wI ν1 27 0 (4 + 6 * y + 3) v) := fun v ν1 => r_putPin (f := 3) (by omega)
    rw [if_neg (show ¬ (16 : Int32) ≤ nI y from fun w => absurd ((nI_leI (a := 16) (by decide) (by omega)).1 w) (by omega)), el, bnd_some, ep, bnd_some, nI_1]
    refine ih (y + 1) f2 ν0 _ (by omega) (fun κ a q z => by rw [wI_o (by omega)]; exact h1 κ a q z) h2 (fun k hk hq => ?_) (fun q hq => ?_)
    · rw [tN_o (Or.inr (Or.inr (hq y (by omega))))]; exact h3 k hk hq
    · by_cases g : q = y
      · subst g
        rw [show tN (wI ν 27 0 (4 + 6 * q + 3) (b2 (if false = true then false else o q))) (4 + 6 * q + 3) = b2 (if false = true then false else o q) from wI_same, hD2 q (by omega)]
        rfl
      · rw [tN_o (Or.inr (Or.inr (by omega)))]; exact h4 q (by omega)
