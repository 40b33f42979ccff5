/-! AT THE START CLASS AND MODEL ARE ALIKE -/
theorem mu2_C {μ : Mem} {κ n k : Nat} (h : isM κ = false) : (mu2 μ).1 κ n k = μ.1 κ n k := if_neg (by rw [h]; decide)
theorem mu2_M {μ : Mem} {κ n k : Nat} (h : isM κ = true) : (mu2 μ).1 κ n k = muM κ n k := if_pos h
theorem mu2_row {μ : Mem} {k : Nat} (h : k ≠ 2) : (mu2 μ).1 27 0 k = 0 := by
  rw [mu2_M (by decide)]
  show (if (0 : Nat) = 0 then (if k = 2 then (-1 : Int32) else 0) else 0) = 0
  rw [if_pos rfl, if_neg h]
theorem fld_nI : ∀ i, i < 12 → 0 < i → flds.getD i 0 = nI (fld i) := by decide
/-- the builder in order: c bytes are written -/
def SBQ (c : Nat) (μ : Mem) : Prop := μ.1 32 0 1 = 0 ∧ bcap μ ≤ 140 ∧ c ≤ bcap μ ∧ c ≤ 70 ∧ μ.1 32 0 3 = nI c ∧ ∀ k, k < bcap μ → fits .byte (.int (μ.1 33 0 k)) = true
def Inv2 (μ : Mem) : Prop := FLD μ ∧ ∃ c, SBQ c μ ∧ μ.1 26 0 41 = nI c ∧ ∀ k, k < c → μ.1 33 0 k = μ.1 28 13 k ∧ ∃ m : Nat, m < 128 ∧ μ.1 28 13 k = nI m
/-- between the law's cases -/
def Inv (μ : Mem) : Prop := ∃ p, Rel p μ ∧ Inv2 μ
theorem rel_init {μ1 : Mem} (hB : ResB 0 mu0 μ1) : Rel 0 (mu2 μ1) := by
  obtain ⟨⟨f1, f2⟩, ⟨b1, b2, b3, b4, b5, b6⟩, m8, m10, m13, m17, be⟩ := hB
  have g : ∀ κ a q, ¬ BgS κ a → isM κ = false → (mu2 μ1).1 κ a q = mu0.1 κ a q := fun κ a q h1 h2 => (mu2_C h2).trans (f1 κ a q h1)
  have h2 : (mu2 μ1).2.1 = mu0.2.1 := (show μ1.2.1 = mu0.2.1 by rw [f2])
  have z8 : ∀ j, (mu2 μ1).1 8 j 0 = 0 := fun j => g 8 j 0 (by unfold BgS; omega) rfl
  refine ⟨⟨by decide, by rw [h2]; rfl, by rw [h2]; rfl, by rw [h2]; rfl, by rw [h2]; decide, by rw [h2]; decide⟩, ?_, ?_, ?_, ?_, ?_, ?_, ?_, ?_, ?_, ?_⟩
  · exact ⟨0, by decide, mu2_row (by decide), g 5 0 0 (by unfold BgS; omega) rfl, fun a ha => absurd ha (Nat.not_lt_zero a), fun e he => Or.inl ⟨z8 _, mu2_row (by omega)⟩⟩
  · refine ⟨⟨0, by decide, mu2_row (by decide), (mu2_C rfl).trans b1, fun k _ hk => absurd hk (Nat.not_lt_zero k)⟩, ⟨?_, Or.inl ?_⟩, fun q hq => ?_, fun f hf => ?_, fun a ha => ?_, ⟨0, by decide, mu2_row (by decide), (mu2_C rfl).trans m8, fun k hk => absurd hk (Nat.not_lt_zero k)⟩, fun e he h => ?_⟩
    · exact (mu2_M (κ := 27) (n := 0) (k := 2) rfl).trans ((mu2_C rfl).trans b6).symm
    · exact mu2_M (κ := 27) (n := 0) (k := 2) rfl
    · have e10 : (mu2 μ1).1 12 0 10 = 0 := (mu2_C rfl).trans m10
      refine ⟨?_, ?_, ?_, ?_, ?_, ?_⟩
      · show (mu2 μ1).1 27 0 (4 + 6 * q + 0) = _
        rw [mu2_row (by omega), show (mu2 μ1).1 12 0 1 = 0 from (mu2_C rfl).trans b2, bt_0]; rfl
      · show (mu2 μ1).1 27 0 (4 + 6 * q + 1) = _
        rw [mu2_row (by omega), show (mu2 μ1).1 12 0 2 = 0 from (mu2_C rfl).trans b3, bt_0]; rfl
      · show (mu2 μ1).1 27 0 (4 + 6 * q + 2) = _
        rw [mu2_row (by omega), show (mu2 μ1).1 12 0 3 = 0 from (mu2_C rfl).trans b4, bt_0]; rfl
      · show (mu2 μ1).1 27 0 (4 + 6 * q + 3) = _
        rw [mu2_row (by omega), e10, bt_0]; rfl
      · show (mu2 μ1).1 27 0 (4 + 6 * q + 4) = _
        rw [mu2_row (by omega)]
        exact ((mu2_C rfl).trans (m17 q hq).1).symm
      · show (mu2 μ1).1 27 0 (4 + 6 * q + 5) = _
        rw [mu2_row (by omega), e10, bt_0]
        exact ((mu2_C rfl).trans (m17 q hq).2).symm
    · show (mu2 μ1).1 27 0 (100 + f) = _
      rw [mu2_row (by omega), show (mu2 μ1).1 12 0 4 = 0 from (mu2_C rfl).trans b5, bt_0]; rfl
    · show (mu2 μ1).1 27 0 (108 + a) = _
      rw [mu2_row (by omega)]
      exact ((mu2_C rfl).trans (m13 a ha)).symm
    · exact absurd ((z8 _).symm.trans h) (by decide)
  · exact ⟨0, by decide, g 0 0 1 (by unfold BgS; omega) rfl, mu2_M rfl, fun k hk => absurd hk (Nat.not_lt_zero k)⟩
  · exact (g 0 0 2 (by unfold BgS; omega) rfl).trans (mu2_M (κ := 26) (n := 0) (k := 28) rfl).symm
  · exact ⟨0, 0, by decide, by decide, g 0 0 15 (by unfold BgS; omega) rfl, mu2_M rfl, g 0 0 14 (by unfold BgS; omega) rfl, fun k hk => absurd hk (Nat.not_lt_zero k)⟩
  · exact Or.inl ⟨g 0 0 12 (by unfold BgS; omega) rfl, mu2_M rfl⟩
  · intro k _; rw [h2]; exact (by decide : (1 : Nat) < 74)
  · intro j _; rw [h2]; exact ⟨(by decide : (0 : Nat) < 74), (by decide : (0 : Nat) < 74), (by decide : (0 : Nat) < 74), (by decide : (0 : Nat) < 74)⟩
  · intro j hj
    by_cases h8 : j < 8
    · obtain ⟨y1, y2, y3, y4, y5, y6, rm, r1, r2, q0, q1, q2, q3, q4, q5⟩ := be (j / 2) (by omega)
      rcases (by omega : j = 2 * (j / 2) ∨ j = 2 * (j / 2) + 1) with e | e
      · rw [e]; exact ⟨0, 0, rm, by decide, by decide, r1, (mu2_C rfl).trans q0, (mu2_C rfl).trans q1, (mu2_C rfl).trans q2⟩
      · rw [e]; exact ⟨0, 0, 8 - rm, by decide, by decide, by omega, (mu2_C rfl).trans q3, (mu2_C rfl).trans q4, (mu2_C rfl).trans q5⟩
    · have n19 : ¬ BgS 19 j := by unfold BgS; omega
      exact ⟨0, 0, 0, by decide, by decide, by decide, g 19 j 0 n19 rfl, g 19 j 1 n19 rfl, g 19 j 2 n19 rfl⟩
  · intro j hj
    by_cases h4 : j < 4
    · exact Or.inr ((mu2_C rfl).trans (be j h4).1)
    · exact Or.inl (g 18 j 10 (by unfold BgS; omega) rfl)
theorem inv_init {μ1 : Mem} (hB : ResB 0 mu0 μ1) : Inv (mu2 μ1) := by
  obtain ⟨f1, f2⟩ := id hB.1
  have g : ∀ κ a q, ¬ BgS κ a → isM κ = false → (mu2 μ1).1 κ a q = mu0.1 κ a q := fun κ a q h1 h2 => (mu2_C h2).trans (f1 κ a q h1)
  have hc : bcap (mu2 μ1) = 16 := by
    show μ1.2.1 33 0 0 = 16
    rw [f2]; rfl
  refine ⟨0, rel_init hB, fun i h0 h12 => (mu2_M (κ := 28) (n := 14) (k := i) rfl).trans (fld_nI i h12 h0), 0, ⟨g 32 0 1 (by unfold BgS; omega) rfl, by rw [hc]; decide, Nat.zero_le _, by decide, g 32 0 3 (by unfold BgS; omega) rfl, fun k hk => ?_⟩, mu2_M rfl, fun k hk => absurd hk (Nat.not_lt_zero k)⟩
  rw [g 33 0 k (by unfold BgS; omega) rfl]; rfl
theorem fx3_init : ∃ μ1, fX3_begin 3017 0 0 mu0 = some ((), μ1) ∧ ResB 0 mu0 μ1 := c_begin (p := 0) (μ := mu0) (fun e he => ⟨4, by decide, rfl⟩) 3000
