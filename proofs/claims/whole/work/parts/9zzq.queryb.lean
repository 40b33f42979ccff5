/-! QUERY: the calls unfolded -/
theorem c_queryNo {F : Nat} {L : Int32} {μ : Mem} (h : ¬ ((0 : Int32) ≤ L ∧ ¬ (200 : Int32) < L ∧ L ≤ μ.1 0 0 1)) : fX12_query F 0 L μ = some (.inl 2, μ) := by
  unfold fX12_query
  simp only [jn_eq]
  by_cases g : L < 0
  · rw [if_pos g]
  · rw [if_neg g]
    by_cases g2 : (200 : Int32) < L
    · rw [if_pos g2]
    · rw [if_neg g2, if_neg (fun z => h ⟨Int32.not_lt.1 g, g2, z⟩)]
theorem m_queryNo {F : Nat} {L : Int32} {ν : Mem} (h : ¬ ((0 : Int32) ≤ L ∧ L ≤ if (200 : Int32) < ν.1 26 0 21 then 200 else ν.1 26 0 21)) : fX13_query F 0 L ν = some (0, wI ν 26 0 6 1) := by
  unfold fX13_query
  simp -implicitDefEqProofs only [jn_eq, nm_eq]
  have e : (wI ν 26 0 6 0).1 26 0 21 = ν.1 26 0 21 := wI_o (by omega)
  rw [r_inRange, bnd_some, e, if_neg h, if_neg (fun z => z rfl), m_raise, bnd_some, wI_wI]
/-- the class's answer, after the test -/
def cQe (F : Nat) (a8 : Nat) (x11 : Int32) (μ10 : Mem) : Option (RX Int32) :=
  ckB (μ10.2.1 0 0 4) 2 <| bnd (fX4_engineMask F (μ10.2.1 0 0 4) μ10) fun x15 μ14 => bnd (fX11_expectEnd 0 μ14) fun _ μ17 =>
    if (wI μ17 0 0 2 (μ17.1 2 0 8)).1 2 0 7 = 0 then (if ¬ a8 = 65 then bnd (fX12_firstEngine F (x11 &&& x15) (wI μ17 0 0 2 (μ17.1 2 0 8))) fun x24 μ23 => some (.inr x24, μ23) else bnd (fJ6_bitCount_0f7a4 (x11 &&& x15) (wI μ17 0 0 2 (μ17.1 2 0 8))) fun x26 μ25 => some (.inr x26, μ25))
    else some (.inr ((-1000000000 : Int32) - (wI μ17 0 0 2 (μ17.1 2 0 8)).1 2 0 7), wI μ17 0 0 2 (μ17.1 2 0 8))
theorem c_queryEq {F N : Nat} {μ : Mem} (hN : N ≤ 200) (hl : nI N ≤ μ.1 0 0 1) : fX12_query F 0 (nI N) μ = bnd (fX11_scan F 0 (nI N) (wI μ 0 0 1 0)) fun _ μ6 => bnd (fX11_takeRole 0 8192 μ6) fun a8 μ7 => ckB a8 74 <| bnd (fgX6 F 30 0 0 0 μ7) fun x11 μ10 => cQe F a8 x11 μ10 := by
  have g : ¬ (200 : Int32) < nI N := fun z => by
    have := Int32.lt_iff_toInt_lt.1 z
    rw [nI_toInt (by omega)] at this
    have e : (200 : Int32).toInt = 200 := rfl
    omega
  unfold fX12_query cQe
  simp -implicitDefEqProofs only [jn_eq, nm_eq]
  rw [if_neg (nI_pos (by omega)), if_neg g, if_pos hl]
/-- the model's answer, after the test -/
def mQe (F : Nat) (x6 : Int32) (μ10 : Mem) (x13 : Int32) : Option (Int32 × Mem) :=
  bnd (fX13_check 0 x13 (1 : Int32) μ10) fun _ μ14 => bnd (fX13_finish 0 μ14) fun x16 μ15 => if x16 = 0 then lp (fun _ _ _ => none) F (qB F x6) μ15 0 0 else some ((-1000000000 : Int32) - μ15.1 26 0 26, μ15)
def mQm (F : Nat) (μ5 : Mem) (x6 x9 : Int32) : Option (Int32 × Mem) :=
  bnd (fX13_check 0 x9 (1 : Int32) μ5) fun _ μ40 => bnd (fX13_advance F 0 μ40) fun _ μ41 => bnd (fgX13c F 30 0 0 μ41) fun _ μ42 =>
    if ¬ μ42.1 26 0 26 = 0 then mQe F x6 μ42 1 else if ¬ μ42.1 26 0 25 = 0 then mQe F x6 μ42 0 else mQe F x6 μ42 1
theorem m_queryEq {F N : Nat} {ν : Mem} (h : (0 : Int32) ≤ nI N ∧ nI N ≤ if (200 : Int32) < ν.1 26 0 21 then 200 else ν.1 26 0 21) : fX13_query F 0 (nI N) ν = bnd (fX13_startText F 0 (nI N) (wI (wI ν 26 0 6 0) 26 0 46 0)) fun _ μ50 => bnd (fX13_isWord F 0 55 μ50) fun x52 μ51 => if ¬ x52 = 0 then mQm F μ51 x52 1 else bnd (fX13_isWord F 0 54 μ51) fun x55 μ54 => if x55 = 0 then mQm F μ54 x52 0 else mQm F μ54 x52 1 := by
  unfold fX13_query mQm mQe qB
  simp -implicitDefEqProofs only [jn_eq, nm_eq]
  have e : (wI ν 26 0 6 0).1 26 0 21 = ν.1 26 0 21 := wI_o (by omega)
  rw [r_inRange, bnd_some, e, if_pos h, if_pos (show ¬ (1 : Int32) = 0 by decide)]
theorem c_expEnd {N n t : Nat} {c : Nat → Int32} {μ : Mem} (hn : n ≤ 1000) (h : CT N n c μ) (ht : t ≤ n) (h6 : μ.1 2 0 6 = nI t) : fX11_expectEnd 0 μ = if syA N n c t = 1 then some ((), μ) else fX11_fail 0 1 μ := by
  unfold fX11_expectEnd
  simp only [jn_eq]
  rw [c_at hn h ht h6, bnd_some]
  by_cases g : syA N n c t = 1
  · rw [if_pos g, if_pos g, if_pos (show ¬ (1 : Int32) = 0 by decide)]
  · rw [if_neg g, if_neg g, if_neg (fun z => z rfl)]
    cases fX11_fail 0 1 μ <;> rfl
theorem d_expEnd {N n : Nat} {c : Nat → Int32} {μ : Mem} (h : DD N n c μ) : fX11_expectEnd 0 μ = some ((), μ) := by
  rw [c_expEnd h.1 h.2.1 (Nat.le_refl n) h.2.2.1, if_pos (sy_end (by omega))]
theorem mQe_f {F : Nat} {x6 : Int32} {ν ν' : Mem} (h : fX13_fail 0 1 ν = some ((), ν')) : mQe F x6 ν 0 = mQe F x6 ν' 1 := by
  unfold mQe
  rw [m_chk0 h, m_chk1]
/-- both, where the test has been read: the end is asked for -/
theorem p_expEnd {N n t : Nat} {c : Nat → Int32} {μ ν : Mem} (h : PG N n c t μ ν) : ∃ μ' ν', fX11_expectEnd 0 μ = some ((), μ') ∧ (∀ F x6, (if ¬ ν.1 26 0 26 = 0 then mQe F x6 ν 1 else if ¬ ν.1 26 0 25 = 0 then mQe F x6 ν 0 else mQe F x6 ν 1) = mQe F x6 ν' 1) ∧ FcQ μ μ' ∧ FmQ ν ν' ∧ ((μ' = μ ∧ ν' = ν) ∨ PB N n c μ' ν') := by
  have h' := h
  obtain ⟨hT, hC, h6, h7, h26, ⟨hw1, hw2, hw3⟩, hB⟩ := h'
  have hn : n ≤ 1000 := Nat.le_trans hT.1 hT.2.1
  by_cases g : t < n
  · obtain ⟨μ', ν', f1, f2, f3, f4, f5⟩ := p_fail2 h (k := 1) (by decide)
    rw [if_pos g] at hw3
    have k25 : ¬ ν.1 26 0 25 = 0 := by
      rw [hw3.2.2]
      unfold tkK
      by_cases a : tkL (c (tkP c N t)) = true
      · rw [if_pos a]; decide
      · rw [if_neg a]
        by_cases b : tkD (c (tkP c N t)) = true
        · rw [if_pos b]; decide
        · rw [if_neg b]; decide
    refine ⟨μ', ν', ?_, fun F x6 => ?_, ⟨fun κ a q z _ => f4.1 κ a q z, f4.2⟩, ⟨fun κ a q z _ => f5.1 κ a q (by omega), f5.2⟩, Or.inr f3⟩
    · rw [c_expEnd hn hC hw2 h6, if_neg (sy_ne1 hT g), f1]
    · rw [if_neg (fun z => z h26), if_pos k25, mQe_f f2]
  · rw [if_neg g] at hw3
    refine ⟨μ, ν, ?_, fun F x6 => ?_, ⟨fun _ _ _ _ _ => rfl, rfl⟩, ⟨fun _ _ _ _ _ => rfl, rfl⟩, Or.inl ⟨rfl, rfl⟩⟩
    · rw [c_expEnd hn hC hw2 h6, if_pos (sy_end g)]
    · rw [if_neg (fun z => z h26), if_neg (fun z => z hw3.2.2)]
theorem b_expEnd {N n : Nat} {c : Nat → Int32} {μ ν : Mem} (h : PB N n c μ ν) : fX11_expectEnd 0 μ = some ((), μ) ∧ ∀ F x6, (if ¬ ν.1 26 0 26 = 0 then mQe F x6 ν 1 else if ¬ ν.1 26 0 25 = 0 then mQe F x6 ν 0 else mQe F x6 ν 1) = mQe F x6 ν 1 := ⟨d_expEnd (pb_dd h), fun F x6 => if_pos (b_err h)⟩
theorem op_queryNo {p : Nat} {μ ν : Mem} (h : Rel2 p μ ν) {L : Int32} (hb : ¬ ((0 : Int32) ≤ L ∧ ¬ (200 : Int32) < L ∧ L ≤ μ.1 0 0 1)) (hm : ¬ ((0 : Int32) ≤ L ∧ L ≤ if (200 : Int32) < ν.1 26 0 21 then 200 else ν.1 26 0 21)) (fu : Nat) : OpI p μ ν (fX12_query (fu + 2001) 0 L μ) (fX13_query (fu + 2001) 0 L ν) := op_badI h (c_queryNo hb) (m_queryNo hm)
