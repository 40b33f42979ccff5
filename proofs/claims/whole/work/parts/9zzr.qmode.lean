/-! QUERY: many or first -/
/-- the model's reading, after the mode -/
def mQr (F : Nat) (x6 : Int32) (μ41 : Mem) : Option (Int32 × Mem) := bnd (fgX13c F 30 0 0 μ41) fun _ μ42 => if ¬ μ42.1 26 0 26 = 0 then mQe F x6 μ42 1 else if ¬ μ42.1 26 0 25 = 0 then mQe F x6 μ42 0 else mQe F x6 μ42 1
def mQx (F : Nat) (μ50 : Mem) : Option (Int32 × Mem) := bnd (fX13_isWord F 0 55 μ50) fun x52 μ51 => if ¬ x52 = 0 then mQm F μ51 x52 1 else bnd (fX13_isWord F 0 54 μ51) fun x55 μ54 => if x55 = 0 then mQm F μ54 x52 0 else mQm F μ54 x52 1
theorem m_adv {F : Nat} {ν ν1 : Mem} (h : ν.1 26 0 26 = 0) (s : fX13_scan F 0 ν = some ((), ν1)) : fX13_advance F 0 ν = some ((), ν1) := by
  unfold fX13_advance
  simp only [jn_eq]
  rw [if_neg (fun z => z h), s, bnd_some]
theorem q_roles : ∀ r, r < 74 → r ≠ 65 → r ≠ 66 → syR.getD r 0 &&& 8192 = 0 := by decide
theorem p_qMode {N n : Nat} {c : Nat → Int32} {μ ν : Mem} (h : PG N n c 0 μ ν) (fu : Nat) : ∃ a8 x6 μ' ν', fX11_takeRole 0 8192 μ = some (a8, μ') ∧ a8 < 74 ∧ mQx (fu + 1001) ν = mQr (fu + 1001) x6 ν' ∧ FcQ μ μ' ∧ FPm ν ν' ∧ ((PG N n c 1 μ' ν' ∧ (a8 = 65 ∧ x6 = 0 ∨ a8 = 66 ∧ x6 = 1)) ∨ PB N n c μ' ν') := by
  have h' := h
  obtain ⟨hT, hC, h6, h7, h26, ⟨hw1, hw2, hw3⟩, hB⟩ := h'
  have hn : n ≤ 1000 := Nat.le_trans hT.1 hT.2.1
  have fc : FcQ μ (wI μ 2 0 6 (nI (0 + 1))) := ⟨fun κ a q z _ => wI_o (by omega), rfl⟩
  by_cases q66 : syA N n c 0 = 66
  · obtain ⟨yw, ν1, -, ys, gt, pg, fm⟩ := yes_acc h 66 55 (by decide) q66 fu
    refine ⟨66, 1, _, ν1, ?_, by decide, ?_, fc, fm, Or.inl ⟨pg, Or.inr ⟨rfl, rfl⟩⟩⟩
    · rw [c_takeRole hn hC hw2 h6 (by rw [q66]; decide), q66]
    · unfold mQx mQm mQr
      rw [yw, bnd_some, if_pos (show ¬ (1 : Int32) = 0 by decide), m_chk1, bnd_some, m_adv h26 ys, bnd_some]
  · have n66 := (no_acc h 66 55 (by decide) q66 fu).2
    by_cases q65 : syA N n c 0 = 65
    · obtain ⟨yw, ν1, -, ys, gt, pg, fm⟩ := yes_acc h 65 54 (by decide) q65 fu
      refine ⟨65, 0, _, ν1, ?_, by decide, ?_, fc, fm, Or.inl ⟨pg, Or.inl ⟨rfl, rfl⟩⟩⟩
      · rw [c_takeRole hn hC hw2 h6 (by rw [q65]; decide), q65]
      · unfold mQx mQm mQr
        rw [n66, bnd_some, if_neg (fun z => z rfl), yw, bnd_some, if_neg (show ¬ (1 : Int32) = 0 by decide), m_chk1, bnd_some, m_adv h26 ys, bnd_some]
    · have n65 := (no_acc h 65 54 (by decide) q65 fu).2
      obtain ⟨μ', ν', f1, f2, f3, f4, f5⟩ := p_fail2 h (k := 1) (by decide)
      refine ⟨0, 0, μ', ν', c_noRole hn hC hw2 h6 (q_roles _ syA_lt q65 q66) f1, by decide, ?_, ⟨fun κ a q z _ => f4.1 κ a q z, f4.2⟩, f5, Or.inr f3⟩
      unfold mQx mQm mQr
      rw [n66, bnd_some, if_neg (fun z => z rfl), n65, bnd_some, if_pos rfl, m_chk0 f2, bnd_some, b_advance f3, bnd_some]
