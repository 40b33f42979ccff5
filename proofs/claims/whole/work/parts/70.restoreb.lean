theorem c_restore_no {μ : Mem} (h : μ.1 0 0 12 = 0) (fu : Nat) : fX12_restoreSnapshot fu 0 μ = some (0, μ) := by
  unfold fX12_restoreSnapshot
  rw [if_neg (fun q => q h)]
  exact ckZ_ok (Or.inl rfl)
theorem c_restore {p : Nat} {μ ν : Mem} (h : Rel2 p μ ν) (hs : μ.1 0 0 12 = 1) (fu : Nat) : fX12_restoreSnapshot (fu + 5) 0 μ = some (1, resC μ) := by
  unfold fX12_restoreSnapshot
  rw [if_pos (by rw [hs]; decide), cp_machine (by decide) (fun e he => rel2_z h (by omega)), bnd_some, nm_eq]
  exact ckZ_ok (Or.inr rfl)
theorem m_restore_no {ν : Mem} (h : ν.1 26 0 7 = 0) (fu : Nat) : fX13_restoreSnapshot fu 0 ν = some (0, wI ν 26 0 6 0) := by
  unfold fX13_restoreSnapshot
  rw [nm_eq, if_neg (fun q => q h)]
  exact ckZ_ok (Or.inl rfl)
theorem m_restore {ν : Mem} (h : ν.1 26 0 7 = 1) (fu : Nat) : fX13_restoreSnapshot (fu + 701) 0 ν = some (1, resM ν) := by
  have e : fX13_copy (fu + 701) 3 0 0 0 (wI ν 26 0 6 0) = _ := m_copy (a := 3) (r := 0) (b := 0) (s := 0) (Or.inl (by decide)) (by decide) (by decide) fu
  unfold fX13_restoreSnapshot
  rw [nm_eq, if_pos (by rw [show (wI ν 26 0 6 0).1 26 0 7 = ν.1 26 0 7 from rfl, h]; decide), e, bnd_some, nm_eq]
  exact ckZ_ok (Or.inr rfl)
