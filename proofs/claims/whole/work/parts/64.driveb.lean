/-! promise 31: drive -/
theorem nI_b2 {j : Nat} (h : j < 2) : nI j = b2 (decide (j = 1)) := by
  have : j = 0 ∨ j = 1 := by omega
  rcases this with h | h <;> subst h <;> rfl
theorem op_drive {p : Nat} {μ ν : Mem} (h : Rel2 p μ ν) (x v : Int32) (fu gu : Nat) : Op p μ ν (fX12_drive (fu + 5) 0 x v μ) (fX13_drive (gu + 701) 0 x v ν) := by
  have h0 : Rel2 p μ (wI ν 26 0 6 0) := h
  obtain ⟨μ1, ν1, e1, e2, h1, k1, k2, ht, _, hr, hu, hw⟩ := both_remember h0
  unfold fX12_drive fX13_drive
  simp only [nm_eq]
  rcases ix_cases x (n := 16) (by decide) with hx | ⟨q, hq, rfl⟩
  · rw [bad_pin hx, bndX_inl, m_isPin_bad hx, bnd_some, if_neg nn0, m_raise, bnd_some, wI_wI]
    refine ⟨.inl 1, μ, 0, wI ν 26 0 6 1, rfl, rfl, rfl, h, kr_nil, ⟨fun κ n k hk => ?_, fun _ _ _ _ => rfl⟩⟩
    rw [wI_at, if_neg (by omega)]
  · rw [ok_pin hq, bndX_inr, m_isPin_ok hq, bnd_some, if_pos ne10]
    rcases ix_cases v (n := 2) (by decide) with hv | ⟨j, hj, rfl⟩
    · have ei : fX13_inRange v 0 1 (wI ν 26 0 6 0) = some (0, wI ν 26 0 6 0) := r_bad (n := 1) (by decide) hv
      rw [c_checkLevel_bad hv, bndX_inl, ei, bnd_some, if_neg nn0, m_raise, bnd_some, wI_wI]
      refine ⟨.inl 2, μ, 0, wI ν 26 0 6 2, rfl, rfl, rfl, h, kr_nil, ⟨fun κ n k hk => ?_, fun _ _ _ _ => rfl⟩⟩
      rw [wI_at, if_neg (by omega)]
    · have ei : fX13_inRange (nI j) 0 1 (wI ν 26 0 6 0) = some (1, wI ν 26 0 6 0) := r_ok (n := 1) (by omega) (by decide)
      obtain ⟨b, hb⟩ : ∃ b, nI j = b2 b := ⟨_, nI_b2 hj⟩
      rw [c_checkLevel_ok hj, bndX_inr, ei, bnd_some, if_pos ne10, e1, e2, bnd_some, bnd_some, hb]
      have ep : fX13_putPin 0 (nI q) 2 (b2 b) ν1 = some ((), wI ν1 27 0 (4 + 6 * q + 2) (b2 b)) := r_putPin (f := 2) (by omega)
      unfold fX3_driveOutside
      rw [ep, nm_eq, bnd_some, bnd_some, c_levels, bnd_some, bit_at (by omega), bt_lvl (by omega)]
      generalize hwv : ((μ1.1 12 0 3 &&& (((1 : Int32) <<< (nI q &&& 31)) ^^^ (-1))) ||| (b2 b <<< (nI q &&& 31))) = w
      have hbits : ∀ q', q' < 16 → bt w q' = if q' = q then b else bt (μ1.1 12 0 3) q' := fun q' hq' => by rw [← hwv]; exact bt_put b (by omega) (by omega)
      have M := relM_drive hq hbits (rel2_now h1)
      have R : Rel2 p (wI μ1 12 0 3 w) (wI ν1 27 0 (4 + 6 * q + 2) (b2 b)) := by
        refine rel2_upd h1 (fun κ n k hk hn => ?_) rfl (fun n k _ => ?_) (fun n k => ?_) (fun n k hn => ?_) (fun k hk => ?_) ?_ (fun j hj => rel2_okQ h1 (by omega)) (fun j hj => rel2_z h1 (by omega))
        · rw [wI_at, if_neg]
          rintro ⟨rfl, rfl, rfl⟩
          exact hn.elim (by decide) (fun q => q rfl)
        · rw [wI_at, if_neg (by omega)]
        · rw [wI_at, if_neg (by omega)]
        · rw [wI_at, if_neg (fun q => hn q.2.1)]
        · rw [wI_at, if_neg (by omega)]
        · rw [wT]; exact M
      have hp := rel2_pin R hq
      rw [m_levelOf hq hp.2.1 hp.1 hp.2.2.1, bnd_some]
      refine ⟨_, _, _, _, rfl, rfl, ⟨ht, ?_⟩, R, ⟨fun κ n k a b => ?_, fun κ n k a => k1.2 κ n k a⟩, ⟨fun κ n k a => ?_, fun κ n k a => k2.2 κ n k a⟩⟩
      · unfold lvl; rfl
      · rw [wI_at, if_neg (by omega)]; exact k1.1 κ n k a b
      · rw [wI_at, if_neg (by omega), k2.1 κ n k a, wI_at, if_neg (by omega)]
