/-! promise 33: poke -/
theorem op_poke {p : Nat} {μ ν : Mem} (h : Rel2 p μ ν) (x v : Int32) (fu gu : Nat) : Op p μ ν (fX12_poke (fu + 5) 0 x v μ) (fX13_poke (gu + 701) 0 x v ν) := by
  have h0 : Rel2 p μ (wI ν 26 0 6 0) := h
  obtain ⟨μ1, ν1, e1, e2, h1, k1, k2, ht, _, hr, hu, hw⟩ := both_remember h0
  unfold fX12_poke fX13_poke fX12_checkMemory
  simp only [jn_eq, nm_eq]
  rcases ix_cases x (n := 16) (by decide) with hx | ⟨a, ha, rfl⟩
  · rw [show (15 : Int32) = nI 15 from rfl, r_bad (by decide) hx, bnd_some, if_neg nn0, m_raise, bnd_some, wI_wI]
    refine ⟨.inl 1, μ, 0, wI ν 26 0 6 1, ?_, rfl, rfl, h, kr_nil, ⟨fun κ n k hk => ?_, fun _ _ _ _ => rfl⟩⟩
    · by_cases h1 : x < 0
      · rw [if_pos h1, bndX_inl]
      · rw [if_neg h1, if_neg (show ¬ x < 16 from Int32.not_lt.2 (hx.resolve_left h1)), bndX_inl]
    · rw [wI_at, if_neg (by omega)]
  · rw [show (15 : Int32) = nI 15 from rfl, r_ok (by omega) (by decide), bnd_some, if_pos ne10, if_neg (nI_pos (by omega)), show (16 : Int32) = nI 16 from rfl, if_pos (nI_lt ha (by decide)), bndX_inr,
      e1, e2, bnd_some, bnd_some, ckI_nI ha (by decide), ckI_nI ha (by decide), nI_clamp (by omega), show (108 : Int32) = nI 108 from rfl, nI_add, ckI_nI (by simp; omega) (by decide), ckI_nI (by simp; omega) (by decide), nI_clamp (by omega)]
    refine ⟨_, _, _, _, rfl, rfl, ⟨?_, ?_⟩, ?_, ⟨fun κ n k a b => ?_, fun κ n k a => k1.2 κ n k a⟩, ⟨fun κ n k a => ?_, fun κ n k a => k2.2 κ n k a⟩⟩
    · exact ht
    · exact h1.2.2.1.2.2.2.2.1 a ha
    · refine rel2_upd h1 (fun κ n k hk hn => ?_) rfl (fun n k _ => ?_) (fun n k => ?_) (fun n k hn => ?_) (fun k hk => ?_) ?_ (fun j hj => rel2_okQ h1 (by omega)) (fun j hj => rel2_z h1 (by omega))
      · rw [wI_at, if_neg]
        rintro ⟨rfl, rfl, rfl⟩
        exact hn.elim (by decide) (fun q => q rfl)
      · rw [wI_at, if_neg (by omega)]
      · rw [wI_at, if_neg (by omega)]
      · rw [wI_at, if_neg (fun q => hn q.2.1)]
      · rw [wI_at, if_neg (by omega)]
      · rw [wT]; exact relM_mem ha h1.2.2.1
    · rw [wI_at, if_neg (by omega)]; exact k1.1 κ n k a b
    · rw [wI_at, if_neg (by omega), k2.1 κ n k a, wI_at, if_neg (by omega)]
