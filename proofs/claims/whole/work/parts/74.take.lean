/-! promise 28: take -/
def OpL (p : Nat) (μ ν : Mem) (fc : Option (RX Int64)) (fr : Option (Int64 × Mem)) : Prop :=
  ∃ x μ' y ν', fc = some (x, μ') ∧ fr = some (y, ν') ∧ AnsL x y (ν'.1 26 0 6) ∧ Rel2 p μ' ν' ∧ KR μ μ' ∧ KC ν ν'
theorem op_take {p : Nat} {μ ν : Mem} (h : Rel2 p μ ν) (x : Int32) (fu gu : Nat) : OpL p μ ν (fX12_take (fu + 5) 0 x μ) (fX13_take (gu + 701) 0 x ν) := by
  have h0 : Rel2 p μ (wI ν 26 0 6 0) := h
  obtain ⟨μ1, ν1, e1, e2, h1, k1, k2, ht, _, hr, hu, hw⟩ := both_remember h0
  unfold fX12_take fX13_take
  simp only [nm_eq]
  rcases eng2_cases h0 x with ⟨a, b⟩ | ⟨e, he, rfl, a, b, c⟩
  · rw [c_queue_bad a, b, bndX_inl, bnd_some, if_neg nn0, m_raise, bnd_some, wI_wI]
    refine ⟨.inl 1, μ, _, wI ν 26 0 6 1, rfl, rfl, rfl, h, kr_nil, ⟨fun κ n k hk => ?_, fun _ _ _ _ => rfl⟩⟩
    rw [wI_at, if_neg (by omega)]
  · have eq : qOf e 1 = 2 * e + 1 := if_neg (by decide)
    have E := rel2_engine h0 he c
    obtain ⟨s, hh, r, hs, hr8, h8, g1, g2, g3, g4, g5, g6⟩ := E.2.2.2.2.2.2.2.2.2
    have of12 : fX13_of 0 (nI e) 12 (wI ν 26 0 6 0) = some (nI s, wI ν 26 0 6 0) := by
      rw [← g4]; exact r_of (f := 12) (by omega)
    rw [c_queue_at he a, eq, bndX_inr, ckB_ok (by omega), b, bnd_some, if_pos ne10, of12, bnd_some, g1]
    by_cases hf : 0 < s
    · have u9 : ∀ k, μ1.1 19 (2 * e + 1) k = μ.1 19 (2 * e + 1) k := fun k => hu 19 _ k (by decide) (by decide) (Or.inr (show (2 * e + 1) / 8 = 0 by omega))
      have u0 : ∀ k, μ1.1 20 (2 * e + 1) k = μ.1 20 (2 * e + 1) k := fun k => hu 20 _ k (by decide) (by decide) (Or.inr (show (2 * e + 1) / 8 = 0 by omega))
      have q1 := (u9 0).trans g1
      have q2 := (u9 1).trans g2
      have q3 := (u9 2).trans g3
      have m1 : tN ν1 (560 + 35 * e + 12) = nI s := (hw _).trans g4
      have mf := m_first (y := 1) he (Or.inr ⟨by decide, rfl, rfl⟩) m1 hf (by omega) (gu + 693)
      rw [if_pos (nI_ne0 hf (by omega)), if_pos (nI_ne0 hf (by omega)), e1, e2, bnd_some, bnd_some, c_first q1 q3 hf (by omega) h8, show gu + 701 = gu + 693 + 8 by omega, mf, bnd_some, bnd_some]
      have w0 : tN ν1 (560 + 35 * e + 21) = μ1.1 20 (2 * e + 1) hh := by
        have := g6 0 hf
        rw [show (hh + 0) % 8 = hh by omega] at this
        exact (hw _).trans (this.trans (u0 hh).symm)
      have tO : ∀ k, k ≠ 560 + 35 * e + 12 → ¬ (560 + 35 * e + 21 ≤ k ∧ k < 560 + 35 * e + 21 + (s - 1)) → (wI (shQ e 21 (s - 1) ν1) 27 0 (560 + 35 * e + 12) (nI (s - 1))).1 27 0 k = ν1.1 27 0 k := fun k a b => by
        rw [wI_at, if_neg (fun q => a q.2.2)]
        exact if_neg (fun q => b ⟨q.2.2.1, q.2.2.2⟩)
      have tS : ∀ k, k < s - 1 → (wI (shQ e 21 (s - 1) ν1) 27 0 (560 + 35 * e + 12) (nI (s - 1))).1 27 0 (560 + 35 * e + (21 + k)) = ν1.1 27 0 (560 + 35 * e + (21 + (k + 1))) := fun k a => by
        rw [wI_at, if_neg (by omega)]
        exact if_pos ⟨rfl, rfl, by omega, by omega⟩
      have mO : ∀ κ n k, κ ≠ 27 ∨ n ≠ 0 → (wI (shQ e 21 (s - 1) ν1) 27 0 (560 + 35 * e + 12) (nI (s - 1))).1 κ n k = ν1.1 κ n k := fun κ n k q => by
        rw [wI_at, if_neg (fun z => q.elim (fun q => q z.1) (fun q => q z.2.1))]
        exact if_neg (fun z => q.elim (fun q => q z.1) (fun q => q z.2.1))
      have cO : ∀ κ n k, ¬ (κ = 19 ∧ n = 2 * e + 1) → (remQ (2 * e + 1) s hh μ1).1 κ n k = μ1.1 κ n k := fun κ n k q => by
        unfold remQ; rw [wI_at, if_neg (fun z => q ⟨z.1, z.2.1⟩), wI_at, if_neg (fun z => q ⟨z.1, z.2.1⟩)]
      have hm : (hh + 1) % 8 < 8 := Nat.mod_lt _ (by decide)
      have p0 : (remQ (2 * e + 1) s hh μ1).1 19 (2 * e + 1) 0 = nI (s - 1) := wI_same
      have p1 : (remQ (2 * e + 1) s hh μ1).1 19 (2 * e + 1) 1 = nI r := by
        unfold remQ; rw [wI_at, if_neg (by omega), wI_at, if_neg (by omega)]; exact q2
      have p2 : (remQ (2 * e + 1) s hh μ1).1 19 (2 * e + 1) 2 = nI ((hh + 1) % 8) := by
        unfold remQ; rw [wI_at, if_neg (by omega)]; exact wI_same
      refine ⟨_, _, _, _, rfl, rfl, ⟨?_, ?_⟩, ?_, ⟨fun κ n k a b => ?_, fun κ n k a => k1.2 κ n k a⟩, ⟨fun κ n k a => ?_, fun κ n k a => k2.2 κ n k a⟩⟩
      · rw [mO _ _ _ (Or.inl (by decide))]; exact ht
      · rw [w0]
      · refine rel2_upd h1 (fun κ n k hk hn => cO κ n k ?_) rfl (fun n k _ => mO _ _ _ (Or.inl (by decide))) (fun n k => mO _ _ _ (Or.inl (by decide))) (fun n k hn => mO _ _ _ (Or.inr hn)) (fun k hk => tO k (by omega) (by omega)) ?_ (fun j hj => ?_) (fun j hj => ?_)
        · rintro ⟨rfl, rfl⟩
          exact hn.elim (by decide) (fun q => q (show (2 * e + 1) / 8 = 0 by omega))
        · refine relM_q (t := 1) he (by decide) (fun κ n k q => cO κ n k (fun z => q ⟨Or.inl z.1, z.2⟩)) (fun k hk q => tO k (by omega) (by omega)) (fun _ => ?_) (rel2_now h1)
          refine ⟨s - 1, (hh + 1) % 8, r, by omega, hr8, hm, p0, p1, p2, wI_same, (hw _).trans g5, fun k hk => ?_⟩
          have := g6 (k + 1) (by omega)
          rw [cO 20 _ _ (by omega), show ((hh + 1) % 8 + k) % 8 = (hh + (k + 1)) % 8 by omega, u0]
          exact (tS k hk).trans ((hw _).trans this)
        · by_cases hj2 : j = 2 * e + 1
          · subst hj2
            exact ⟨s - 1, (hh + 1) % 8, r, by omega, hm, hr8, p0, p1, p2⟩
          · obtain ⟨s, hh, r, a, b, c, d1, d2, d3⟩ := rel2_okQ h1 (show j < 104 by omega)
            exact ⟨s, hh, r, a, b, c, (cO _ _ _ (fun q => hj2 q.2)).trans d1, (cO _ _ _ (fun q => hj2 q.2)).trans d2, (cO _ _ _ (fun q => hj2 q.2)).trans d3⟩
        · rw [cO _ _ _ (by omega)]; exact rel2_z h1 (by omega)
      · rw [cO _ _ _ (by omega)]; exact k1.1 κ n k a b
      · rw [mO _ _ _ (Or.inl (by omega)), k2.1 κ n k a, wI_at, if_neg (by omega)]
    · have hs0 : s = 0 := by omega
      subst hs0
      rw [if_neg (show ¬ ¬ nI 0 = 0 from nn0), if_neg (show ¬ ¬ nI 0 = 0 from nn0)]
      refine ⟨.inr (-2), μ, -2, wI ν 26 0 6 0, rfl, rfl, ⟨rfl, rfl⟩, h, kr_nil, ⟨fun κ n k hk => ?_, fun _ _ _ _ => rfl⟩⟩
      rw [wI_at, if_neg (by omega)]
